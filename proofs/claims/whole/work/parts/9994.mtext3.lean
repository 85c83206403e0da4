/-! the model's texts: readsPrime -/
theorem prI_b {n : Nat} : prI n = b2c (Pr n) := rfl
section MPRIME
variable {g : GT} {S0 S : PS} {mc ms : Nat} {kc ks : Nat} {m : Nat} {bf a : Int → Int} {km th bu sz ea bs bw bt' : Int}
/-- a piece of the grammar is read by the model: the token behind it, or the error -/
def RM1 (S0 S : PS) (m : Nat) (bf : Int → Int) (km th bu sz ea bs bw bt' : Int) (R : Int × Int × (Int → Int)) : Prop := (R.1 = 0 ∧ TM S0 S m bf km th bu sz ea bs bw bt' R.2.1 R.2.2) ∨ (R.1 ≠ 0 ∧ ∃ fr', WM S0 S m bf km th bu sz ea bs bw bt' R.1 R.2.1 fr')
theorem WM.o {er p : Int} {fr : Int → Int} (hW : WM S0 S m bf km th bu sz ea bs bw bt' er p fr) : (-4 ≤ er ∧ er < 0) ∧ S.1 (m + 2) = some (cJ 215 fr) ∧ ∃ at' be ki nu : Int, S.1 m = some (mO m km th bu sz at' be ki er p ea nu bs bw bt') := ⟨hW.2.2.2.1, hW.2.2.1, hW.2.2.2.2⟩
theorem c_X10_readsPrime {p : Int} (hX : TxtB g) (hL : TxtL g) (hT : TM S0 S m bf km th bu sz ea bs bw bt' p a) (ha : NB a) (hw : wdB (seeI bf sz) chP p) : PC g yX10_readsPrime cX10_readsPrime (iX10_readsPrime mc ms) [.ref m] S (fun o S' => o = .inl none ∧ RM1 S0 S' m bf km th bu sz ea bs bw bt' (prmB (seeI bf sz) p a)) := by
  have h0 := ha.1.1
  have hB : BOk (seeI bf sz) sz := seeI_ok hT.2.2.2.2.2.1
  have hp := hT.2.2.2.2.2.2.1
  have hp5 := wdB_P hB hw
  have hlt := wd_lt hB LwP hw
  have heE : tkE (seeI bf sz) sz p = p + 5 := by
    unfold tkE
    rw [if_neg (by omega), if_pos hlt.2.1, hlt.2.2]
    rfl
  have hq := sk_ok hB (p := p + 5) (by omega) hp5
  have hd := dgE_ok hB (p := sk (seeI bf sz) (p + 5)) (by omega) hq.2.2
  generalize hR : prmB (seeI bf sz) p a = R
  have hE84 : ∀ (S : PS) (v er ps : Int), WM S0 S m bf km th bu sz ea bs bw bt' er ps a → R.1 = er → R.2.1 = ps → PW g cX10_readsPrime (iX10_readsPrime mc ms) 84 [(0, some (.ref m)), (1, some (vi (a 0))), (2, some (vi v))] [] S mc ms (fun o S' => o = .inl none ∧ RM1 S0 S' m bf km th bu sz ea bs bw bt' R) := fun S v er ps hW r1 r2 => by
    obtain ⟨w1, w2, a1, a2, a3, a4, w3⟩ := hW.o
    refine r_aload_n dX10_readsPrime_84 (i := 0) rfl rfl (r_aload_n dX10_readsPrime_85 (i := 0) rfl rfl (r_get dX10_readsPrime_86 fl_X10_82 w3 rfl ?_))
    refine r_if_ne 96 dX10_readsPrime_89 (by decide) (by omega) (fun c1 => ?_) (fun c1 => ?_)
    · refine r_iconst dX10_readsPrime_96 (c_vn dX10_readsPrime_97 (c_X10_mustW hW ⟨by omega, by omega⟩) rfl rfl mq_X10_must ml_X10_111 ⟨Nat.le_of_ble_eq_true rfl, Nat.le_of_ble_eq_true rfl⟩ w3 rfl rfl rfl (Nat.le_of_ble_eq_true rfl) (r_aload_n dX10_readsPrime_100 (i := 0) rfl rfl (r_aload_n dX10_readsPrime_101 (i := 0) rfl rfl (r_bipush dX10_readsPrime_102 (by decide) ?_))))
      refine c_vr dX10_readsPrime_104 (c_X10_isSignW hW) rfl rfl mq_X10_isSign ml_X10_123 ⟨Nat.le_of_ble_eq_true rfl, Nat.le_of_ble_eq_true rfl⟩ w3 rfl rfl rfl (Nat.le_of_ble_eq_true rfl) (c_vn dX10_readsPrime_107 (c_X10_mustW hW ⟨by omega, by omega⟩) rfl rfl mq_X10_must ml_X10_111 ⟨Nat.le_of_ble_eq_true rfl, Nat.le_of_ble_eq_true rfl⟩ w3 rfl rfl rfl (Nat.le_of_ble_eq_true rfl) (r_aload_n dX10_readsPrime_110 (i := 0) rfl rfl (r_get dX10_readsPrime_111 fl_X10_82 w3 rfl ?_)))
      refine r_if_eq 118 dX10_readsPrime_114 (by decide) (by omega) (fun c2 => ?_) (fun c2 => ?_)
      · omega
      · refine r_vret dX10_readsPrime_117 rfl ?_
        subst r1
        subst r2
        exact ⟨rfl, Or.inr ⟨by omega, a, hW⟩⟩
    · omega
  have hL53 : ∀ (S : PS) (v er ps : Int), (0 ≤ v ∧ v ≤ 100200) → WM S0 S m bf km th bu sz ea bs bw bt' er ps a → R.1 = er → R.2.1 = ps → ∀ (k i : Nat), (i : Int) + k = a 0 → PW g cX10_readsPrime (iX10_readsPrime mc ms) 53 [(0, some (.ref m)), (1, some (vi (a 0))), (2, some (vi v)), (3, some (vi (i : Int)))] [] S mc ms (fun o S' => o = .inl none ∧ RM1 S0 S' m bf km th bu sz ea bs bw bt' R) := fun S v er ps hv hW r1 r2 k => by
    obtain ⟨w1, w2, a1, a2, a3, a4, w3⟩ := hW.o
    induction k with
    | zero =>
      intro i hi
      refine r_iload_n dX10_readsPrime_53 (i := 3) rfl rfl (r_iload_n dX10_readsPrime_54 (i := 1) rfl rfl ?_)
      refine r_icmp_ge 84 dX10_readsPrime_55 (by decide) (by omega) (by omega) (fun c1 => ?_) (fun c1 => ?_)
      · exact r_loc [(0, some (.ref m)), (1, some (vi (a 0))), (2, some (vi v))] ⟨Or.inl rfl, Or.inl rfl, Or.inl rfl, trivial⟩ (hE84 S v er ps hW r1 r2)
      · omega
    | succ k ih =>
      intro i hi
      have hai := ha.1.2 (i : Int) (by omega) (by omega)
      have hnext : PW g cX10_readsPrime (iX10_readsPrime mc ms) 78 [(0, some (.ref m)), (1, some (vi (a 0))), (2, some (vi v)), (3, some (vi (i : Int)))] [] S mc ms (fun o S' => o = .inl none ∧ RM1 S0 S' m bf km th bu sz ea bs bw bt' R) := by
        refine r_iinc dX10_readsPrime_78 rfl rfl (r_goto 53 dX10_readsPrime_81 (by decide) ?_)
        exact r_loc [(0, some (.ref m)), (1, some (vi (a 0))), (2, some (vi v)), (3, some (vi ((i + 1 : Nat) : Int)))] ⟨Or.inl rfl, Or.inl rfl, Or.inl rfl, Or.inl rfl, trivial⟩ (ih (i + 1) (by omega))
      refine r_iload_n dX10_readsPrime_53 (i := 3) rfl rfl (r_iload_n dX10_readsPrime_54 (i := 1) rfl rfl ?_)
      refine r_icmp_ge 84 dX10_readsPrime_55 (by decide) (by omega) (by omega) (fun c1 => ?_) (fun c1 => ?_)
      · omega
      · refine r_aload_n dX10_readsPrime_58 (i := 0) rfl rfl (r_get dX10_readsPrime_59 fl_X10_13 w3 rfl (r_iconst dX10_readsPrime_62 (r_iload_n dX10_readsPrime_63 (i := 3) rfl rfl (r_iadd dX10_readsPrime_64 ?_))))
        refine r_lald dX10_readsPrime_65 w2 (by omega) (by omega) (by omega) (r_iload_n dX10_readsPrime_66 (i := 2) rfl rfl (r_i2l dX10_readsPrime_67 (by omega) ?_))
        refine r_lcmp_ne 78 dX10_readsPrime_68 dX10_readsPrime_69 (by decide) (by omega) (by omega) (fun c2 => ?_) (fun c2 => ?_)
        · exact hnext
        · refine r_aload_n dX10_readsPrime_72 (i := 0) rfl rfl (r_bipush dX10_readsPrime_73 (by decide) (c_vn dX10_readsPrime_75 (c_X10_fW hW) rfl rfl mq_X10_fails ml_X10_98 ⟨Nat.le_of_ble_eq_true rfl, Nat.le_of_ble_eq_true rfl⟩ w3 rfl rfl rfl (Nat.le_of_ble_eq_true rfl) ?_))
          exact hnext
  have hW38 : ∀ (S : PS) (v er ps : Int), (0 ≤ v ∧ v ≤ 100200) → WM S0 S m bf km th bu sz ea bs bw bt' er ps a → R.1 = er → R.2.1 = ps → PW g cX10_readsPrime (iX10_readsPrime mc ms) 38 [(0, some (.ref m)), (1, some (vi (a 0))), (2, some (vi v))] [] S mc ms (fun o S' => o = .inl none ∧ RM1 S0 S' m bf km th bu sz ea bs bw bt' R) := fun S v er ps hv hW r1 r2 => by
    obtain ⟨w1, w2, a1, a2, a3, a4, w3⟩ := hW.o
    have h51 : PW g cX10_readsPrime (iX10_readsPrime mc ms) 51 [(0, some (.ref m)), (1, some (vi (a 0))), (2, some (vi v))] [] S mc ms (fun o S' => o = .inl none ∧ RM1 S0 S' m bf km th bu sz ea bs bw bt' R) := by
      refine r_iconst dX10_readsPrime_51 (r_istore_n dX10_readsPrime_52 (i := 3) rfl rfl (Nat.le_of_ble_eq_true rfl) ?_)
      exact r_loc [(0, some (.ref m)), (1, some (vi (a 0))), (2, some (vi v)), (3, some (vi ((0 : Nat) : Int)))] ⟨Or.inl rfl, Or.inl rfl, Or.inl rfl, Or.inl rfl, trivial⟩ (hL53 S v er ps hv hW r1 r2 (a 0).toNat 0 (by omega))
    refine r_iload_n dX10_readsPrime_38 (i := 2) rfl rfl (c_sr dX10_readsPrime_39 (c_X10_isPrimeI hv) rfl rfl mq_X10_isPrime ml_X10_120 ⟨Nat.le_of_ble_eq_true rfl, Nat.le_of_ble_eq_true rfl⟩ rfl rfl (Nat.le_of_ble_eq_true rfl) ?_)
    rw [prI_b]
    refine r_if_ne 51 dX10_readsPrime_42 (by decide) b2c_RI (fun c1 => ?_) (fun c1 => ?_)
    · exact h51
    · refine r_aload_n dX10_readsPrime_45 (i := 0) rfl rfl (r_bipush dX10_readsPrime_46 (by decide) (c_vn dX10_readsPrime_48 (c_X10_fW hW) rfl rfl mq_X10_fails ml_X10_98 ⟨Nat.le_of_ble_eq_true rfl, Nat.le_of_ble_eq_true rfl⟩ w3 rfl rfl rfl (Nat.le_of_ble_eq_true rfl) ?_))
      exact h51
  refine PC_of pnX10 rfl rfl rfl (Nat.le_of_ble_eq_true rfl) ?_
  obtain ⟨wa, nu, ho⟩ := hT.o
  have hfr := hT.2.2.1
  refine r_aload_n dX10_readsPrime_0 (i := 0) rfl rfl (r_get dX10_readsPrime_1 fl_X10_13 ho rfl (r_iconst dX10_readsPrime_4 (r_lald dX10_readsPrime_5 hfr (by omega) (by omega) (by omega) (r_l2i dX10_readsPrime_6 ?_))))
  refine r_istore_n dX10_readsPrime_7 (i := 1) rfl rfl (Nat.le_of_ble_eq_true rfl) (r_iload_n dX10_readsPrime_8 (i := 1) rfl rfl (r_bipush dX10_readsPrime_9 (by decide) ?_))
  refine r_icmp_ne 20 dX10_readsPrime_11 (by decide) (by omega) (by omega) (fun c1 => ?_) (fun c1 => ?_)
  · have h6 : ¬ a 0 = 6 := c1
    refine r_aload_n dX10_readsPrime_20 (i := 0) rfl rfl (r_aload_n dX10_readsPrime_21 (i := 0) rfl rfl (r_ldcS dX10_readsPrime_22 (List.mem_of_getElem? (i := 20) rfl) (fun qs hqs => c_vr dX10_readsPrime_24 (c_X10_isWordT hX (hL.2.2.1 qs hqs) LwP hT) rfl rfl mq_X10_isWord ml_X10_107 ⟨Nat.le_of_ble_eq_true rfl, Nat.le_of_ble_eq_true rfl⟩ ho rfl rfl rfl (Nat.le_of_ble_eq_true rfl) ?_)))
    rw [b2c_t hw]
    refine c_vq dX10_readsPrime_27 (c_X10_must1 hT) rfl rfl mq_X10_must ml_X10_111 ⟨Nat.le_of_ble_eq_true rfl, Nat.le_of_ble_eq_true rfl⟩ ho rfl rfl rfl (Nat.le_of_ble_eq_true rfl) (fun E S' h => by simp at h) (fun v S1 hn => ?_)
    obtain ⟨e1, hT1⟩ := hn
    cases e1
    rw [heE] at hT1
    obtain ⟨wa1, nu1, ho1⟩ := hT1.o
    show PW _ _ _ 30 _ [] _ _ _ _
    refine r_aload_n dX10_readsPrime_30 (i := 0) rfl rfl (r_iconst dX10_readsPrime_31 (r_ldc dX10_readsPrime_32 cst_X10_115 ?_))
    refine c_vq dX10_readsPrime_34 (c_X10_seesT hT1 ⟨by omega, by omega⟩ ⟨by omega, by omega⟩) rfl rfl mq_X10_sees ml_X10_116 ⟨Nat.le_of_ble_eq_true rfl, Nat.le_of_ble_eq_true rfl⟩ ho1 rfl rfl rfl (Nat.le_of_ble_eq_true rfl) (fun E S' h => by simp at h) (fun v S2 hn => ?_)
    rcases hn with ⟨n1, n2, n3, n4⟩ | ⟨n3, n1, n2, hW⟩ | ⟨n3, n1, hW⟩
    · cases n3
      subst n4
      have e : prmB (seeI bf sz) p a = if b2c (canAdd a (nmB (seeI bf sz) 600 (sk (seeI bf sz) (p + 5)) 0)) = 1 then semB (seeI bf sz) (dgE (seeI bf sz) (sk (seeI bf sz) (p + 5))) (addA a (nmB (seeI bf sz) 600 (sk (seeI bf sz) (p + 5)) 0)) else (-3, sk (seeI bf sz) (p + 5), a) := by
        unfold prmB
        rw [if_neg h6, if_pos n1]
      rw [e] at hR
      have heq : tkE (seeI bf sz) sz (sk (seeI bf sz) (p + 5)) = dgE (seeI bf sz) (sk (seeI bf sz) (p + 5)) := by
        have h9 := dg_lt hB n1
        have hdd := of_decide_eq_true n1
        unfold tkE
        rw [if_neg (by omega), if_neg (by unfold ltB; rw [decide_eq_true_eq]; omega), if_pos n1]
      generalize nmB (seeI bf sz) 600 (sk (seeI bf sz) (p + 5)) 0 = v at n2 hR ⊢
      show PW _ _ _ 37 _ [vi v] _ _ _ _
      refine r_istore_n dX10_readsPrime_37 (i := 2) rfl rfl (Nat.le_of_ble_eq_true rfl) (r_iload_n dX10_readsPrime_38 (i := 2) rfl rfl (c_sr dX10_readsPrime_39 (c_X10_isPrimeI (by omega)) rfl rfl mq_X10_isPrime ml_X10_120 ⟨Nat.le_of_ble_eq_true rfl, Nat.le_of_ble_eq_true rfl⟩ rfl rfl (Nat.le_of_ble_eq_true rfl) ?_))
      rw [prI_b]
      refine r_if_ne 51 dX10_readsPrime_42 (by decide) b2c_RI (fun c2 => ?_) (fun c2 => ?_)
      · have hpr := b2c_ne c2
        have hT84 : canAdd a v → PW g cX10_readsPrime (iX10_readsPrime mc ms) 84 [(0, some (.ref m)), (1, some (vi (a 0))), (2, some (vi v))] [] S2 mc ms (fun o S' => o = .inl none ∧ RM1 S0 S' m bf km th bu sz ea bs bw bt' R) := fun hca => by
          rw [b2c_t hca, if_pos rfl] at hR
          refine r_aload_n dX10_readsPrime_84 (i := 0) rfl rfl (r_aload_n dX10_readsPrime_85 (i := 0) rfl rfl (r_get dX10_readsPrime_86 fl_X10_82 ho1 rfl ?_))
          refine r_if_ne 96 dX10_readsPrime_89 (by decide) (by omega) (fun c3 => ?_) (fun c3 => ?_)
          · omega
          · refine r_iconst dX10_readsPrime_92 (r_goto 97 dX10_readsPrime_93 (by decide) ?_)
            refine c_vq dX10_readsPrime_97 (c_X10_must1 hT1) rfl rfl mq_X10_must ml_X10_111 ⟨Nat.le_of_ble_eq_true rfl, Nat.le_of_ble_eq_true rfl⟩ ho1 rfl rfl rfl (Nat.le_of_ble_eq_true rfl) (fun E S' h => by simp at h) (fun v S3 hn => ?_)
            obtain ⟨e1, hT3⟩ := hn
            cases e1
            rw [heq] at hT3
            obtain ⟨wa3, nu3, ho3⟩ := hT3.o
            show PW _ _ _ 100 _ [] _ _ _ _
            refine r_aload_n dX10_readsPrime_100 (i := 0) rfl rfl (r_aload_n dX10_readsPrime_101 (i := 0) rfl rfl (r_bipush dX10_readsPrime_102 (by decide) (c_vr dX10_readsPrime_104 (c_X10_isSignT hT3 (Or.inl rfl)) rfl rfl mq_X10_isSign ml_X10_123 ⟨Nat.le_of_ble_eq_true rfl, Nat.le_of_ble_eq_true rfl⟩ ho3 rfl rfl rfl (Nat.le_of_ble_eq_true rfl) ?_)))
            unfold semB at hR
            by_cases c4 : seeI bf sz (sk (seeI bf sz) (dgE (seeI bf sz) (sk (seeI bf sz) (p + 5)))) = 59
            · rw [if_pos c4] at hR
              rw [b2i_t c4]
              have he3 : tkE (seeI bf sz) sz (sk (seeI bf sz) (dgE (seeI bf sz) (sk (seeI bf sz) (p + 5)))) = sk (seeI bf sz) (dgE (seeI bf sz) (sk (seeI bf sz) (p + 5))) + 1 := by
                unfold tkE
                rw [if_neg (by
                  intro z
                  have := hB.2.2 _ z
                  omega), if_neg (by unfold ltB; rw [decide_eq_true_eq]; omega), if_neg (by unfold dgB; rw [decide_eq_true_eq]; omega)]
              refine c_vq dX10_readsPrime_107 (c_X10_must1 hT3) rfl rfl mq_X10_must ml_X10_111 ⟨Nat.le_of_ble_eq_true rfl, Nat.le_of_ble_eq_true rfl⟩ ho3 rfl rfl rfl (Nat.le_of_ble_eq_true rfl) (fun E S' h => by simp at h) (fun v S4 hn => ?_)
              obtain ⟨e1, hT4⟩ := hn
              cases e1
              rw [he3] at hT4
              obtain ⟨wa4, nu4, ho4⟩ := hT4.o
              have hfr4 := hT4.2.2.1
              show PW _ _ _ 110 _ [] _ _ _ _
              refine r_aload_n dX10_readsPrime_110 (i := 0) rfl rfl (r_get dX10_readsPrime_111 fl_X10_82 ho4 rfl ?_)
              refine r_if_eq 118 dX10_readsPrime_114 (by decide) (by omega) (fun c5 => ?_) (fun c5 => ?_)
              · refine r_aload_n dX10_readsPrime_118 (i := 0) rfl rfl (r_get dX10_readsPrime_119 fl_X10_13 ho4 rfl (r_iconst dX10_readsPrime_122 (r_iload_n dX10_readsPrime_123 (i := 1) rfl rfl (r_iadd dX10_readsPrime_124 ?_))))
                refine r_iload_n dX10_readsPrime_125 (i := 2) rfl rfl (r_i2l dX10_readsPrime_126 (by omega) (r_last dX10_readsPrime_127 hfr4 (by omega) (by omega) (by omega) ?_))
                refine r_aload_n dX10_readsPrime_128 (i := 0) rfl rfl (r_get dX10_readsPrime_129 fl_X10_13 (ps_ne (by omega) ho4) rfl (r_iconst dX10_readsPrime_132 ?_))
                refine r_dup2_11 dX10_readsPrime_133 rfl rfl ?_
                refine r_lald dX10_readsPrime_134 ps_same (by omega) (by omega) (by omega) (r_lconst (z := 1) dX10_readsPrime_135 (by decide) (r_ladd dX10_readsPrime_136 (r_last dX10_readsPrime_137 ps_same (by omega) (by omega) (by omega) (r_vret dX10_readsPrime_138 rfl ?_))))
                rw [ps_put_put]
                subst hR
                obtain ⟨t1, t2, t3, t4, t5, t6, t7, t8⟩ := hT4
                refine ⟨rfl, Or.inl ⟨rfl, fun z z1 z2 => by rw [← t1 z z1 z2]; exact ps_ne z2 rfl, t2, ?_, t4, t5, t6, t7, ?_⟩⟩
                · have eA : addA a v = upI (upI a (1 + a 0) v) 0 (upI a (1 + a 0) v 0 + 1) := by
                    unfold addA
                    rw [upI_ne (f := a) (i := 1 + a 0) (j := 0) (by omega)]
                  show _ = some (cJ 215 (addA a v))
                  rw [eA]
                  exact ps_same
                · obtain ⟨wa', nu', u1, u2⟩ := t8
                  exact ⟨wa', nu', ps_ne (by omega) u1, u2⟩
              · omega
            · rw [if_neg c4] at hR
              rw [b2i_f c4]
              refine c_vq dX10_readsPrime_107 (c_X10_must0 hT3) rfl rfl mq_X10_must ml_X10_111 ⟨Nat.le_of_ble_eq_true rfl, Nat.le_of_ble_eq_true rfl⟩ ho3 rfl rfl rfl (Nat.le_of_ble_eq_true rfl) (fun E S' h => by simp at h) (fun v S4 hn => ?_)
              obtain ⟨e1, hW4⟩ := hn
              cases e1
              obtain ⟨w1, w2, a1, a2, a3, a4, w3⟩ := hW4.o
              show PW _ _ _ 110 _ [] _ _ _ _
              refine r_aload_n dX10_readsPrime_110 (i := 0) rfl rfl (r_get dX10_readsPrime_111 fl_X10_82 w3 rfl ?_)
              refine r_if_eq 118 dX10_readsPrime_114 (by decide) (by omega) (fun c5 => ?_) (fun c5 => ?_)
              · omega
              · refine r_vret dX10_readsPrime_117 rfl ?_
                subst hR
                exact ⟨rfl, Or.inr ⟨show (-2 : Int) ≠ 0 by decide, a, hW4⟩⟩
        have hT53 : ∀ (k i : Nat), (i : Int) + k = a 0 → (∀ j : Int, 0 ≤ j → j < i → a (1 + j) ≠ v) → PW g cX10_readsPrime (iX10_readsPrime mc ms) 53 [(0, some (.ref m)), (1, some (vi (a 0))), (2, some (vi v)), (3, some (vi (i : Int)))] [] S2 mc ms (fun o S' => o = .inl none ∧ RM1 S0 S' m bf km th bu sz ea bs bw bt' R) := fun k => by
          have hfr1 := hT1.2.2.1
          induction k with
          | zero =>
            intro i hi hj
            refine r_iload_n dX10_readsPrime_53 (i := 3) rfl rfl (r_iload_n dX10_readsPrime_54 (i := 1) rfl rfl ?_)
            refine r_icmp_ge 84 dX10_readsPrime_55 (by decide) (by omega) (by omega) (fun c3 => ?_) (fun c3 => ?_)
            · exact r_loc [(0, some (.ref m)), (1, some (vi (a 0))), (2, some (vi v))] ⟨Or.inl rfl, Or.inl rfl, Or.inl rfl, trivial⟩ (hT84 ⟨n2, hpr, fun ⟨j, j0, j1, j2⟩ => hj j j0 (by omega) j2⟩)
            · omega
          | succ k ih =>
            intro i hi hj
            have hai := ha.1.2 (i : Int) (by omega) (by omega)
            refine r_iload_n dX10_readsPrime_53 (i := 3) rfl rfl (r_iload_n dX10_readsPrime_54 (i := 1) rfl rfl ?_)
            refine r_icmp_ge 84 dX10_readsPrime_55 (by decide) (by omega) (by omega) (fun c3 => ?_) (fun c3 => ?_)
            · omega
            · refine r_aload_n dX10_readsPrime_58 (i := 0) rfl rfl (r_get dX10_readsPrime_59 fl_X10_13 ho1 rfl (r_iconst dX10_readsPrime_62 (r_iload_n dX10_readsPrime_63 (i := 3) rfl rfl (r_iadd dX10_readsPrime_64 ?_))))
              refine r_lald dX10_readsPrime_65 hfr1 (by omega) (by omega) (by omega) (r_iload_n dX10_readsPrime_66 (i := 2) rfl rfl (r_i2l dX10_readsPrime_67 (by omega) ?_))
              refine r_lcmp_ne 78 dX10_readsPrime_68 dX10_readsPrime_69 (by decide) (by omega) (by omega) (fun c4 => ?_) (fun c4 => ?_)
              · refine r_iinc dX10_readsPrime_78 rfl rfl (r_goto 53 dX10_readsPrime_81 (by decide) ?_)
                exact r_loc [(0, some (.ref m)), (1, some (vi (a 0))), (2, some (vi v)), (3, some (vi ((i + 1 : Nat) : Int)))] ⟨Or.inl rfl, Or.inl rfl, Or.inl rfl, Or.inl rfl, trivial⟩ (ih (i + 1) (by omega) (fun j j0 j1 => by
                  by_cases ej : j = (i : Int)
                  · subst ej
                    exact c4
                  · exact hj j j0 (by omega)))
              · have hna : ¬ canAdd a v := fun z => z.2.2 ⟨(i : Int), by omega, by omega, by omega⟩
                rw [b2c_f hna, if_neg (by decide)] at hR
                refine r_aload_n dX10_readsPrime_72 (i := 0) rfl rfl (r_bipush dX10_readsPrime_73 (by decide) ?_)
                refine c_vq dX10_readsPrime_75 (c_X10_fT hT1 ⟨by omega, by omega⟩) rfl rfl mq_X10_fails ml_X10_98 ⟨Nat.le_of_ble_eq_true rfl, Nat.le_of_ble_eq_true rfl⟩ ho1 rfl rfl rfl (Nat.le_of_ble_eq_true rfl) (fun E S' h => by simp at h) (fun v S5 hn => ?_)
                obtain ⟨e1, hW5⟩ := hn
                cases e1
                show PW _ _ _ 78 _ [] _ _ _ _
                refine r_iinc dX10_readsPrime_78 rfl rfl (r_goto 53 dX10_readsPrime_81 (by decide) ?_)
                exact r_loc [(0, some (.ref m)), (1, some (vi (a 0))), (2, some (vi v)), (3, some (vi ((i + 1 : Nat) : Int)))] ⟨Or.inl rfl, Or.inl rfl, Or.inl rfl, Or.inl rfl, trivial⟩ (hL53 S5 v _ _ (by omega) hW5 (by rw [← hR]) (by rw [← hR]) k (i + 1) (by omega))
        refine r_iconst dX10_readsPrime_51 (r_istore_n dX10_readsPrime_52 (i := 3) rfl rfl (Nat.le_of_ble_eq_true rfl) ?_)
        exact r_loc [(0, some (.ref m)), (1, some (vi (a 0))), (2, some (vi v)), (3, some (vi ((0 : Nat) : Int)))] ⟨Or.inl rfl, Or.inl rfl, Or.inl rfl, Or.inl rfl, trivial⟩ (hT53 (a 0).toNat 0 (by omega) (fun j j0 j1 => by omega))
      · have hnp := b2c_eq c2
        have hna : ¬ canAdd a v := fun z => hnp z.2.1
        rw [b2c_f hna, if_neg (by decide)] at hR
        refine r_aload_n dX10_readsPrime_45 (i := 0) rfl rfl (r_bipush dX10_readsPrime_46 (by decide) ?_)
        refine c_vq dX10_readsPrime_48 (c_X10_fT hT1 ⟨by omega, by omega⟩) rfl rfl mq_X10_fails ml_X10_98 ⟨Nat.le_of_ble_eq_true rfl, Nat.le_of_ble_eq_true rfl⟩ ho1 rfl rfl rfl (Nat.le_of_ble_eq_true rfl) (fun E S' h => by simp at h) (fun v S5 hn => ?_)
        obtain ⟨e1, hW5⟩ := hn
        cases e1
        show PW _ _ _ 51 _ [] _ _ _ _
        refine r_iconst dX10_readsPrime_51 (r_istore_n dX10_readsPrime_52 (i := 3) rfl rfl (Nat.le_of_ble_eq_true rfl) ?_)
        exact r_loc [(0, some (.ref m)), (1, some (vi (a 0))), (2, some (vi v)), (3, some (vi ((0 : Nat) : Int)))] ⟨Or.inl rfl, Or.inl rfl, Or.inl rfl, Or.inl rfl, trivial⟩ (hL53 S5 v _ _ (by omega) hW5 (by rw [← hR]) (by rw [← hR]) (a 0).toNat 0 (by omega))
    · cases n3
      have hna : ¬ canAdd a (nmB (seeI bf sz) 600 (sk (seeI bf sz) (p + 5)) 0) := fun z => n2 z.1
      have e : prmB (seeI bf sz) p a = (-3, sk (seeI bf sz) (p + 5), a) := by
        unfold prmB
        rw [if_neg h6, if_pos n1, b2c_f hna, if_neg (by decide)]
      rw [e] at hR
      show PW _ _ _ 37 _ [vi 3] _ _ _ _
      refine r_istore_n dX10_readsPrime_37 (i := 2) rfl rfl (Nat.le_of_ble_eq_true rfl) ?_
      exact r_loc [(0, some (.ref m)), (1, some (vi (a 0))), (2, some (vi 3))] ⟨Or.inl rfl, Or.inl rfl, Or.inl rfl, trivial⟩ (hW38 S2 3 _ _ (by omega) hW (by rw [← hR]) (by rw [← hR]))
    · cases n3
      have e : prmB (seeI bf sz) p a = (-2, sk (seeI bf sz) (p + 5), a) := by
        unfold prmB
        rw [if_neg h6, if_neg n1]
      rw [e] at hR
      show PW _ _ _ 37 _ [vi 3] _ _ _ _
      refine r_istore_n dX10_readsPrime_37 (i := 2) rfl rfl (Nat.le_of_ble_eq_true rfl) ?_
      exact r_loc [(0, some (.ref m)), (1, some (vi (a 0))), (2, some (vi 3))] ⟨Or.inl rfl, Or.inl rfl, Or.inl rfl, trivial⟩ (hW38 S2 3 _ _ (by omega) hW (by rw [← hR]) (by rw [← hR]))
  · have h6 : a 0 = 6 := by omega
    have e : prmB (seeI bf sz) p a = (-4, p, a) := by
      unfold prmB
      rw [if_pos h6]
    rw [e] at hR
    refine r_aload_n dX10_readsPrime_14 (i := 0) rfl rfl (r_bipush dX10_readsPrime_15 (by decide) ?_)
    refine c_vq dX10_readsPrime_17 (c_X10_fT hT ⟨by omega, by omega⟩) rfl rfl mq_X10_fails ml_X10_98 ⟨Nat.le_of_ble_eq_true rfl, Nat.le_of_ble_eq_true rfl⟩ ho rfl rfl rfl (Nat.le_of_ble_eq_true rfl) (fun E S' h => by simp at h) (fun v S5 hn => ?_)
    obtain ⟨e1, hW5⟩ := hn
    cases e1
    obtain ⟨w1, w2, a1, a2, a3, a4, w3⟩ := hW5.o
    show PW _ _ _ 20 _ [] _ _ _ _
    refine r_aload_n dX10_readsPrime_20 (i := 0) rfl rfl (r_aload_n dX10_readsPrime_21 (i := 0) rfl rfl (r_ldcS dX10_readsPrime_22 (List.mem_of_getElem? (i := 20) rfl) (fun qs hqs => c_vr dX10_readsPrime_24 (c_X10_isWordW hW5) rfl rfl mq_X10_isWord ml_X10_107 ⟨Nat.le_of_ble_eq_true rfl, Nat.le_of_ble_eq_true rfl⟩ w3 rfl rfl rfl (Nat.le_of_ble_eq_true rfl) (c_vn dX10_readsPrime_27 (c_X10_mustW hW5 ⟨by omega, by omega⟩) rfl rfl mq_X10_must ml_X10_111 ⟨Nat.le_of_ble_eq_true rfl, Nat.le_of_ble_eq_true rfl⟩ w3 rfl rfl rfl (Nat.le_of_ble_eq_true rfl) ?_))))
    refine r_aload_n dX10_readsPrime_30 (i := 0) rfl rfl (r_iconst dX10_readsPrime_31 (r_ldc dX10_readsPrime_32 cst_X10_115 (c_vr dX10_readsPrime_34 (c_X10_seesW hW5) rfl rfl mq_X10_sees ml_X10_116 ⟨Nat.le_of_ble_eq_true rfl, Nat.le_of_ble_eq_true rfl⟩ w3 rfl rfl rfl (Nat.le_of_ble_eq_true rfl) (r_istore_n dX10_readsPrime_37 (i := 2) rfl rfl (Nat.le_of_ble_eq_true rfl) ?_))))
    exact r_loc [(0, some (.ref m)), (1, some (vi (a 0))), (2, some (vi 3))] ⟨Or.inl rfl, Or.inl rfl, Or.inl rfl, trivial⟩ (hW38 S5 3 _ _ (by omega) hW5 (by rw [← hR]) (by rw [← hR]))
end MPRIME

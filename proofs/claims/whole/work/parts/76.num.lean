/-! the class: TextReader.passNumber -/
def isDg (tx : Int → Int) (n k : Int) : Bool := decide (48 ≤ seeI tx n k ∧ seeI tx n k ≤ 57)
def nmP (tx : Int → Int) (n : Int) : Nat → Int → Int → Int
  | 0, _, acc => acc
  | u + 1, p, acc => if isDg tx n p = true then nmP tx n u (p + 1) (min (10 * acc + seeI tx n p - 48) 1000000) else acc
section NUM
variable {g : GT} {S : PS} {mc ms : Nat} {Q : PO → PS → Prop} {kc ks : Nat} {r : Nat} {fd en at' er ea : Int} {tx : Int → Int}
theorem l_num (ht : S.1 (r + 1) = some (cB 600 tx)) (hb : ∀ i : Int, 0 ≤ i → i < en → -128 ≤ tx i ∧ tx i ≤ 127) (he : 0 ≤ en ∧ en ≤ 600) {z v : Int} (hq : Q (.inl (some (vi v))) (ps_put S r (rO r fd en z er ea))) : ∀ (u : Nat) (p acc : Int), 0 ≤ p → p ≤ en → en ≤ p + u → 0 ≤ acc → acc ≤ 1000000 → skP (isDg tx en) u p = z → nmP tx en u p acc = v →
    PW g cX8_passNumber (iX8_passNumber mc ms) 18 [(0, some (.ref r)), (1, some (vi acc))] [] (ps_put S r (rO r fd en p er ea)) kc ks Q := by
  intro u
  induction u with
  | zero =>
    intro p acc p0 p1 p2 a0 a1 hz hv
    have e : p = z := hz
    have e2 : acc = v := hv
    subst e
    subst e2
    refine r_aload_n dX8_passNumber_18 (i := 0) rfl rfl (r_get dX8_passNumber_19 fl_X8_38 ps_same rfl (r_aload_n dX8_passNumber_22 (i := 0) rfl rfl (r_get dX8_passNumber_23 fl_X8_35 ps_same rfl ?_)))
    refine r_icmp_ge 78 dX8_passNumber_26 (by decide) (by omega) (by omega) (fun c1 => ?_) (fun c1 => ?_)
    · refine r_iload_n dX8_passNumber_78 (i := 1) rfl rfl ?_
      refine r_iret dX8_passNumber_79 rfl rfl ?_
      exact hq
    · omega
  | succ u ih =>
    intro p acc p0 p1 p2 a0 a1 hz hv
    have e : skP (isDg tx en) (u + 1) p = if isDg tx en p = true then skP (isDg tx en) u (p + 1) else p := rfl
    have e2 : nmP tx en (u + 1) p acc = if isDg tx en p = true then nmP tx en u (p + 1) (min (10 * acc + seeI tx en p - 48) 1000000) else acc := rfl
    rw [e] at hz
    rw [e2] at hv
    have hs := seeI_bd tx en p
    have hsE : p = en → seeI tx en p = -1 := fun z => by unfold seeI; rw [if_neg (by omega)]
    have hdT : 48 ≤ seeI tx en p ∧ seeI tx en p ≤ 57 → isDg tx en p = true := fun z => decide_eq_true z
    have hdF : ¬ (48 ≤ seeI tx en p ∧ seeI tx en p ≤ 57) → ¬ isDg tx en p = true := fun z w => z (of_decide_eq_true w)
    have ht' : (ps_put S r (rO r fd en p er ea)).1 (r + 1) = some (cB 600 tx) := ps_ne (by omega) ht
    refine r_aload_n dX8_passNumber_18 (i := 0) rfl rfl (r_get dX8_passNumber_19 fl_X8_38 ps_same rfl (r_aload_n dX8_passNumber_22 (i := 0) rfl rfl (r_get dX8_passNumber_23 fl_X8_35 ps_same rfl ?_)))
    refine r_icmp_ge 78 dX8_passNumber_26 (by decide) (by omega) (by omega) (fun c1 => ?_) (fun c1 => ?_)
    · refine r_iload_n dX8_passNumber_78 (i := 1) rfl rfl ?_
      refine r_iret dX8_passNumber_79 rfl rfl ?_
      rw [if_neg (hdF (by omega))] at hz hv
      rw [hz, hv]
      exact hq
    · refine r_aload_n dX8_passNumber_29 (i := 0) rfl rfl (r_aload_n dX8_passNumber_30 (i := 0) rfl rfl (r_get dX8_passNumber_31 fl_X8_38 ps_same rfl (c_vr dX8_passNumber_34 (c_X8_byteAt ps_same ht' hb he ⟨by omega, by omega⟩) rfl rfl mq_X8_byteAt ml_X8_99 ⟨Nat.le_of_ble_eq_true rfl, Nat.le_of_ble_eq_true rfl⟩ ps_same rfl rfl rfl (Nat.le_of_ble_eq_true rfl) (c_sr dX8_passNumber_37 (c_X8_isDigit ⟨by omega, by omega⟩) rfl rfl mq_X8_isDigit ml_X8_103 ⟨Nat.le_of_ble_eq_true rfl, Nat.le_of_ble_eq_true rfl⟩ rfl rfl (Nat.le_of_ble_eq_true rfl) ?_))))
      refine r_if_eq 78 dX8_passNumber_40 (by decide) b2i_RI (fun c2 => ?_) (fun c2 => ?_)
      · replace c2 := b2i_eq c2
        refine r_iload_n dX8_passNumber_78 (i := 1) rfl rfl ?_
        refine r_iret dX8_passNumber_79 rfl rfl ?_
        rw [if_neg (hdF (by omega))] at hz hv
        rw [hz, hv]
        exact hq
      · replace c2 := b2i_ne c2
        refine r_bipush dX8_passNumber_43 (by decide) (r_iload_n dX8_passNumber_45 (i := 1) rfl rfl (r_imul dX8_passNumber_46 (r_aload_n dX8_passNumber_47 (i := 0) rfl rfl (r_aload_n dX8_passNumber_48 (i := 0) rfl rfl ?_))))
        refine r_get dX8_passNumber_49 fl_X8_38 ps_same rfl (c_vr dX8_passNumber_52 (c_X8_byteAt ps_same ht' hb he ⟨by omega, by omega⟩) rfl rfl mq_X8_byteAt ml_X8_99 ⟨Nat.le_of_ble_eq_true rfl, Nat.le_of_ble_eq_true rfl⟩ ps_same rfl rfl rfl (Nat.le_of_ble_eq_true rfl) (r_iadd dX8_passNumber_55 (r_bipush dX8_passNumber_56 (by decide) (r_isub dX8_passNumber_58 ?_))))
        refine r_ldc dX8_passNumber_59 cst_X8_128 (r_mmin dX8_passNumber_61 mw_X8_29 (by omega) (by omega) (Nat.le_of_ble_eq_true rfl) (Nat.le_of_ble_eq_true rfl) (r_istore_n dX8_passNumber_64 (i := 1) rfl rfl (Nat.le_of_ble_eq_true rfl) (r_aload_n dX8_passNumber_65 (i := 0) rfl rfl (r_dup dX8_passNumber_66 rfl ?_))))
        refine r_get dX8_passNumber_67 fl_X8_38 ps_same rfl (r_iconst dX8_passNumber_70 (r_iadd dX8_passNumber_71 (r_put dX8_passNumber_72 fl_X8_38 ps_same rfl rfl (Nat.le_of_ble_eq_true rfl) (r_goto 18 dX8_passNumber_75 (by decide) ?_))))
        rw [ps_put_put]
        rw [if_pos (hdT (by omega))] at hz hv
        exact r_loc [(0, some (.ref r)), (1, some (vi (min (10 * acc + seeI tx en p - 48) 1000000)))] ⟨Or.inl rfl, Or.inl rfl, trivial⟩ (ih (p + 1) _ (by omega) (by omega) (by omega) (by omega) (by omega) hz hv)
theorem c_X8_passNumber (h : S.1 r = some (rO r fd en at' er ea)) (ht : S.1 (r + 1) = some (cB 600 tx)) (hb : ∀ i : Int, 0 ≤ i → i < en → -128 ≤ tx i ∧ tx i ≤ 127) (he : 0 ≤ en ∧ en ≤ 600) (ha : 0 ≤ at' ∧ at' ≤ en) : PC g yX8_passNumber cX8_passNumber (iX8_passNumber mc ms) [.ref r] S (fun o S' => (isDg tx en at' = true ∧ o = .inl (some (vi (nmP tx en 600 at' 0))) ∧ S' = ps_put S r (rO r fd en (skP (isDg tx en) 600 at') er ea)) ∨ (¬ isDg tx en at' = true ∧ o = .inl (some (vi (-1))) ∧ S' = S)) := by
  refine PC_of pnX8 rfl rfl rfl (Nat.le_of_ble_eq_true rfl) ?_
  have hs := seeI_bd tx en at'
  refine r_aload_n dX8_passNumber_0 (i := 0) rfl rfl (r_aload_n dX8_passNumber_1 (i := 0) rfl rfl (r_get dX8_passNumber_2 fl_X8_38 h rfl (c_vr dX8_passNumber_5 (c_X8_byteAt h ht hb he ⟨by omega, by omega⟩) rfl rfl mq_X8_byteAt ml_X8_99 ⟨Nat.le_of_ble_eq_true rfl, Nat.le_of_ble_eq_true rfl⟩ h rfl rfl rfl (Nat.le_of_ble_eq_true rfl) (c_sr dX8_passNumber_8 (c_X8_isDigit ⟨by omega, by omega⟩) rfl rfl mq_X8_isDigit ml_X8_103 ⟨Nat.le_of_ble_eq_true rfl, Nat.le_of_ble_eq_true rfl⟩ rfl rfl (Nat.le_of_ble_eq_true rfl) ?_))))
  refine r_if_ne 16 dX8_passNumber_11 (by decide) b2i_RI (fun c1 => ?_) (fun c1 => ?_)
  · replace c1 := b2i_ne c1
    refine r_iconst dX8_passNumber_16 (r_istore_n dX8_passNumber_17 (i := 1) rfl rfl (Nat.le_of_ble_eq_true rfl) ?_)
    refine r_ps (ps_put_self h).symm ?_
    refine r_loc [(0, some (.ref r)), (1, some (vi 0))] ⟨Or.inl rfl, Or.inl rfl, trivial⟩ ?_
    refine l_num ht hb he ?_ 600 at' 0 ha.1 ha.2 (by omega) (by omega) (by omega) rfl rfl
    exact Or.inl ⟨decide_eq_true (by omega), rfl, rfl⟩
  · replace c1 := b2i_eq c1
    refine r_iconst dX8_passNumber_14 ?_
    refine r_iret dX8_passNumber_15 rfl rfl ?_
    exact Or.inr ⟨fun w => absurd (of_decide_eq_true w) (by omega), rfl, rfl⟩
end NUM

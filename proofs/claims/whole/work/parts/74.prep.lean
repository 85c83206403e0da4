/-! the class: Product.prepare and centre -/
section PREP
variable {g : GT} {S : PS} {mc ms : Nat} {Q : PO → PS → Prop} {kc ks : Nat} {b F : Nat} {fc c kd st ln md : Int} {vf : Int → Int}
theorem l_prep {k1 k2 k3 : Int} (h : S.1 (b + 3) = some (pO b fc c kd st ln md)) (hc : 0 ≤ c ∧ c ≤ 64) (hk : Q (.inl none) (ps_put S (b + 4) (cJ 64 (mix 0 c (fun _ => 0) vf)))) : ∀ (m i : Nat), (i : Int) + m = c →
    PW g cX6_prepare (iX6_prepare mc ms) 23 [(0, some (.ref (b + 3))), (1, some (vi k1)), (2, some (vi k2)), (3, some (vi k3)), (4, some (vi (i : Int)))] [] (ps_put S (b + 4) (cJ 64 (mix 0 (i : Int) (fun _ => 0) vf))) kc ks Q := by
  intro m
  induction m with
  | zero =>
    intro i hi
    have h1 : (ps_put S (b + 4) (cJ 64 (mix 0 (i : Int) (fun _ => 0) vf))).1 (b + 3) = some (pO b fc c kd st ln md) := ps_ne (by omega) h
    refine r_iload dX6_prepare_23 rfl (r_aload_n dX6_prepare_25 (i := 0) rfl rfl (r_get dX6_prepare_26 fl_X6_25 h1 rfl ?_))
    refine r_icmp_ge 46 dX6_prepare_29 (by decide) (by omega) (by omega) (fun c1 => ?_) (fun c1 => ?_)
    · refine r_vret dX6_prepare_46 rfl ?_
      rw [show (i : Int) = c by omega]
      exact hk
    · omega
  | succ m ih =>
    intro i hi
    have h1 : (ps_put S (b + 4) (cJ 64 (mix 0 (i : Int) (fun _ => 0) vf))).1 (b + 3) = some (pO b fc c kd st ln md) := ps_ne (by omega) h
    refine r_iload dX6_prepare_23 rfl (r_aload_n dX6_prepare_25 (i := 0) rfl rfl (r_get dX6_prepare_26 fl_X6_25 h1 rfl ?_))
    refine r_icmp_ge 46 dX6_prepare_29 (by decide) (by omega) (by omega) (fun c1 => ?_) (fun c1 => ?_)
    · omega
    · refine r_aload_n dX6_prepare_32 (i := 0) rfl rfl (r_get dX6_prepare_33 fl_X6_9 h1 rfl (r_iload dX6_prepare_36 rfl (r_lconst (z := 0) dX6_prepare_38 (by decide) (r_last dX6_prepare_39 ps_same (by omega) (by omega) (by omega) ?_))))
      refine r_iinc dX6_prepare_40 rfl rfl (r_goto 23 dX6_prepare_43 (by decide) ?_)
      rw [ps_put_put, mix_up (A := fun _ => 0) (lo := 0) (i := (i : Int)) (B := vf) (by omega) rfl]
      exact r_loc [(0, some (.ref (b + 3))), (1, some (vi k1)), (2, some (vi k2)), (3, some (vi k3)), (4, some (vi ((i + 1 : Nat) : Int)))] ⟨Or.inl rfl, Or.inl rfl, Or.inl rfl, Or.inl rfl, Or.inl rfl, trivial⟩ (ih (i + 1) (by omega))
theorem c_X6_prepare {k1 k2 k3 : Int} (h : S.1 (b + 3) = some (pO b fc c kd st ln md)) (h4 : S.1 (b + 4) = some (cJ 64 vf)) (hk : 1 ≤ k3 ∧ k3 ≤ 64) : PC g yX6_prepare cX6_prepare (iX6_prepare mc ms) [.ref (b + 3), vi k1, vi k2, vi k3] S (Rt none (ps_put (ps_put S (b + 3) (pO b fc k3 k1 st k2 md)) (b + 4) (cJ 64 (mix 0 k3 (fun _ => 0) vf)))) := by
  refine PC_of pnX6 rfl rfl rfl (Nat.le_of_ble_eq_true rfl) ?_
  have em : min k3 64 = k3 := Int.min_eq_left (by omega)
  refine r_aload_n dX6_prepare_0 (i := 0) rfl rfl (r_iload_n dX6_prepare_1 (i := 1) rfl rfl (r_put dX6_prepare_2 fl_X6_29 h rfl rfl (Nat.le_of_ble_eq_true rfl) (r_aload_n dX6_prepare_5 (i := 0) rfl rfl (r_iload_n dX6_prepare_6 (i := 2) rfl rfl ?_))))
  refine r_put dX6_prepare_7 fl_X6_32 ps_same rfl rfl (Nat.le_of_ble_eq_true rfl) (r_aload_n dX6_prepare_10 (i := 0) rfl rfl (r_iload_n dX6_prepare_11 (i := 3) rfl rfl (r_bipush dX6_prepare_12 (by decide) (r_mmin dX6_prepare_14 mw_X6_35 (by omega) (by omega) (Nat.le_of_ble_eq_true rfl) (Nat.le_of_ble_eq_true rfl) ?_))))
  rw [em]
  refine r_put dX6_prepare_17 fl_X6_25 ps_same rfl rfl (Nat.le_of_ble_eq_true rfl) (r_iconst dX6_prepare_20 (r_istore dX6_prepare_21 rfl (Nat.le_of_ble_eq_true rfl) ?_))
  rw [ps_put_put, ps_put_put]
  have hA : ∀ S0 : PS, S0.1 (b + 4) = some (cJ 64 vf) → S0 = ps_put S0 (b + 4) (cJ 64 (mix 0 ((0 : Nat) : Int) (fun _ => 0) vf)) := fun S0 h9 => by
    rw [show mix 0 ((0 : Nat) : Int) (fun _ => 0) vf = vf from mix_0]
    exact (ps_put_self h9).symm
  refine r_ps (hA _ (ps_ne (by omega) h4)) ?_
  refine r_loc [(0, some (.ref (b + 3))), (1, some (vi k1)), (2, some (vi k2)), (3, some (vi k3)), (4, some (vi ((0 : Nat) : Int)))] ⟨Or.inl rfl, Or.inl rfl, Or.inl rfl, Or.inl rfl, Or.inl rfl, trivial⟩ ?_
  refine l_prep ps_same (by omega) ?_ k3.toNat 0 (by omega)
  exact ⟨rfl, rfl⟩
def ctF (vf : Int → Int) (md : Int) : Int → Int := fun x => if md / 2 < vf x then vf x - md else vf x
theorem l_ctr (h : S.1 (b + 3) = some (pO b fc c kd st ln md)) (hc : 0 ≤ c ∧ c ≤ 64) (hm : 1 ≤ md ∧ md ≤ 4000000000000000000) (hv : ∀ k : Int, 0 ≤ k → k < c → 0 ≤ vf k ∧ vf k < md) (hk : Q (.inl none) (ps_put S (b + 4) (cJ 64 (mix 0 c (ctF vf md) vf)))) : ∀ (m i : Nat), (i : Int) + m = c →
    PW g cX6_centre (iX6_centre mc ms) 2 [(0, some (.ref (b + 3))), (1, some (vi (i : Int)))] [] (ps_put S (b + 4) (cJ 64 (mix 0 (i : Int) (ctF vf md) vf))) kc ks Q := by
  intro m
  induction m with
  | zero =>
    intro i hi
    have h1 : (ps_put S (b + 4) (cJ 64 (mix 0 (i : Int) (ctF vf md) vf))).1 (b + 3) = some (pO b fc c kd st ln md) := ps_ne (by omega) h
    refine r_iload_n dX6_centre_2 (i := 1) rfl rfl (r_aload_n dX6_centre_3 (i := 0) rfl rfl (r_get dX6_centre_4 fl_X6_25 h1 rfl ?_))
    refine r_icmp_ge 47 dX6_centre_7 (by decide) (by omega) (by omega) (fun c1 => ?_) (fun c1 => ?_)
    · refine r_vret dX6_centre_47 rfl ?_
      rw [show (i : Int) = c by omega]
      exact hk
    · omega
  | succ m ih =>
    intro i hi
    have hvi := hv i (by omega) (by omega)
    have h1 : (ps_put S (b + 4) (cJ 64 (mix 0 (i : Int) (ctF vf md) vf))).1 (b + 3) = some (pO b fc c kd st ln md) := ps_ne (by omega) h
    have e1 : mix 0 (i : Int) (ctF vf md) vf (i : Int) = vf (i : Int) := mix_out (by omega)
    have e2 : ctF vf md (i : Int) = if md / 2 < vf (i : Int) then vf (i : Int) - md else vf (i : Int) := rfl
    have e3 : upI (mix 0 (i : Int) (ctF vf md) vf) (i : Int) (ctF vf md (i : Int)) = mix 0 ((i : Int) + 1) (ctF vf md) vf := mix_up (by omega) rfl
    refine r_iload_n dX6_centre_2 (i := 1) rfl rfl (r_aload_n dX6_centre_3 (i := 0) rfl rfl (r_get dX6_centre_4 fl_X6_25 h1 rfl ?_))
    refine r_icmp_ge 47 dX6_centre_7 (by decide) (by omega) (by omega) (fun c1 => ?_) (fun c1 => ?_)
    · omega
    · refine r_aload_n dX6_centre_10 (i := 0) rfl rfl (r_get dX6_centre_11 fl_X6_9 h1 rfl (r_iload_n dX6_centre_14 (i := 1) rfl rfl (r_lald dX6_centre_15 ps_same (by omega) (by omega) (by omega) ?_)))
      rw [e1]
      refine r_aload_n dX6_centre_16 (i := 0) rfl rfl (r_get dX6_centre_17 fl_X6_21 h1 rfl (r_ldc2 dX6_centre_20 csj_X6_56 (r_ldivN dX6_centre_23 (by omega) (by omega) (by omega) (by omega) ?_)))
      refine r_lcmp_le 41 dX6_centre_24 dX6_centre_25 (by decide) (by omega) (by omega) (fun c2 => ?_) (fun c2 => ?_)
      · refine r_iinc dX6_centre_41 rfl rfl (r_goto 2 dX6_centre_44 (by decide) ?_)
        first
          | (rw [if_pos (by omega)] at e2
             rw [ps_put_put, ← e2, e3]
             exact r_loc [(0, some (.ref (b + 3))), (1, some (vi ((i + 1 : Nat) : Int)))] ⟨Or.inl rfl, Or.inl rfl, trivial⟩ (ih (i + 1) (by omega)))
          | (rw [if_neg (by omega)] at e2
             rw [e2] at e3
             have e4 : upI (mix 0 (i : Int) (ctF vf md) vf) (i : Int) (vf (i : Int)) = mix 0 (i : Int) (ctF vf md) vf := by
               funext x
               unfold upI
               by_cases z : x = i
               · rw [if_pos z, z, e1]
               · rw [if_neg z]
             rw [e4] at e3
             rw [e3]
             exact r_loc [(0, some (.ref (b + 3))), (1, some (vi ((i + 1 : Nat) : Int)))] ⟨Or.inl rfl, Or.inl rfl, trivial⟩ (ih (i + 1) (by omega)))
      · refine r_aload_n dX6_centre_28 (i := 0) rfl rfl (r_get dX6_centre_29 fl_X6_9 h1 rfl (r_iload_n dX6_centre_32 (i := 1) rfl rfl ?_))
        refine r_dup2_11 dX6_centre_33 rfl rfl ?_
        refine r_lald dX6_centre_34 ps_same (by omega) (by omega) (by omega) ?_
        rw [e1]
        refine r_aload_n dX6_centre_35 (i := 0) rfl rfl (r_get dX6_centre_36 fl_X6_21 h1 rfl (r_lsub dX6_centre_39 (r_last dX6_centre_40 ps_same (by omega) (by omega) (by omega) (r_iinc dX6_centre_41 rfl rfl ?_))))
        refine r_goto 2 dX6_centre_44 (by decide) ?_
        first
          | (rw [if_pos (by omega)] at e2
             rw [ps_put_put, ← e2, e3]
             exact r_loc [(0, some (.ref (b + 3))), (1, some (vi ((i + 1 : Nat) : Int)))] ⟨Or.inl rfl, Or.inl rfl, trivial⟩ (ih (i + 1) (by omega)))
          | (rw [if_neg (by omega)] at e2
             rw [e2] at e3
             have e4 : upI (mix 0 (i : Int) (ctF vf md) vf) (i : Int) (vf (i : Int)) = mix 0 (i : Int) (ctF vf md) vf := by
               funext x
               unfold upI
               by_cases z : x = i
               · rw [if_pos z, z, e1]
               · rw [if_neg z]
             rw [e4] at e3
             rw [e3]
             exact r_loc [(0, some (.ref (b + 3))), (1, some (vi ((i + 1 : Nat) : Int)))] ⟨Or.inl rfl, Or.inl rfl, trivial⟩ (ih (i + 1) (by omega)))
theorem c_X6_centre (h : S.1 (b + 3) = some (pO b fc c kd st ln md)) (h4 : S.1 (b + 4) = some (cJ 64 vf)) (hc : 0 ≤ c ∧ c ≤ 64) (hm : 1 ≤ md ∧ md ≤ 4000000000000000000) (hv : ∀ k : Int, 0 ≤ k → k < c → 0 ≤ vf k ∧ vf k < md) : PC g yX6_centre cX6_centre (iX6_centre mc ms) [.ref (b + 3)] S (Rt none (ps_put S (b + 4) (cJ 64 (mix 0 c (ctF vf md) vf)))) := by
  refine PC_of pnX6 rfl rfl rfl (Nat.le_of_ble_eq_true rfl) ?_
  refine r_iconst dX6_centre_0 (r_istore_n dX6_centre_1 (i := 1) rfl rfl (Nat.le_of_ble_eq_true rfl) ?_)
  have hA : ∀ S0 : PS, S0.1 (b + 4) = some (cJ 64 vf) → S0 = ps_put S0 (b + 4) (cJ 64 (mix 0 ((0 : Nat) : Int) (ctF vf md) vf)) := fun S0 h9 => by
    rw [show mix 0 ((0 : Nat) : Int) (ctF vf md) vf = vf from mix_0]
    exact (ps_put_self h9).symm
  refine r_ps (hA _ h4) ?_
  refine r_loc [(0, some (.ref (b + 3))), (1, some (vi ((0 : Nat) : Int)))] ⟨Or.inl rfl, Or.inl rfl, trivial⟩ ?_
  refine l_ctr h hc hm hv ?_ c.toNat 0 (by omega)
  exact ⟨rfl, rfl⟩
end PREP

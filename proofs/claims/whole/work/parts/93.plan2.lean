/-! the class: PlanFinder.find -/
theorem pow_le64 {n : Int} (hn : 0 ≤ n ∧ n ≤ 6) : (1 : Int) ≤ 2 ^ n.toNat ∧ (2 : Int) ^ n.toNat ≤ 64 := by
  have h1 := Nat.pow_le_pow_right (show 0 < 2 by omega) (show n.toNat ≤ 6 by omega)
  have h2 := Nat.pow_pos (n := n.toNat) (show 0 < 2 by omega)
  have hc : ((2 ^ n.toNat : Nat) : Int) = (2 : Int) ^ n.toNat := Int.natCast_pow 2 _
  omega
section PLAN2
variable {g : GT} {S0 : PS} {mc ms : Nat} {Q : PO → PS → Prop} {kc ks : Nat} {q b F : Nat} {a : Int → Int}
/-- what is known of the sets: which are enough -/
def EnOk (a : Int → Int) (bd : Int) (fE : Int → Int) : Prop := ∀ j : Int, 0 ≤ j → j < 2 ^ (a 0).toNat → fE j = b2c (PrGr a j (2 * bd))
theorem l_enough {kd f0 bd : Int} {t : Int × Int × Int} {ff : Int → Int} (hPr : PrAt S0 b F a) (hbq : b + 14 ≤ q) (hqF : q + 3 ≤ F) (hp : MP a) (hbd : 0 ≤ bd ∧ bd ≤ 3199360032) (hk : ∀ S fE, PlS S0 S q t ff fE → EnOk a bd fE → PW g cX5_find (iX5_find mc ms) 50 [(0, some (.ref q)), (1, some (.ref b)), (2, some (vi kd)), (3, some (vi f0)), (4, some (vl bd))] [] S kc ks Q) : ∀ (r k : Nat), (k : Int) + r = 2 ^ (a 0).toNat → ∀ S fE, PlS S0 S q t ff fE → (∀ j : Int, 0 ≤ j → j < k → fE j = b2c (PrGr a j (2 * bd))) →
    PW g cX5_find (iX5_find mc ms) 18 [(0, some (.ref q)), (1, some (.ref b)), (2, some (vi kd)), (3, some (vi f0)), (4, some (vl bd)), (6, some (vi (k : Int)))] [] S kc ks Q := by
  intro r
  have hn := hp.1
  have h64 := pow_le64 hn
  induction r with
  | zero =>
    intro k hr S fE hS hf
    have hP := hPr.frame hS.2.2.2.1 hbq hqF
    have h1 := hP.1
    refine r_iload dX5_find_18 rfl (r_iconst dX5_find_20 (r_aload_n dX5_find_21 (i := 1) rfl rfl (r_get dX5_find_22 fl_X5_29 h1 rfl ?_)))
    refine r_ishl (2 ^ (a 0).toNat) dX5_find_25 (q_shl1 hn) ?_
    refine r_icmp_ge 50 dX5_find_26 (by decide) (by omega) (by omega) (fun c1 => ?_) (fun c1 => ?_)
    · exact r_loc [(0, some (.ref q)), (1, some (.ref b)), (2, some (vi kd)), (3, some (vi f0)), (4, some (vl bd))] ⟨Or.inl rfl, Or.inl rfl, Or.inl rfl, Or.inl rfl, Or.inl rfl, trivial⟩ (hk S fE hS (fun j j0 j1 => hf j j0 (by omega)))
    · omega
  | succ r ih =>
    intro k hr S fE hS hf
    have hP := hPr.frame hS.2.2.2.1 hbq hqF
    have h1 := hP.1
    have hb01 := b2c_01 (p := PrGr a (k : Int) (2 * bd))
    have hpg : b2c (PrGr a (k : Int) (2 * bd)) = 0 ∨ b2c (PrGr a (k : Int) (2 * bd)) = 1 := by omega
    refine r_iload dX5_find_18 rfl (r_iconst dX5_find_20 (r_aload_n dX5_find_21 (i := 1) rfl rfl (r_get dX5_find_22 fl_X5_29 h1 rfl ?_)))
    refine r_ishl (2 ^ (a 0).toNat) dX5_find_25 (q_shl1 hn) ?_
    refine r_icmp_ge 50 dX5_find_26 (by decide) (by omega) (by omega) (fun c1 => ?_) (fun c1 => ?_)
    · omega
    · refine r_aload_n dX5_find_29 (i := 0) rfl rfl (r_get dX5_find_30 fl_X5_15 hS.1 rfl (r_iload dX5_find_33 rfl (r_aload_n dX5_find_35 (i := 1) rfl rfl (r_iload dX5_find_36 rfl ?_))))
      refine r_lload dX5_find_38 rfl (c_vr dX5_find_40 (c_X0_areEnough hP hp ⟨by omega, by omega⟩ hbd) rfl rfl mq_X0_areEnough ml_X5_34 ⟨Nat.le_of_ble_eq_true rfl, Nat.le_of_ble_eq_true rfl⟩ h1 rfl rfl rfl (Nat.le_of_ble_eq_true rfl) ?_)
      refine r_zast dX5_find_43 hS.2.2.1 (by omega) (by omega) (by omega) hpg ?_
      refine r_iinc dX5_find_44 rfl rfl (r_goto 18 dX5_find_47 (by decide) ?_)
      exact r_loc [(0, some (.ref q)), (1, some (.ref b)), (2, some (vi kd)), (3, some (vi f0)), (4, some (vl bd)), (6, some (vi ((k + 1 : Nat) : Int)))] ⟨Or.inl rfl, Or.inl rfl, Or.inl rfl, Or.inl rfl, Or.inl rfl, Or.inl rfl, trivial⟩ (ih (k + 1) (by omega) _ _ hS.pe (fun j j0 j1 => by
        by_cases e : j = k
        · subst e
          rw [upI_eq]
        · rw [upI_ne e]
          exact hf j j0 (by omega)))
/-- the sets up to u are tried -/
theorem l_sets5 {kd f0 bd gr u : Int} {w : Nat} {t0 : Int × Int × Int} {ff fE : Int → Int} (hp : MP a) (hw : 1 ≤ w ∧ w ≤ 64) (hbd : 0 ≤ bd ∧ bd ≤ 3199360032) (hu : u = usI a (if kd = 2 then 2 * (w : Int) else (w : Int)) (a 0).toNat) (hff : FsOk a kd w u ff) (hfE : EnOk a bd fE) (ht0 : -18 ≤ t0.1 ∧ t0.1 ≤ 100000) (hk : ∀ S, PlS S0 S q (pSs a kd bd w t0 u.toNat) ff fE → PW g cX5_find (iX5_find mc ms) 135 [(0, some (.ref q)), (1, some (.ref b)), (2, some (vi kd)), (3, some (vi f0)), (4, some (vl bd)), (6, some (vi gr)), (7, some (vi (w : Int)))] [] S kc ks Q) : ∀ (r k : Nat), (k : Int) + r = u → ∀ S, PlS S0 S q (pSs a kd bd w t0 k) ff fE →
    PW g cX5_find (iX5_find mc ms) 94 [(0, some (.ref q)), (1, some (.ref b)), (2, some (vi kd)), (3, some (vi f0)), (4, some (vl bd)), (6, some (vi gr)), (7, some (vi (w : Int))), (8, some (vi u)), (9, some (vi ((k : Int) + 1)))] [] S kc ks Q := by
  intro r
  have hn := hp.1
  have h64 := pow_le64 hn
  have hub := usI_bd a (if kd = 2 then 2 * (w : Int) else (w : Int)) (a 0).toNat
  rw [← hu] at hub
  induction r with
  | zero =>
    intro k hr S hS
    refine r_iload dX5_find_94 rfl (r_iload dX5_find_96 rfl ?_)
    refine r_icmp_gt 135 dX5_find_98 (by decide) (by omega) (by omega) (fun c1 => ?_) (fun c1 => ?_)
    · have e : u.toNat = k := by omega
      rw [e] at hk
      exact r_loc [(0, some (.ref q)), (1, some (.ref b)), (2, some (vi kd)), (3, some (vi f0)), (4, some (vl bd)), (6, some (vi gr)), (7, some (vi (w : Int)))] ⟨Or.inl rfl, Or.inl rfl, Or.inl rfl, Or.inl rfl, Or.inl rfl, Or.inl rfl, Or.inl rfl, trivial⟩ (hk S hS)
    · omega
  | succ r ih =>
    intro k hr S hS
    have hkb : 0 ≤ (k : Int) + 1 ∧ (k : Int) + 1 < 64 := by omega
    have hd0 := have_dif (a := a) (set := (k : Int) + 1) (od := if kd = 2 then 2 * (w : Int) else (w : Int)) hn (by omega)
    rw [← hu] at hd0
    have hdb := dif_bd (u := u) hkb
    have hfk := hfE ((k : Int) + 1) (by omega) (by omega)
    have hpi := prGr_iff (lim := 2 * bd) hn (show 0 ≤ (k : Int) + 1 ∧ (k : Int) + 1 ≤ 2 ^ (a 0).toNat - 1 by omega) (by omega)
    have htb := pSs_bd (kd := kd) (b := bd) hn hw ht0 k
    have hb01 := b2c_01 (p := PrGr a ((k : Int) + 1) (2 * bd))
    have hstep : pSs a kd bd w t0 (k + 1) = pS a kd bd w (((k + 1 : Nat) : Int)) (pSs a kd bd w t0 k) := rfl
    rw [show ((k + 1 : Nat) : Int) = (k : Int) + 1 by omega] at hstep
    have hnext : ∀ S, PlS S0 S q (pSs a kd bd w t0 (k + 1)) ff fE → PW g cX5_find (iX5_find mc ms) 129 [(0, some (.ref q)), (1, some (.ref b)), (2, some (vi kd)), (3, some (vi f0)), (4, some (vl bd)), (6, some (vi gr)), (7, some (vi (w : Int))), (8, some (vi u)), (9, some (vi ((k : Int) + 1)))] [] S kc ks Q := fun S hS => by
      refine r_iinc dX5_find_129 rfl rfl (r_goto 94 dX5_find_132 (by decide) ?_)
      exact r_loc [(0, some (.ref q)), (1, some (.ref b)), (2, some (vi kd)), (3, some (vi f0)), (4, some (vl bd)), (6, some (vi gr)), (7, some (vi (w : Int))), (8, some (vi u)), (9, some (vi (((k + 1 : Nat) : Int) + 1)))] ⟨Or.inl rfl, Or.inl rfl, Or.inl rfl, Or.inl rfl, Or.inl rfl, Or.inl rfl, Or.inl rfl, Or.inl rfl, Or.inl rfl, trivial⟩ (ih (k + 1) (by omega) S hS)
    refine r_iload dX5_find_94 rfl (r_iload dX5_find_96 rfl ?_)
    refine r_icmp_gt 135 dX5_find_98 (by decide) (by omega) (by omega) (fun c1 => ?_) (fun c1 => ?_)
    · omega
    · refine r_iload dX5_find_101 rfl (r_iload dX5_find_103 rfl (r_iconst dX5_find_105 ?_))
      refine r_ixor (-1 - u) dX5_find_106 (q_notI (by omega)) ?_
      refine r_iand (dif ((k : Int) + 1) u) dX5_find_107 (q_dif hkb (by omega)) ?_
      refine r_if_ne 129 dX5_find_108 (by decide) (by omega) (fun c2 => ?_) (fun c2 => ?_)
      · refine hnext S ?_
        rw [hstep, pS_no (fun z => c2 (hd0.mp z.2))]
        exact hS
      · refine r_aload_n dX5_find_111 (i := 0) rfl rfl (r_get dX5_find_112 fl_X5_15 hS.1 rfl (r_iload dX5_find_115 rfl ?_))
        refine r_zald dX5_find_117 hS.2.2.1 (by omega) (by omega) (by omega) ?_
        rw [hfk]
        refine r_if_eq 129 dX5_find_118 (by decide) (by omega) (fun c3 => ?_) (fun c3 => ?_)
        · refine hnext S ?_
          rw [hstep, pS_no (fun z => ?_)]
          · exact hS
          · have := b2c_t (hpi.mpr ⟨z.1.1, z.1.2⟩)
            omega
        · have hpg : PrGr a ((k : Int) + 1) (2 * bd) := by
            rcases Classical.em (PrGr a ((k : Int) + 1) (2 * bd)) with z | z
            · exact z
            · exact absurd (b2c_f z) c3
          have hok : pOk a kd bd w ((k : Int) + 1) := ⟨hpi.mp hpg, hd0.mpr c2⟩
          have hffk : FsOk a kd w ((k : Int) + 1) ff := fun i i0 i1 i2 => hff i i0 i1 ((dif_0 hkb (by omega)).mp c2 i i0 (by omega) i2)
          refine r_aload_n dX5_find_121 (i := 0) rfl rfl (r_iload dX5_find_122 rfl (r_iload dX5_find_124 rfl ?_))
          refine c_vq dX5_find_126 (c_X5_compare hS hn hw (by omega) hffk htb) rfl rfl mq_X5_compare ml_X5_46 ⟨Nat.le_of_ble_eq_true rfl, Nat.le_of_ble_eq_true rfl⟩ hS.1 rfl rfl rfl (Nat.le_of_ble_eq_true rfl) (fun E S' h => by simp at h) (fun v S' hc => ?_)
          obtain ⟨e1, g1, g2⟩ := hc
          cases e1
          refine hnext S' ?_
          rw [hstep]
          by_cases hz : (pSs a kd bd w t0 k).1 = -1 ∨ stI a kd w ((k : Int) + 1) < (pSs a kd bd w t0 k).1
          · rw [pS_up hok hz]
            exact g1 hz
          · rw [pS_st hz]
            exact g2 hz
theorem dif_le64 : ∀ s : Nat, s < 64 → ∀ u : Nat, u < 64 → (s &&& (63 - u)) = 0 → s ≤ u := by decide +kernel
/-- sets beyond the usable ones don't count -/
theorem pSs_top {kd bd : Int} {w : Nat} {t : Int × Int × Int} {u : Nat} (hn : 0 ≤ a 0 ∧ a 0 ≤ 6) (hu : (u : Int) = usI a (if kd = 2 then 2 * (w : Int) else (w : Int)) (a 0).toNat) : ∀ j : Nat, ((u + j : Nat) : Int) ≤ 2 ^ (a 0).toNat - 1 → pSs a kd bd w t (u + j) = pSs a kd bd w t u
  | 0, _ => rfl
  | j + 1, hj => by
    have ih := pSs_top (kd := kd) (bd := bd) (w := w) (t := t) hn hu j (by omega)
    have h64 := pow_le64 hn
    have hub := usI_bd a (if kd = 2 then 2 * (w : Int) else (w : Int)) (a 0).toNat
    show pS a kd bd w ((u + j + 1 : Nat) : Int) (pSs a kd bd w t (u + j)) = _
    rw [ih, pS_no]
    intro hz
    have h1 := (have_dif (a := a) (set := ((u + j + 1 : Nat) : Int)) (od := if kd = 2 then 2 * (w : Int) else (w : Int)) hn ⟨by omega, by omega⟩).mp hz.2
    rw [← hu] at h1
    have h2 := dif_le64 (u + j + 1) (by omega) u (by omega)
    unfold dif at h1
    rw [Int.toNat_natCast, Int.toNat_natCast] at h1
    have h3 := h2 (by omega)
    omega
end PLAN2

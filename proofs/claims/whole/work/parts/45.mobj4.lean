/-! the model's own helpers: products of primes, costs, plans -/
def sp : Nat → Nat → Nat → Nat
  | 0, _, _ => 0
  | u + 1, f, left => if left ≤ 1 then 0 else if left % f = 0 then (f - 1) + sp u f (left / f) else sp u (f + 1) left
def spl (n : Nat) : Nat := sp 130 2 n
theorem sp_1 (u f left : Nat) (h : left ≤ 1) : sp u f left = 0 := by
  cases u with
  | zero => rfl
  | succ u =>
    show (if left ≤ 1 then 0 else _) = 0
    rw [if_pos h]
theorem sp_d {u f left : Nat} (h : 1 < left) (h2 : left % f = 0) : sp (u + 1) f left = (f - 1) + sp u f (left / f) := by
  show (if left ≤ 1 then 0 else if left % f = 0 then _ else _) = _
  rw [if_neg (by omega), if_pos h2]
theorem sp_n {u f left : Nat} (h : 1 < left) (h2 : left % f ≠ 0) : sp (u + 1) f left = sp u (f + 1) left := by
  show (if left ≤ 1 then 0 else if left % f = 0 then _ else _) = _
  rw [if_neg (by omega), if_neg h2]
theorem sp_le : ∀ (u f left : Nat), 2 ≤ f → sp u f left ≤ left
  | 0, _, _, _ => Nat.zero_le _
  | u + 1, f, left, hf => by
    rcases Nat.lt_or_ge 1 left with h | h
    · by_cases h2 : left % f = 0
      · rw [sp_d h h2]
        have h3 := sp_le u f (left / f) hf
        obtain ⟨c, hc⟩ := Nat.dvd_of_mod_eq_zero h2
        have e : left / f = c := by rw [hc, Nat.mul_div_cancel_left _ (by omega)]
        rw [e] at h3 ⊢
        have hc0 : 1 ≤ c := by
          rcases Nat.eq_zero_or_pos c with z | z
          · subst z
            omega
          · exact z
        obtain ⟨f', rfl⟩ : ∃ f', f = f' + 1 := ⟨f - 1, by omega⟩
        have e2 : (f' + 1) * c = f' * c + c := Nat.succ_mul f' c
        have e3 := Nat.mul_le_mul_left f' hc0
        omega
      · rw [sp_n h h2]
        exact sp_le u (f + 1) left (by omega)
    · rw [sp_1 _ _ _ (by omega)]
      omega
def tOf (n : Nat) : Nat := if n ≤ 1 then 0 else if n ≤ 2 then 2 else if n ≤ 4 then 3 else if n ≤ 8 then 4 else if n ≤ 16 then 5 else if n ≤ 32 then 6 else 7
theorem tOf_ok : ∀ n, n < 65 → 1 ≤ n → tOf n ≤ 7 ∧ 2 * n - 1 ≤ 2 ^ tOf n ∧ ∀ s, s < tOf n → 2 ^ s < 2 * n - 1 := by
  intro n h1 h2
  unfold tOf
  repeat' split
  all_goals refine ⟨by omega, by omega, fun s hs => ?_⟩
  all_goals
    rcases s with _ | _ | _ | _ | _ | _ | _ | s
    all_goals omega
def csI (p : Int) (n : Nat) (mt : Int) : Int := if mt = 0 then (n : Int) * n else if mt = 1 then (n : Int) * (spl n : Int) else if (p - 1) % ((2 ^ tOf n : Nat) : Int) = 0 then 3 * ((2 ^ tOf n : Nat) : Int) * (tOf n : Int) + ((2 ^ tOf n : Nat) : Int) + 2 * (n : Int) else -1
theorem csI_bd (p : Int) {n : Nat} (hn : 1 ≤ n ∧ n ≤ 64) (mt : Int) : -1 ≤ csI p n mt ∧ csI p n mt ≤ 4096 := by
  have h1 := Nat.mul_le_mul hn.2 hn.2
  have h2 := Nat.mul_le_mul hn.2 (Nat.le_trans (sp_le 130 2 n (by omega)) hn.2)
  have h3 := (tOf_ok n (by omega) hn.1).1
  have h4 := Nat.pow_le_pow_right (show 0 < 2 by omega) h3
  have h5 := Nat.mul_le_mul h4 h3
  have h6 := Nat.pow_pos (n := tOf n) (show 0 < 2 by omega)
  have e1 : ((n : Int) * n) = ((n * n : Nat) : Int) := (Int.natCast_mul _ _).symm
  have e2 : ((n : Int) * (spl n : Int)) = ((n * spl n : Nat) : Int) := (Int.natCast_mul _ _).symm
  have e3 : (3 * ((2 ^ tOf n : Nat) : Int) * (tOf n : Int)) = ((3 * (2 ^ tOf n * tOf n) : Nat) : Int) := by
    rw [Int.natCast_mul, Int.natCast_mul, Int.mul_assoc]
    rfl
  have h2' : n * spl n ≤ 4096 := h2
  unfold csI
  rw [e1, e2, e3]
  generalize 2 ^ tOf n * tOf n = z1 at *
  generalize 2 ^ tOf n = z2 at *
  generalize n * spl n = z3 at *
  generalize n * n = z4 at *
  split
  · omega
  · split
    · omega
    · split <;> omega
theorem csI_0 (p : Int) (n : Nat) : csI p n 0 = (n : Int) * n := rfl
theorem csI_1 (p : Int) (n : Nat) : csI p n 1 = (n : Int) * (spl n : Int) := rfl
def bm1 (p : Int) (n : Nat) : Int := if csI p n 1 ≠ -1 ∧ csI p n 1 < csI p n 0 then 1 else 0
def bmI (p : Int) (n : Nat) : Int := if csI p n 2 ≠ -1 ∧ csI p n 2 < csI p n (bm1 p n) then 2 else bm1 p n
theorem bmI_bd (p : Int) (n : Nat) : 0 ≤ bmI p n ∧ bmI p n ≤ 2 := by
  unfold bmI bm1
  split
  · omega
  · split <;> omega
def noTrI (a : Int → Int) (q n gd : Int) : Int := if 0 ≤ q ∧ q ≤ a 0 - 1 then (if (1 ≤ n ∧ n ≤ 64) ∧ gd ≠ 0 then (if (a (1 + q) - 1) % n = 0 then 0 else 3) else 2) else 1
theorem div_lt_mul {x y M : Int} (hy : 0 < y) : M / y < x ↔ M < x * y := Int.ediv_lt_iff_lt_mul hy
section MOBJ4
variable {g : GT} {S : PS} {mc ms : Nat} {Q : PO → PS → Prop} {kc ks : Nat} {m : Nat} {a : Int → Int} {fs : List Value}
theorem l_productOf {set : Int} (h : S.1 m = some (cO 10 (.ref (m + 1) :: fs))) (ha : S.1 (m + 1) = some (cJ 215 a)) (hp : MP a) (hs : 0 ≤ set ∧ set ≤ 64) (hq : Q (.inl (some (vl (prC a set)))) S) : ∀ (n k : Nat), (k : Int) + n = a 0 → prS a set k ≤ 4000000000000000000 →
    PW g cX10_productOf (iX10_productOf mc ms) 5 [(0, some (.ref m)), (1, some (vi set)), (2, some (vl (prS a set k))), (4, some (vi (k : Int)))] [] S kc ks Q := by
  intro n
  have hn := hp.1
  induction n with
  | zero =>
    intro k hk hle
    refine r_iload dX10_productOf_5 rfl (r_i2l dX10_productOf_7 (by omega) (r_aload_n dX10_productOf_8 (i := 0) rfl rfl (r_get dX10_productOf_9 fl_X10_7 h rfl (r_iconst dX10_productOf_12 ?_))))
    refine r_lald dX10_productOf_13 ha (by omega) (by omega) (by omega) ?_
    refine r_lcmp_ge 66 dX10_productOf_14 dX10_productOf_15 (by decide) (by omega) (by omega) (fun c1 => ?_) (fun c1 => ?_)
    · refine r_lload_n dX10_productOf_66 (i := 2) rfl rfl ?_
      refine r_lret dX10_productOf_67 rfl ?_
      have e : prC a set = prS a set k := by
        unfold prC
        rw [show (a 0).toNat = k by omega, if_pos hle]
      rw [← e]
      exact hq
    · omega
  | succ n ih =>
    intro k hk hle
    have hpk := hp.2 k (by omega) (by omega)
    have hpos := prS_pos (set := set) hp k (by omega)
    have hdb := div_bd hs.1 hs.2 (k : Int)
    have hd1 := Int.ediv_le_self (a (1 + (k : Int))) (show (0 : Int) ≤ 4000000000000000000 by omega)
    have hd2 := Int.ediv_nonneg (show (0 : Int) ≤ 4000000000000000000 by omega) (show 0 ≤ a (1 + (k : Int)) by omega)
    have hdm := div_lt_mul (x := prS a set k) (M := 4000000000000000000) (show 0 < a (1 + (k : Int)) by omega)
    refine r_iload dX10_productOf_5 rfl (r_i2l dX10_productOf_7 (by omega) (r_aload_n dX10_productOf_8 (i := 0) rfl rfl (r_get dX10_productOf_9 fl_X10_7 h rfl (r_iconst dX10_productOf_12 ?_))))
    refine r_lald dX10_productOf_13 ha (by omega) (by omega) (by omega) ?_
    refine r_lcmp_ge 66 dX10_productOf_14 dX10_productOf_15 (by decide) (by omega) (by omega) (fun c1 => ?_) (fun c1 => ?_)
    · omega
    · refine r_iload_n dX10_productOf_18 (i := 1) rfl rfl (r_iload dX10_productOf_19 rfl ?_)
      refine r_ishr (set / 2 ^ (k : Int).toNat) dX10_productOf_21 (q_shr ⟨by omega, by omega⟩ (by omega)) ?_
      refine r_iconst dX10_productOf_22 ?_
      refine r_iand (set / 2 ^ (k : Int).toNat % 2) dX10_productOf_23 (q_and1 (by omega) (by omega)) ?_
      refine r_if_ne 30 dX10_productOf_24 (by decide) (by omega) (fun c2 => ?_) (fun c2 => ?_)
      · refine r_lload_n dX10_productOf_30 (i := 2) rfl rfl (r_ldc2 dX10_productOf_31 csj_X10_262 (r_aload_n dX10_productOf_34 (i := 0) rfl rfl (r_iload dX10_productOf_35 rfl (c_vr dX10_productOf_37 (c_X10_primeAt h ha (by omega)) rfl rfl mq_X10_primeAt ml_X10_165 ⟨Nat.le_of_ble_eq_true rfl, Nat.le_of_ble_eq_true rfl⟩ h rfl rfl rfl (Nat.le_of_ble_eq_true rfl) ?_))))
        refine r_i2l dX10_productOf_40 (by omega) (r_ldivN dX10_productOf_41 (by omega) (by omega) (by omega) (by omega) ?_)
        refine r_lcmp_le 50 dX10_productOf_42 dX10_productOf_43 (by decide) (by omega) (by omega) (fun c3 => ?_) (fun c3 => ?_)
        · refine r_lload_n dX10_productOf_50 (i := 2) rfl rfl (r_aload_n dX10_productOf_51 (i := 0) rfl rfl (r_iload dX10_productOf_52 rfl (c_vr dX10_productOf_54 (c_X10_primeAt h ha (by omega)) rfl rfl mq_X10_primeAt ml_X10_165 ⟨Nat.le_of_ble_eq_true rfl, Nat.le_of_ble_eq_true rfl⟩ h rfl rfl rfl (Nat.le_of_ble_eq_true rfl) (r_i2l dX10_productOf_57 (by omega) ?_))))
          refine r_lmul dX10_productOf_58 (r_lstore_n dX10_productOf_59 (i := 2) rfl rfl (Nat.le_of_ble_eq_true rfl) (r_iinc dX10_productOf_60 rfl rfl (r_goto 5 dX10_productOf_63 (by decide) ?_)))
          rw [← prS_t (show bt set (k : Int) by show _ % 2 = 1; omega)]
          refine r_loc [(0, some (.ref m)), (1, some (vi set)), (2, some (vl (prS a set (k + 1)))), (4, some (vi ((k + 1 : Nat) : Int)))] ⟨Or.inl rfl, Or.inl rfl, Or.inl rfl, Or.inl rfl, trivial⟩ (ih (k + 1) (by omega) ?_)
          rw [prS_t (show bt set (k : Int) by show _ % 2 = 1; omega)]
          omega
        · refine r_ldc2 dX10_productOf_46 csj_X10_264 ?_
          refine r_lret dX10_productOf_49 rfl ?_
          have e1 := prS_mono (set := set) hp (k := k + 1) n (by omega)
          rw [prS_t (show bt set (k : Int) by show _ % 2 = 1; omega)] at e1
          have e : prC a set = 4000000000000000001 := by
            unfold prC
            rw [show (a 0).toNat = k + 1 + n by omega, if_neg (by omega)]
          rw [← e]
          exact hq
      · refine r_goto 60 dX10_productOf_27 (by decide) (r_iinc dX10_productOf_60 rfl rfl (r_goto 5 dX10_productOf_63 (by decide) ?_))
        have e1 := prS_f (a := a) (show ¬ bt set (k : Int) from fun z => by have z2 : set / 2 ^ (k : Int).toNat % 2 = 1 := z; omega)
        exact r_loc [(0, some (.ref m)), (1, some (vi set)), (2, some (vl (prS a set (k + 1)))), (4, some (vi ((k + 1 : Nat) : Int)))] ⟨Or.inl rfl, Or.inl rfl, Or.inl (lv_eq e1), Or.inl rfl, trivial⟩ (ih (k + 1) (by omega) (by rw [e1]; exact hle))
theorem c_X10_productOf {set : Int} (h : S.1 m = some (cO 10 (.ref (m + 1) :: fs))) (ha : S.1 (m + 1) = some (cJ 215 a)) (hp : MP a) (hs : 0 ≤ set ∧ set ≤ 64) : PC g yX10_productOf cX10_productOf (iX10_productOf mc ms) [.ref m, vi set] S (Rt (some (vl (prC a set))) S) := by
  refine PC_of pnX10 rfl rfl rfl (Nat.le_of_ble_eq_true rfl) ?_
  have hn := hp.1
  refine r_lconst (z := 1) dX10_productOf_0 (by decide) (r_lstore_n dX10_productOf_1 (i := 2) rfl rfl (Nat.le_of_ble_eq_true rfl) (r_iconst dX10_productOf_2 (r_istore dX10_productOf_3 rfl (Nat.le_of_ble_eq_true rfl) ?_)))
  exact r_loc [(0, some (.ref m)), (1, some (vi set)), (2, some (vl (prS a set (0 : Nat)))), (4, some (vi ((0 : Nat) : Int)))] ⟨Or.inl rfl, Or.inl rfl, Or.inl rfl, Or.inl rfl, trivial⟩ (l_productOf h ha hp hs ⟨rfl, rfl⟩ (a 0).toNat 0 (by omega) (by show (1 : Int) ≤ _; omega))
theorem prC_bd {a : Int → Int} (hp : MP a) (set : Int) : 1 ≤ prC a set ∧ prC a set ≤ 4000000000000000001 := by
  have := prS_pos (set := set) hp (a 0).toNat (by have := hp.1; omega)
  unfold prC
  split <;> omega
theorem c_X10_areEnough {set b : Int} (h : S.1 m = some (cO 10 (.ref (m + 1) :: fs))) (ha : S.1 (m + 1) = some (cJ 215 a)) (hp : MP a) (hs : 0 ≤ set ∧ set ≤ 64) (hb : 0 ≤ b ∧ b ≤ 3199360032) : PC g yX10_areEnough cX10_areEnough (iX10_areEnough mc ms) [.ref m, vi set, vl b] S (Rt (some (vi (b2i (0 < set ∧ 2 * b < prC a set)))) S) := by
  refine PC_of pnX10 rfl rfl rfl (Nat.le_of_ble_eq_true rfl) ?_
  have hc := prC_bd hp set
  refine r_iload_n dX10_areEnough_0 (i := 1) rfl rfl ?_
  refine r_if_le 22 dX10_areEnough_1 (by decide) (by omega) (fun c1 => ?_) (fun c1 => ?_)
  · refine r_iconst dX10_areEnough_22 ?_
    refine r_iret dX10_areEnough_23 rfl (q_narZ (by first | exact Or.inl rfl | exact Or.inr rfl)) ?_
    first | omega | exact ⟨rfl, rfl⟩ | exact ⟨by rw [b2i_t (by omega)], rfl⟩ | exact ⟨by rw [b2i_f (by omega)], rfl⟩
  · refine r_aload_n dX10_areEnough_4 (i := 0) rfl rfl (r_iload_n dX10_areEnough_5 (i := 1) rfl rfl (c_vr dX10_areEnough_6 (c_X10_productOf h ha hp hs) rfl rfl mq_X10_productOf ml_X10_266 ⟨Nat.le_of_ble_eq_true rfl, Nat.le_of_ble_eq_true rfl⟩ h rfl rfl rfl (Nat.le_of_ble_eq_true rfl) (r_ldc2 dX10_areEnough_9 csj_X10_151 (r_lload_n dX10_areEnough_12 (i := 2) rfl rfl ?_))))
    refine r_lmul dX10_areEnough_13 ?_
    refine r_lcmp_le 22 dX10_areEnough_14 dX10_areEnough_15 (by decide) (by omega) (by omega) (fun c2 => ?_) (fun c2 => ?_)
    · refine r_iconst dX10_areEnough_22 ?_
      refine r_iret dX10_areEnough_23 rfl (q_narZ (by first | exact Or.inl rfl | exact Or.inr rfl)) ?_
      first | omega | exact ⟨rfl, rfl⟩ | exact ⟨by rw [b2i_t (by omega)], rfl⟩ | exact ⟨by rw [b2i_f (by omega)], rfl⟩
    · refine r_iconst dX10_areEnough_18 (r_goto 23 dX10_areEnough_19 (by decide) ?_)
      refine r_iret dX10_areEnough_23 rfl (q_narZ (by first | exact Or.inl rfl | exact Or.inr rfl)) ?_
      first | omega | exact ⟨rfl, rfl⟩ | exact ⟨by rw [b2i_t (by omega)], rfl⟩ | exact ⟨by rw [b2i_f (by omega)], rfl⟩
theorem c_X10_noTransform {q n gd : Int} (h : S.1 m = some (cO 10 (.ref (m + 1) :: fs))) (ha : S.1 (m + 1) = some (cJ 215 a)) (hp : MP a) (hq : RI q) (hn : RI n) (hg : gd = 0 ∨ gd = 1) : PC g yX10_noTransform cX10_noTransform (iX10_noTransform mc ms) [.ref m, vi q, vi n, vi gd] S (Rt (some (vi (noTrI a q n gd))) S) := by
  refine PC_of pnX10 rfl rfl rfl (Nat.le_of_ble_eq_true rfl) ?_
  have h0 := hp.1
  refine r_aload_n dX10_noTransform_0 (i := 0) rfl rfl (r_iload_n dX10_noTransform_1 (i := 1) rfl rfl (c_vr dX10_noTransform_2 (c_X10_isThere h ha h0 hq) rfl rfl mq_X10_isThere ml_X10_146 ⟨Nat.le_of_ble_eq_true rfl, Nat.le_of_ble_eq_true rfl⟩ h rfl rfl rfl (Nat.le_of_ble_eq_true rfl) ?_))
  refine r_if_ne 12 dX10_noTransform_5 (by decide) b2i_RI (fun c1 => ?_) (fun c1 => ?_)
  · replace c1 := b2i_ne c1
    refine r_iload_n dX10_noTransform_12 (i := 2) rfl rfl (r_i2l dX10_noTransform_13 (by omega) (r_lconst (z := 1) dX10_noTransform_14 (by decide) (r_ldc2 dX10_noTransform_15 csj_X10_218 (c_sr dX10_noTransform_18 (c_X10_isIn ⟨by omega, by omega⟩ ⟨by omega, by omega⟩ ⟨by omega, by omega⟩) rfl rfl mq_X10_isIn ml_X10_46 ⟨Nat.le_of_ble_eq_true rfl, Nat.le_of_ble_eq_true rfl⟩ rfl rfl (Nat.le_of_ble_eq_true rfl) ?_))))
    refine r_if_eq 28 dX10_noTransform_21 (by decide) b2i_RI (fun c2 => ?_) (fun c2 => ?_)
    · replace c2 := b2i_eq c2
      refine r_iconst dX10_noTransform_28 (r_goto 49 dX10_noTransform_29 (by decide) ?_)
      refine r_iret dX10_noTransform_49 rfl rfl ?_
      exact ⟨by unfold noTrI; first | rw [if_neg (by omega)] | rw [if_pos (by omega), if_neg (by omega)] | rw [if_pos (by omega), if_pos (by omega), if_neg (by omega)] | rw [if_pos (by omega), if_pos (by omega), if_pos (by omega)], rfl⟩
    · replace c2 := b2i_ne c2
      refine r_iload_n dX10_noTransform_24 (i := 3) rfl rfl ?_
      refine r_if_ne 32 dX10_noTransform_25 (by decide) (by omega) (fun c3 => ?_) (fun c3 => ?_)
      · have hpq := hp.2 q (by omega) (by omega)
        have e1 := Int.emod_nonneg (a (1 + q) - 1) (show n ≠ 0 by omega)
        have e2 := Int.emod_lt_of_pos (a (1 + q) - 1) (show 0 < n by omega)
        refine r_aload_n dX10_noTransform_32 (i := 0) rfl rfl (r_iload_n dX10_noTransform_33 (i := 1) rfl rfl (c_vr dX10_noTransform_34 (c_X10_primeAt h ha (by omega)) rfl rfl mq_X10_primeAt ml_X10_165 ⟨Nat.le_of_ble_eq_true rfl, Nat.le_of_ble_eq_true rfl⟩ h rfl rfl rfl (Nat.le_of_ble_eq_true rfl) (r_iconst dX10_noTransform_37 (r_isub dX10_noTransform_38 ?_))))
        refine r_iload_n dX10_noTransform_39 (i := 2) rfl rfl (r_iremN dX10_noTransform_40 (by omega) (by omega) (by omega) (by omega) ?_)
        refine r_if_eq 48 dX10_noTransform_41 (by decide) (by omega) (fun c4 => ?_) (fun c4 => ?_)
        · refine r_iconst dX10_noTransform_48 ?_
          refine r_iret dX10_noTransform_49 rfl rfl ?_
          exact ⟨by unfold noTrI; first | rw [if_neg (by omega)] | rw [if_pos (by omega), if_neg (by omega)] | rw [if_pos (by omega), if_pos (by omega), if_neg (by omega)] | rw [if_pos (by omega), if_pos (by omega), if_pos (by omega)], rfl⟩
        · refine r_iconst dX10_noTransform_44 (r_goto 49 dX10_noTransform_45 (by decide) ?_)
          refine r_iret dX10_noTransform_49 rfl rfl ?_
          exact ⟨by unfold noTrI; first | rw [if_neg (by omega)] | rw [if_pos (by omega), if_neg (by omega)] | rw [if_pos (by omega), if_pos (by omega), if_neg (by omega)] | rw [if_pos (by omega), if_pos (by omega), if_pos (by omega)], rfl⟩
      · refine r_iconst dX10_noTransform_28 (r_goto 49 dX10_noTransform_29 (by decide) ?_)
        refine r_iret dX10_noTransform_49 rfl rfl ?_
        exact ⟨by unfold noTrI; first | rw [if_neg (by omega)] | rw [if_pos (by omega), if_neg (by omega)] | rw [if_pos (by omega), if_pos (by omega), if_neg (by omega)] | rw [if_pos (by omega), if_pos (by omega), if_pos (by omega)], rfl⟩
  · replace c1 := b2i_eq c1
    refine r_iconst dX10_noTransform_8 (r_goto 49 dX10_noTransform_9 (by decide) ?_)
    refine r_iret dX10_noTransform_49 rfl rfl ?_
    exact ⟨by unfold noTrI; first | rw [if_neg (by omega)] | rw [if_pos (by omega), if_neg (by omega)] | rw [if_pos (by omega), if_pos (by omega), if_neg (by omega)] | rw [if_pos (by omega), if_pos (by omega), if_pos (by omega)], rfl⟩
def SpI (n f left : Nat) : Prop := 2 ≤ f ∧ f ≤ n + 1 ∧ 1 ≤ left ∧ left ≤ n ∧ ∀ d, 2 ≤ d → d < f → ¬ d ∣ left
theorem SpI.le {n f left : Nat} (h : SpI n f left) (h1 : 1 < left) : f ≤ left := by
  rcases Nat.lt_or_ge left f with z | z
  · exact absurd (Nat.dvd_refl left) (h.2.2.2.2 left h1 z)
  · exact z
theorem SpI.up {n f left : Nat} (h : SpI n f left) (h1 : 1 < left) (h2 : left % f ≠ 0) : SpI n (f + 1) left := by
  have hle := h.le h1
  obtain ⟨a, b, c, d, e⟩ := h
  refine ⟨by omega, by omega, c, d, fun x x1 x2 hx => ?_⟩
  by_cases z : x = f
  · subst z
    exact h2 (Nat.mod_eq_zero_of_dvd hx)
  · exact e x x1 (by omega) hx
theorem SpI.dv {n f left : Nat} (h : SpI n f left) (h1 : 1 < left) (h2 : left % f = 0) : SpI n f (left / f) ∧ left / f < left := by
  obtain ⟨a, b, c, d, e⟩ := h
  have hd : f ∣ left := Nat.dvd_of_mod_eq_zero h2
  have hlt : left / f < left := Nat.div_lt_self (by omega) (by omega)
  have hpos : 1 ≤ left / f := Nat.div_pos (Nat.le_of_dvd (by omega) hd) (by omega)
  refine ⟨⟨a, b, hpos, by omega, fun x x1 x2 hx => e x x1 x2 (Nat.dvd_trans hx ⟨f, (Nat.div_mul_cancel hd).symm⟩)⟩, hlt⟩
theorem l_spl {p : Int} {n : Nat} (hn : 1 ≤ n ∧ n ≤ 64) (hq : Q (.inl (some (vi ((n : Int) * (spl n : Int))))) S) : ∀ (u f left sum : Nat), SpI n f left → (left - 1) + (n + 1 - f) ≤ u → sum + sp u f left = spl n →
    PW g cX10_costOf (iX10_costOf mc ms) 21 [(0, some (vi p)), (1, some (vi (n : Int))), (2, some (vi 1)), (3, some (vi (sum : Int))), (4, some (vi (left : Int))), (5, some (vi (f : Int)))] [] S kc ks Q ∧ PW g cX10_costOf (iX10_costOf mc ms) 27 [(0, some (vi p)), (1, some (vi (n : Int))), (2, some (vi 1)), (3, some (vi (sum : Int))), (4, some (vi (left : Int))), (5, some (vi (f : Int)))] [] S kc ks Q := by
  intro u
  have ex : ∀ (f left sum : Nat), 2 ≤ f → f ≤ 65 → left = 1 → sum = spl n → PW g cX10_costOf (iX10_costOf mc ms) 21 [(0, some (vi p)), (1, some (vi (n : Int))), (2, some (vi 1)), (3, some (vi (sum : Int))), (4, some (vi (left : Int))), (5, some (vi (f : Int)))] [] S kc ks Q ∧ PW g cX10_costOf (iX10_costOf mc ms) 27 [(0, some (vi p)), (1, some (vi (n : Int))), (2, some (vi 1)), (3, some (vi (sum : Int))), (4, some (vi (left : Int))), (5, some (vi (f : Int)))] [] S kc ks Q := by
    intro f left sum hf hf2 h1 hs
    subst hs
    have e1 : (left : Int) % (f : Int) = 1 := by rw [h1]; exact Int.emod_eq_of_lt (by omega) (by omega)
    refine ⟨?_, ?_⟩
    · refine r_iload dX10_costOf_21 rfl (r_iconst dX10_costOf_23 ?_)
      refine r_icmp_le 58 dX10_costOf_24 (by decide) (by omega) (by omega) (fun c1 => ?_) (fun c1 => ?_)
      · refine r_iload_n dX10_costOf_58 (i := 1) rfl rfl (r_iload_n dX10_costOf_59 (i := 3) rfl rfl (r_imul dX10_costOf_60 ?_))
        refine r_iret dX10_costOf_61 rfl rfl ?_
        exact hq
      · omega
    · refine r_iload dX10_costOf_27 rfl (r_iload dX10_costOf_29 rfl (r_iremN dX10_costOf_31 (by omega) (by omega) (by omega) (by omega) ?_))
      rw [e1]
      refine r_if_ne 52 dX10_costOf_32 (by decide) (by omega) (fun c1 => ?_) (fun c1 => ?_)
      · refine r_iinc dX10_costOf_52 rfl rfl (r_goto 21 dX10_costOf_55 (by decide) (r_iload dX10_costOf_21 rfl (r_iconst dX10_costOf_23 ?_)))
        refine r_icmp_le 58 dX10_costOf_24 (by decide) (by omega) (by omega) (fun c2 => ?_) (fun c2 => ?_)
        · refine r_iload_n dX10_costOf_58 (i := 1) rfl rfl (r_iload_n dX10_costOf_59 (i := 3) rfl rfl (r_imul dX10_costOf_60 ?_))
          refine r_iret dX10_costOf_61 rfl rfl ?_
          exact hq
        · omega
      · omega
  induction u with
  | zero =>
    intro f left sum hi hu hs
    have hs2 : sp 0 f left = 0 := rfl
    have hi2 := hi.2
    have := hi.1
    exact ex f left sum hi.1 (by omega) (by omega) (by omega)
  | succ u ih =>
    intro f left sum hi hu hs
    have hi2 := hi.2
    have hi1 := hi.1
    rcases Nat.lt_or_ge 1 left with h1 | h1
    · have hle := hi.le h1
      have e1 : (left : Int) % (f : Int) = ((left % f : Nat) : Int) := (Int.natCast_emod _ _).symm
      have hml := Nat.mod_lt left (show 0 < f by omega)
      have key : PW g cX10_costOf (iX10_costOf mc ms) 27 [(0, some (vi p)), (1, some (vi (n : Int))), (2, some (vi 1)), (3, some (vi (sum : Int))), (4, some (vi (left : Int))), (5, some (vi (f : Int)))] [] S kc ks Q := by
        refine r_iload dX10_costOf_27 rfl (r_iload dX10_costOf_29 rfl (r_iremN dX10_costOf_31 (by omega) (by omega) (by omega) (by omega) ?_))
        rw [e1]
        refine r_if_ne 52 dX10_costOf_32 (by decide) (by omega) (fun c1 => ?_) (fun c1 => ?_)
        · refine r_iinc dX10_costOf_52 rfl rfl (r_goto 21 dX10_costOf_55 (by decide) ?_)
          have e2 : left % f ≠ 0 := by omega
          rw [sp_n h1 e2] at hs
          exact r_loc [(0, some (vi p)), (1, some (vi (n : Int))), (2, some (vi 1)), (3, some (vi (sum : Int))), (4, some (vi (left : Int))), (5, some (vi ((f + 1 : Nat) : Int)))] ⟨Or.inl rfl, Or.inl rfl, Or.inl rfl, Or.inl rfl, Or.inl rfl, Or.inl rfl, trivial⟩ (ih (f + 1) left sum (hi.up h1 e2) (by omega) hs).1
        · refine r_iload_n dX10_costOf_35 (i := 3) rfl rfl (r_iload dX10_costOf_36 rfl (r_iconst dX10_costOf_38 (r_isub dX10_costOf_39 (r_iadd dX10_costOf_40 ?_))))
          refine r_istore_n dX10_costOf_41 (i := 3) rfl rfl (Nat.le_of_ble_eq_true rfl) (r_iload dX10_costOf_42 rfl (r_iload dX10_costOf_44 rfl (r_idivN dX10_costOf_46 (by omega) (by omega) (by omega) (by omega) (r_istore dX10_costOf_47 rfl (Nat.le_of_ble_eq_true rfl) ?_))))
          refine r_goto 27 dX10_costOf_49 (by decide) ?_
          have e2 : left % f = 0 := by omega
          rw [sp_d h1 e2] at hs
          obtain ⟨hi3, hlt⟩ := hi.dv h1 e2
          have hi4 := hi3.2.2.1
          exact r_loc [(0, some (vi p)), (1, some (vi (n : Int))), (2, some (vi 1)), (3, some (vi ((sum + (f - 1) : Nat) : Int))), (4, some (vi ((left / f : Nat) : Int))), (5, some (vi (f : Int)))] ⟨Or.inl rfl, Or.inl rfl, Or.inl rfl, Or.inl (lvi_eq (by omega)), Or.inl rfl, Or.inl rfl, trivial⟩ (ih f (left / f) (sum + (f - 1)) hi3 (by omega) (by omega)).2
      refine ⟨?_, key⟩
      refine r_iload dX10_costOf_21 rfl (r_iconst dX10_costOf_23 ?_)
      refine r_icmp_le 58 dX10_costOf_24 (by decide) (by omega) (by omega) (fun c1 => ?_) (fun c1 => ?_)
      · omega
      · exact key
    · have hs2 := sp_1 (u + 1) f left h1
      exact ex f left sum hi1 (by omega) (by omega) (by omega)
theorem l_chirp {p mt : Int} {n : Nat} (hn : 1 ≤ n ∧ n ≤ 64) (hp : 3 ≤ p ∧ p ≤ 100003) (hmt : mt = 2) (hq : Q (.inl (some (vi (csI p n mt)))) S) : ∀ (r t : Nat), t + r = tOf n →
    PW g cX10_costOf (iX10_costOf mc ms) 67 [(0, some (vi p)), (1, some (vi (n : Int))), (2, some (vi mt)), (3, some (vi ((2 ^ t : Nat) : Int))), (4, some (vi (t : Int)))] [] S kc ks Q := by
  intro r
  obtain ⟨t1, t2, t3⟩ := tOf_ok n (by omega) hn.1
  have ecs : csI p n mt = if (p - 1) % ((2 ^ tOf n : Nat) : Int) = 0 then 3 * ((2 ^ tOf n : Nat) : Int) * (tOf n : Int) + ((2 ^ tOf n : Nat) : Int) + 2 * (n : Int) else -1 := by
    unfold csI
    rw [if_neg (by omega), if_neg (by omega)]
  induction r with
  | zero =>
    intro t ht
    have e : tOf n = t := by omega
    rw [e] at ecs t2 t1
    have h6 := Nat.pow_pos (n := t) (show 0 < 2 by omega)
    have h7 := Nat.pow_le_pow_right (show 0 < 2 by omega) t1
    generalize (2 ^ t : Nat) = z at *
    have b1 := Int.emod_nonneg (p - 1) (show (z : Int) ≠ 0 by omega)
    have b2 := Int.emod_lt_of_pos (p - 1) (show (0 : Int) < z by omega)
    refine r_iload_n dX10_costOf_67 (i := 3) rfl rfl (r_iconst dX10_costOf_68 (r_iload_n dX10_costOf_69 (i := 1) rfl rfl (r_imul dX10_costOf_70 (r_iconst dX10_costOf_71 ?_))))
    refine r_isub dX10_costOf_72 ?_
    refine r_icmp_ge 86 dX10_costOf_73 (by decide) (by omega) (by omega) (fun c1 => ?_) (fun c1 => ?_)
    · refine r_iload_n dX10_costOf_86 (i := 0) rfl rfl (r_iconst dX10_costOf_87 (r_isub dX10_costOf_88 (r_iload_n dX10_costOf_89 (i := 3) rfl rfl (r_iremN dX10_costOf_90 (by omega) (by omega) (by omega) (by omega) ?_))))
      refine r_if_ne 109 dX10_costOf_91 (by decide) (by omega) (fun c2 => ?_) (fun c2 => ?_)
      · refine r_iconst dX10_costOf_109 ?_
        refine r_iret dX10_costOf_110 rfl rfl ?_
        first | (rw [if_pos (by omega)] at ecs; rw [← ecs]; exact hq) | (rw [if_neg (by omega)] at ecs; rw [← ecs]; exact hq)
      · refine r_iconst dX10_costOf_94 (r_iload_n dX10_costOf_95 (i := 3) rfl rfl (r_imul dX10_costOf_96 (r_iload dX10_costOf_97 rfl (r_imul dX10_costOf_99 ?_))))
        refine r_iload_n dX10_costOf_100 (i := 3) rfl rfl (r_iadd dX10_costOf_101 (r_iconst dX10_costOf_102 (r_iload_n dX10_costOf_103 (i := 1) rfl rfl (r_imul dX10_costOf_104 ?_))))
        refine r_iadd dX10_costOf_105 (r_goto 110 dX10_costOf_106 (by decide) ?_)
        refine r_iret dX10_costOf_110 rfl rfl ?_
        first | (rw [if_pos (by omega)] at ecs; rw [← ecs]; exact hq) | (rw [if_neg (by omega)] at ecs; rw [← ecs]; exact hq)
    · omega
  | succ r ih =>
    intro t ht
    have h6 := t3 t (by omega)
    have h8 := ih (t + 1) (by omega)
    rw [Nat.pow_succ] at h8
    have h7 := Nat.pow_le_pow_right (show 0 < 2 by omega) (show t ≤ 7 by omega)
    generalize (2 ^ t : Nat) = z at *
    refine r_iload_n dX10_costOf_67 (i := 3) rfl rfl (r_iconst dX10_costOf_68 (r_iload_n dX10_costOf_69 (i := 1) rfl rfl (r_imul dX10_costOf_70 (r_iconst dX10_costOf_71 ?_))))
    refine r_isub dX10_costOf_72 ?_
    refine r_icmp_ge 86 dX10_costOf_73 (by decide) (by omega) (by omega) (fun c1 => ?_) (fun c1 => ?_)
    · omega
    · refine r_iload_n dX10_costOf_76 (i := 3) rfl rfl (r_iconst dX10_costOf_77 (r_imul dX10_costOf_78 (r_istore_n dX10_costOf_79 (i := 3) rfl rfl (Nat.le_of_ble_eq_true rfl) (r_iinc dX10_costOf_80 rfl rfl ?_))))
      refine r_goto 67 dX10_costOf_83 (by decide) ?_
      exact r_loc [(0, some (vi p)), (1, some (vi (n : Int))), (2, some (vi mt)), (3, some (vi ((z * 2 : Nat) : Int))), (4, some (vi ((t + 1 : Nat) : Int)))] ⟨Or.inl rfl, Or.inl rfl, Or.inl rfl, Or.inl rfl, Or.inl rfl, trivial⟩ h8
theorem c_X10_costOf {p mt : Int} {n : Nat} (hn : 1 ≤ n ∧ n ≤ 64) (hp : 3 ≤ p ∧ p ≤ 100003) (hmt : 0 ≤ mt ∧ mt ≤ 2) : PC g yX10_costOf cX10_costOf (iX10_costOf mc ms) [vi p, vi (n : Int), vi mt] S (Rt (some (vi (csI p n mt))) S) := by
  refine PC_of pnX10 rfl rfl rfl (Nat.le_of_ble_eq_true rfl) ?_
  refine r_iload_n dX10_costOf_0 (i := 2) rfl rfl ?_
  refine r_if_ne 8 dX10_costOf_1 (by decide) (by omega) (fun c1 => ?_) (fun c1 => ?_)
  · refine r_iload_n dX10_costOf_8 (i := 2) rfl rfl (r_iconst dX10_costOf_9 ?_)
    refine r_icmp_ne 62 dX10_costOf_10 (by decide) (by omega) (by omega) (fun c2 => ?_) (fun c2 => ?_)
    · refine r_iconst dX10_costOf_62 (r_istore_n dX10_costOf_63 (i := 3) rfl rfl (Nat.le_of_ble_eq_true rfl) (r_iconst dX10_costOf_64 (r_istore dX10_costOf_65 rfl (Nat.le_of_ble_eq_true rfl) ?_)))
      exact r_loc [(0, some (vi p)), (1, some (vi (n : Int))), (2, some (vi mt)), (3, some (vi ((2 ^ 0 : Nat) : Int))), (4, some (vi ((0 : Nat) : Int)))] ⟨Or.inl rfl, Or.inl rfl, Or.inl rfl, Or.inl rfl, Or.inl rfl, trivial⟩ (l_chirp hn hp (by omega) ⟨rfl, rfl⟩ (tOf n) 0 (by omega))
    · refine r_iconst dX10_costOf_13 (r_istore_n dX10_costOf_14 (i := 3) rfl rfl (Nat.le_of_ble_eq_true rfl) (r_iload_n dX10_costOf_15 (i := 1) rfl rfl (r_istore dX10_costOf_16 rfl (Nat.le_of_ble_eq_true rfl) (r_iconst dX10_costOf_18 ?_))))
      refine r_istore dX10_costOf_19 rfl (Nat.le_of_ble_eq_true rfl) ?_
      have e : mt = 1 := by omega
      subst e
      exact r_loc [(0, some (vi p)), (1, some (vi (n : Int))), (2, some (vi 1)), (3, some (vi ((0 : Nat) : Int))), (4, some (vi (n : Int))), (5, some (vi ((2 : Nat) : Int)))] ⟨Or.inl rfl, Or.inl rfl, Or.inl rfl, Or.inl rfl, Or.inl rfl, Or.inl rfl, trivial⟩ (l_spl hn ⟨rfl, rfl⟩ 130 2 n 0 ⟨by omega, by omega, hn.1, by omega, fun d _ _ => by omega⟩ (by omega) (by rw [Nat.zero_add]; rfl)).1
  · refine r_iload_n dX10_costOf_4 (i := 1) rfl rfl (r_iload_n dX10_costOf_5 (i := 1) rfl rfl (r_imul dX10_costOf_6 ?_))
    refine r_iret dX10_costOf_7 rfl rfl ?_
    have e : mt = 0 := by omega
    subst e
    exact ⟨rfl, rfl⟩
theorem c_X10_bestMethod {p : Int} {n : Nat} (hn : 1 ≤ n ∧ n ≤ 64) (hp : 3 ≤ p ∧ p ≤ 100003) : PC g yX10_bestMethod cX10_bestMethod (iX10_bestMethod mc ms) [vi p, vi (n : Int)] S (Rt (some (vi (bmI p n))) S) := by
  refine PC_of pnX10 rfl rfl rfl (Nat.le_of_ble_eq_true rfl) ?_
  have h0 := csI_bd p hn 0
  have h1 := csI_bd p hn 1
  have h2 := csI_bd p hn 2
  have e2 : csI p n (1 + 1) = csI p n 2 := rfl
  refine r_iconst dX10_bestMethod_0 (r_istore_n dX10_bestMethod_1 (i := 2) rfl rfl (Nat.le_of_ble_eq_true rfl) (r_iconst dX10_bestMethod_2 (r_istore_n dX10_bestMethod_3 (i := 3) rfl rfl (Nat.le_of_ble_eq_true rfl) (r_iload_n dX10_bestMethod_4 (i := 3) rfl rfl ?_))))
  refine r_iconst dX10_bestMethod_5 ?_
  refine r_icmp_ge 42 dX10_bestMethod_6 (by decide) (by omega) (by omega) (fun c1 => ?_) (fun c1 => ?_)
  · omega
  · refine r_iload_n dX10_bestMethod_9 (i := 0) rfl rfl (r_iload_n dX10_bestMethod_10 (i := 1) rfl rfl (r_iload_n dX10_bestMethod_11 (i := 3) rfl rfl (c_sr dX10_bestMethod_12 (c_X10_costOf hn hp (by omega)) rfl rfl mq_X10_costOf ml_X10_224 ⟨Nat.le_of_ble_eq_true rfl, Nat.le_of_ble_eq_true rfl⟩ rfl rfl (Nat.le_of_ble_eq_true rfl) (r_istore dX10_bestMethod_15 rfl (Nat.le_of_ble_eq_true rfl) ?_))))
    refine r_iload dX10_bestMethod_17 rfl (r_iconst dX10_bestMethod_19 ?_)
    try rw [e2]
    refine r_icmp_eq 36 dX10_bestMethod_20 (by decide) (by omega) (by omega) (fun c2 => ?_) (fun c2 => ?_)
    · refine r_iinc dX10_bestMethod_36 rfl rfl (r_goto 4 dX10_bestMethod_39 (by decide) (r_iload_n dX10_bestMethod_4 (i := 3) rfl rfl (r_iconst dX10_bestMethod_5 ?_)))
      refine r_icmp_ge 42 dX10_bestMethod_6 (by decide) (by omega) (by omega) (fun c3 => ?_) (fun c3 => ?_)
      · omega
      · refine r_iload_n dX10_bestMethod_9 (i := 0) rfl rfl (r_iload_n dX10_bestMethod_10 (i := 1) rfl rfl (r_iload_n dX10_bestMethod_11 (i := 3) rfl rfl (c_sr dX10_bestMethod_12 (c_X10_costOf hn hp (by omega)) rfl rfl mq_X10_costOf ml_X10_224 ⟨Nat.le_of_ble_eq_true rfl, Nat.le_of_ble_eq_true rfl⟩ rfl rfl (Nat.le_of_ble_eq_true rfl) (r_istore dX10_bestMethod_15 rfl (Nat.le_of_ble_eq_true rfl) ?_))))
        refine r_iload dX10_bestMethod_17 rfl (r_iconst dX10_bestMethod_19 ?_)
        try rw [e2]
        refine r_icmp_eq 36 dX10_bestMethod_20 (by decide) (by omega) (by omega) (fun c4 => ?_) (fun c4 => ?_)
        · refine r_iinc dX10_bestMethod_36 rfl rfl (r_goto 4 dX10_bestMethod_39 (by decide) (r_iload_n dX10_bestMethod_4 (i := 3) rfl rfl (r_iconst dX10_bestMethod_5 ?_)))
          refine r_icmp_ge 42 dX10_bestMethod_6 (by decide) (by omega) (by omega) (fun c5 => ?_) (fun c5 => ?_)
          · refine r_iload_n dX10_bestMethod_42 (i := 2) rfl rfl ?_
            refine r_iret dX10_bestMethod_43 rfl rfl ?_
            exact ⟨by unfold bmI bm1; first | (rw [if_pos (show csI p n 1 ≠ -1 ∧ csI p n 1 < csI p n 0 by omega)]; (first | rw [if_pos (by omega)] | rw [if_neg (by omega)]) <;> rfl) | (rw [if_neg (show ¬ (csI p n 1 ≠ -1 ∧ csI p n 1 < csI p n 0) by omega)]; (first | rw [if_pos (by omega)] | rw [if_neg (by omega)]) <;> rfl), rfl⟩
          · omega
        · refine r_iload dX10_bestMethod_23 rfl (r_iload_n dX10_bestMethod_25 (i := 0) rfl rfl (r_iload_n dX10_bestMethod_26 (i := 1) rfl rfl (r_iload_n dX10_bestMethod_27 (i := 2) rfl rfl (c_sr dX10_bestMethod_28 (c_X10_costOf hn hp (by omega)) rfl rfl mq_X10_costOf ml_X10_224 ⟨Nat.le_of_ble_eq_true rfl, Nat.le_of_ble_eq_true rfl⟩ rfl rfl (Nat.le_of_ble_eq_true rfl) ?_))))
          refine r_icmp_ge 36 dX10_bestMethod_31 (by decide) (by omega) (by omega) (fun c6 => ?_) (fun c6 => ?_)
          · refine r_iinc dX10_bestMethod_36 rfl rfl (r_goto 4 dX10_bestMethod_39 (by decide) (r_iload_n dX10_bestMethod_4 (i := 3) rfl rfl (r_iconst dX10_bestMethod_5 ?_)))
            refine r_icmp_ge 42 dX10_bestMethod_6 (by decide) (by omega) (by omega) (fun c7 => ?_) (fun c7 => ?_)
            · refine r_iload_n dX10_bestMethod_42 (i := 2) rfl rfl ?_
              refine r_iret dX10_bestMethod_43 rfl rfl ?_
              exact ⟨by unfold bmI bm1; first | (rw [if_pos (show csI p n 1 ≠ -1 ∧ csI p n 1 < csI p n 0 by omega)]; (first | rw [if_pos (by omega)] | rw [if_neg (by omega)]) <;> rfl) | (rw [if_neg (show ¬ (csI p n 1 ≠ -1 ∧ csI p n 1 < csI p n 0) by omega)]; (first | rw [if_pos (by omega)] | rw [if_neg (by omega)]) <;> rfl), rfl⟩
            · omega
          · refine r_iload_n dX10_bestMethod_34 (i := 3) rfl rfl (r_istore_n dX10_bestMethod_35 (i := 2) rfl rfl (Nat.le_of_ble_eq_true rfl) (r_iinc dX10_bestMethod_36 rfl rfl (r_goto 4 dX10_bestMethod_39 (by decide) (r_iload_n dX10_bestMethod_4 (i := 3) rfl rfl ?_))))
            refine r_iconst dX10_bestMethod_5 ?_
            refine r_icmp_ge 42 dX10_bestMethod_6 (by decide) (by omega) (by omega) (fun c8 => ?_) (fun c8 => ?_)
            · refine r_iload_n dX10_bestMethod_42 (i := 2) rfl rfl ?_
              refine r_iret dX10_bestMethod_43 rfl rfl ?_
              exact ⟨by unfold bmI bm1; first | (rw [if_pos (show csI p n 1 ≠ -1 ∧ csI p n 1 < csI p n 0 by omega)]; (first | rw [if_pos (by omega)] | rw [if_neg (by omega)]) <;> rfl) | (rw [if_neg (show ¬ (csI p n 1 ≠ -1 ∧ csI p n 1 < csI p n 0) by omega)]; (first | rw [if_pos (by omega)] | rw [if_neg (by omega)]) <;> rfl), rfl⟩
            · omega
    · refine r_iload dX10_bestMethod_23 rfl (r_iload_n dX10_bestMethod_25 (i := 0) rfl rfl (r_iload_n dX10_bestMethod_26 (i := 1) rfl rfl (r_iload_n dX10_bestMethod_27 (i := 2) rfl rfl (c_sr dX10_bestMethod_28 (c_X10_costOf hn hp (by omega)) rfl rfl mq_X10_costOf ml_X10_224 ⟨Nat.le_of_ble_eq_true rfl, Nat.le_of_ble_eq_true rfl⟩ rfl rfl (Nat.le_of_ble_eq_true rfl) ?_))))
      refine r_icmp_ge 36 dX10_bestMethod_31 (by decide) (by omega) (by omega) (fun c9 => ?_) (fun c9 => ?_)
      · refine r_iinc dX10_bestMethod_36 rfl rfl (r_goto 4 dX10_bestMethod_39 (by decide) (r_iload_n dX10_bestMethod_4 (i := 3) rfl rfl (r_iconst dX10_bestMethod_5 ?_)))
        refine r_icmp_ge 42 dX10_bestMethod_6 (by decide) (by omega) (by omega) (fun c10 => ?_) (fun c10 => ?_)
        · omega
        · refine r_iload_n dX10_bestMethod_9 (i := 0) rfl rfl (r_iload_n dX10_bestMethod_10 (i := 1) rfl rfl (r_iload_n dX10_bestMethod_11 (i := 3) rfl rfl (c_sr dX10_bestMethod_12 (c_X10_costOf hn hp (by omega)) rfl rfl mq_X10_costOf ml_X10_224 ⟨Nat.le_of_ble_eq_true rfl, Nat.le_of_ble_eq_true rfl⟩ rfl rfl (Nat.le_of_ble_eq_true rfl) (r_istore dX10_bestMethod_15 rfl (Nat.le_of_ble_eq_true rfl) ?_))))
          refine r_iload dX10_bestMethod_17 rfl (r_iconst dX10_bestMethod_19 ?_)
          try rw [e2]
          refine r_icmp_eq 36 dX10_bestMethod_20 (by decide) (by omega) (by omega) (fun c11 => ?_) (fun c11 => ?_)
          · refine r_iinc dX10_bestMethod_36 rfl rfl (r_goto 4 dX10_bestMethod_39 (by decide) (r_iload_n dX10_bestMethod_4 (i := 3) rfl rfl (r_iconst dX10_bestMethod_5 ?_)))
            refine r_icmp_ge 42 dX10_bestMethod_6 (by decide) (by omega) (by omega) (fun c12 => ?_) (fun c12 => ?_)
            · refine r_iload_n dX10_bestMethod_42 (i := 2) rfl rfl ?_
              refine r_iret dX10_bestMethod_43 rfl rfl ?_
              exact ⟨by unfold bmI bm1; first | (rw [if_pos (show csI p n 1 ≠ -1 ∧ csI p n 1 < csI p n 0 by omega)]; (first | rw [if_pos (by omega)] | rw [if_neg (by omega)]) <;> rfl) | (rw [if_neg (show ¬ (csI p n 1 ≠ -1 ∧ csI p n 1 < csI p n 0) by omega)]; (first | rw [if_pos (by omega)] | rw [if_neg (by omega)]) <;> rfl), rfl⟩
            · omega
          · refine r_iload dX10_bestMethod_23 rfl (r_iload_n dX10_bestMethod_25 (i := 0) rfl rfl (r_iload_n dX10_bestMethod_26 (i := 1) rfl rfl (r_iload_n dX10_bestMethod_27 (i := 2) rfl rfl (c_sr dX10_bestMethod_28 (c_X10_costOf hn hp (by omega)) rfl rfl mq_X10_costOf ml_X10_224 ⟨Nat.le_of_ble_eq_true rfl, Nat.le_of_ble_eq_true rfl⟩ rfl rfl (Nat.le_of_ble_eq_true rfl) ?_))))
            refine r_icmp_ge 36 dX10_bestMethod_31 (by decide) (by omega) (by omega) (fun c13 => ?_) (fun c13 => ?_)
            · refine r_iinc dX10_bestMethod_36 rfl rfl (r_goto 4 dX10_bestMethod_39 (by decide) (r_iload_n dX10_bestMethod_4 (i := 3) rfl rfl (r_iconst dX10_bestMethod_5 ?_)))
              refine r_icmp_ge 42 dX10_bestMethod_6 (by decide) (by omega) (by omega) (fun c14 => ?_) (fun c14 => ?_)
              · refine r_iload_n dX10_bestMethod_42 (i := 2) rfl rfl ?_
                refine r_iret dX10_bestMethod_43 rfl rfl ?_
                exact ⟨by unfold bmI bm1; first | (rw [if_pos (show csI p n 1 ≠ -1 ∧ csI p n 1 < csI p n 0 by omega)]; (first | rw [if_pos (by omega)] | rw [if_neg (by omega)]) <;> rfl) | (rw [if_neg (show ¬ (csI p n 1 ≠ -1 ∧ csI p n 1 < csI p n 0) by omega)]; (first | rw [if_pos (by omega)] | rw [if_neg (by omega)]) <;> rfl), rfl⟩
              · omega
            · refine r_iload_n dX10_bestMethod_34 (i := 3) rfl rfl (r_istore_n dX10_bestMethod_35 (i := 2) rfl rfl (Nat.le_of_ble_eq_true rfl) (r_iinc dX10_bestMethod_36 rfl rfl (r_goto 4 dX10_bestMethod_39 (by decide) (r_iload_n dX10_bestMethod_4 (i := 3) rfl rfl ?_))))
              refine r_iconst dX10_bestMethod_5 ?_
              refine r_icmp_ge 42 dX10_bestMethod_6 (by decide) (by omega) (by omega) (fun c15 => ?_) (fun c15 => ?_)
              · refine r_iload_n dX10_bestMethod_42 (i := 2) rfl rfl ?_
                refine r_iret dX10_bestMethod_43 rfl rfl ?_
                exact ⟨by unfold bmI bm1; first | (rw [if_pos (show csI p n 1 ≠ -1 ∧ csI p n 1 < csI p n 0 by omega)]; (first | rw [if_pos (by omega)] | rw [if_neg (by omega)]) <;> rfl) | (rw [if_neg (show ¬ (csI p n 1 ≠ -1 ∧ csI p n 1 < csI p n 0) by omega)]; (first | rw [if_pos (by omega)] | rw [if_neg (by omega)]) <;> rfl), rfl⟩
              · omega
      · refine r_iload_n dX10_bestMethod_34 (i := 3) rfl rfl (r_istore_n dX10_bestMethod_35 (i := 2) rfl rfl (Nat.le_of_ble_eq_true rfl) (r_iinc dX10_bestMethod_36 rfl rfl (r_goto 4 dX10_bestMethod_39 (by decide) (r_iload_n dX10_bestMethod_4 (i := 3) rfl rfl ?_))))
        refine r_iconst dX10_bestMethod_5 ?_
        refine r_icmp_ge 42 dX10_bestMethod_6 (by decide) (by omega) (by omega) (fun c16 => ?_) (fun c16 => ?_)
        · omega
        · refine r_iload_n dX10_bestMethod_9 (i := 0) rfl rfl (r_iload_n dX10_bestMethod_10 (i := 1) rfl rfl (r_iload_n dX10_bestMethod_11 (i := 3) rfl rfl (c_sr dX10_bestMethod_12 (c_X10_costOf hn hp (by omega)) rfl rfl mq_X10_costOf ml_X10_224 ⟨Nat.le_of_ble_eq_true rfl, Nat.le_of_ble_eq_true rfl⟩ rfl rfl (Nat.le_of_ble_eq_true rfl) (r_istore dX10_bestMethod_15 rfl (Nat.le_of_ble_eq_true rfl) ?_))))
          refine r_iload dX10_bestMethod_17 rfl (r_iconst dX10_bestMethod_19 ?_)
          try rw [e2]
          refine r_icmp_eq 36 dX10_bestMethod_20 (by decide) (by omega) (by omega) (fun c17 => ?_) (fun c17 => ?_)
          · refine r_iinc dX10_bestMethod_36 rfl rfl (r_goto 4 dX10_bestMethod_39 (by decide) (r_iload_n dX10_bestMethod_4 (i := 3) rfl rfl (r_iconst dX10_bestMethod_5 ?_)))
            refine r_icmp_ge 42 dX10_bestMethod_6 (by decide) (by omega) (by omega) (fun c18 => ?_) (fun c18 => ?_)
            · refine r_iload_n dX10_bestMethod_42 (i := 2) rfl rfl ?_
              refine r_iret dX10_bestMethod_43 rfl rfl ?_
              exact ⟨by unfold bmI bm1; first | (rw [if_pos (show csI p n 1 ≠ -1 ∧ csI p n 1 < csI p n 0 by omega)]; (first | rw [if_pos (by omega)] | rw [if_neg (by omega)]) <;> rfl) | (rw [if_neg (show ¬ (csI p n 1 ≠ -1 ∧ csI p n 1 < csI p n 0) by omega)]; (first | rw [if_pos (by omega)] | rw [if_neg (by omega)]) <;> rfl), rfl⟩
            · omega
          · refine r_iload dX10_bestMethod_23 rfl (r_iload_n dX10_bestMethod_25 (i := 0) rfl rfl (r_iload_n dX10_bestMethod_26 (i := 1) rfl rfl (r_iload_n dX10_bestMethod_27 (i := 2) rfl rfl (c_sr dX10_bestMethod_28 (c_X10_costOf hn hp (by omega)) rfl rfl mq_X10_costOf ml_X10_224 ⟨Nat.le_of_ble_eq_true rfl, Nat.le_of_ble_eq_true rfl⟩ rfl rfl (Nat.le_of_ble_eq_true rfl) ?_))))
            refine r_icmp_ge 36 dX10_bestMethod_31 (by decide) (by omega) (by omega) (fun c19 => ?_) (fun c19 => ?_)
            · refine r_iinc dX10_bestMethod_36 rfl rfl (r_goto 4 dX10_bestMethod_39 (by decide) (r_iload_n dX10_bestMethod_4 (i := 3) rfl rfl (r_iconst dX10_bestMethod_5 ?_)))
              refine r_icmp_ge 42 dX10_bestMethod_6 (by decide) (by omega) (by omega) (fun c20 => ?_) (fun c20 => ?_)
              · refine r_iload_n dX10_bestMethod_42 (i := 2) rfl rfl ?_
                refine r_iret dX10_bestMethod_43 rfl rfl ?_
                exact ⟨by unfold bmI bm1; first | (rw [if_pos (show csI p n 1 ≠ -1 ∧ csI p n 1 < csI p n 0 by omega)]; (first | rw [if_pos (by omega)] | rw [if_neg (by omega)]) <;> rfl) | (rw [if_neg (show ¬ (csI p n 1 ≠ -1 ∧ csI p n 1 < csI p n 0) by omega)]; (first | rw [if_pos (by omega)] | rw [if_neg (by omega)]) <;> rfl), rfl⟩
              · omega
            · refine r_iload_n dX10_bestMethod_34 (i := 3) rfl rfl (r_istore_n dX10_bestMethod_35 (i := 2) rfl rfl (Nat.le_of_ble_eq_true rfl) (r_iinc dX10_bestMethod_36 rfl rfl (r_goto 4 dX10_bestMethod_39 (by decide) (r_iload_n dX10_bestMethod_4 (i := 3) rfl rfl ?_))))
              refine r_iconst dX10_bestMethod_5 ?_
              refine r_icmp_ge 42 dX10_bestMethod_6 (by decide) (by omega) (by omega) (fun c21 => ?_) (fun c21 => ?_)
              · refine r_iload_n dX10_bestMethod_42 (i := 2) rfl rfl ?_
                refine r_iret dX10_bestMethod_43 rfl rfl ?_
                exact ⟨by unfold bmI bm1; first | (rw [if_pos (show csI p n 1 ≠ -1 ∧ csI p n 1 < csI p n 0 by omega)]; (first | rw [if_pos (by omega)] | rw [if_neg (by omega)]) <;> rfl) | (rw [if_neg (show ¬ (csI p n 1 ≠ -1 ∧ csI p n 1 < csI p n 0) by omega)]; (first | rw [if_pos (by omega)] | rw [if_neg (by omega)]) <;> rfl), rfl⟩
              · omega
end MOBJ4

/-- a prime's object at q, its factors behind it -/
def FieldAt (S : PS) (q : Nat) (p : Nat) (ff : Int → Int) (fc gn : Nat) : Prop := S.1 q = some (cO 1 [vi (p : Int), .ref (q + 1), vi (fc : Int), vi (gn : Int)]) ∧ S.1 (q + 1) = some (cI 6 ff)
section FIELD
variable {g : GT} {S : PS} {mc ms : Nat} {q p fc gn : Nat} {ff : Int → Int} {v1 v2 v3 : Value}
/-- floorMod by a number above 0 -/
theorem c_floorMod {x y : Int} (hx : RJ x) (hy : RJ y) (h0 : 0 < y) : PC g yJ9_floorMod_f86c9 cJ9_floorMod_f86c9 (iJ9_floorMod_f86c9 mc ms) [vl x, vl y] S (Rt (some (vl (x % y))) S) := by
  refine PC_ofF (by decide +kernel) rfl rfl rfl (Nat.le_of_ble_eq_true rfl) ?_
  have b1 := Int.emod_nonneg x (show y ≠ 0 by omega)
  have b2 := Int.emod_lt_of_pos x h0
  have hr : Int.tmod x y = if 0 ≤ x ∨ x % y = 0 then x % y else x % y - y := by
    rw [Int.tmod_eq_emod]
    by_cases h : 0 ≤ x ∨ y ∣ x
    · rw [if_pos h, if_pos (h.imp id Int.emod_eq_zero_of_dvd)]
      omega
    · rw [if_neg h, if_neg (fun hh => h (hh.imp id Int.dvd_of_emod_eq_zero))]
      omega
  generalize hm : Int.tmod x y = m at hr
  have hx2 := q_xorJ hx hy (by omega)
  generalize hz : (Int64.ofInt x ^^^ Int64.ofInt y).toInt = z at hx2
  have hz2 : Int64.ofInt x ^^^ Int64.ofInt y = Int64.ofInt z := by rw [← hz, q_asJ]
  have hRz : RJ z := by rw [← hz]; exact ⟨Int64.le_toInt _, Int64.toInt_lt _⟩
  have hRm : RJ m := by
    rw [hr]
    split <;> omega
  refine r_lload_n dJ9_floorMod_f86c9_0 (i := 0) rfl rfl (r_lload_n dJ9_floorMod_f86c9_1 (i := 2) rfl rfl (r_lrem dJ9_floorMod_f86c9_2 (by omega) (by omega) (by omega) ?_))
  rw [hm]
  refine r_lstore dJ9_floorMod_f86c9_3 rfl (Nat.le_of_ble_eq_true rfl) (r_lload_n dJ9_floorMod_f86c9_5 (i := 0) rfl rfl (r_lload_n dJ9_floorMod_f86c9_6 (i := 2) rfl rfl ?_))
  refine r_lxor (z) dJ9_floorMod_f86c9_7 hz2 ?_
  refine r_lconst (z := 0) dJ9_floorMod_f86c9_8 (by decide) ?_
  refine r_lcmp_ge 25 dJ9_floorMod_f86c9_9 dJ9_floorMod_f86c9_10 (by decide) (by omega) (by omega) (fun h1 => ?_) (fun h1 => ?_)
  · refine r_lload dJ9_floorMod_f86c9_25 rfl (r_lret dJ9_floorMod_f86c9_27 rfl ?_)
    rw [if_pos (by omega)] at hr
    exact ⟨by rw [hr], rfl⟩
  · refine r_lload dJ9_floorMod_f86c9_13 rfl (r_lconst (z := 0) dJ9_floorMod_f86c9_15 (by decide) ?_)
    refine r_lcmp_eq 25 dJ9_floorMod_f86c9_16 dJ9_floorMod_f86c9_17 (by decide) (by omega) (by omega) (fun h2 => ?_) (fun h2 => ?_)
    · refine r_lload dJ9_floorMod_f86c9_25 rfl (r_lret dJ9_floorMod_f86c9_27 rfl ?_)
      have e : m = x % y := by
        rw [hr]
        split
        · rfl
        · rw [if_neg ‹_›] at hr
          omega
      exact ⟨by rw [e], rfl⟩
    · refine r_lload dJ9_floorMod_f86c9_20 rfl (r_lload_n dJ9_floorMod_f86c9_22 (i := 2) rfl rfl (r_ladd dJ9_floorMod_f86c9_23 (r_lret dJ9_floorMod_f86c9_24 rfl ?_)))
      have e : m + y = x % y := by
        rw [hr]
        split
        · rw [if_pos ‹_›] at hr
          omega
        · omega
      exact ⟨by rw [e], rfl⟩
/-- the object alone is read -/
theorem c_X1_residueOf {x : Int} (h : S.1 q = some (cO 1 [vi (p : Int), v1, v2, v3])) (hp : 3 ≤ p ∧ p ≤ 100003) (hx : RJ x) : PC g yX1_residueOf cX1_residueOf (iX1_residueOf mc ms) [.ref q, vl x] S (Rt (some (vi (x % p))) S) := by
  refine PC_of pnX1 rfl rfl rfl (Nat.le_of_ble_eq_true rfl) ?_
  refine r_lload_n dX1_residueOf_0 (i := 1) rfl rfl (r_aload_n dX1_residueOf_1 (i := 0) rfl rfl (r_get dX1_residueOf_2 fl_X1_21 h rfl (r_i2l dX1_residueOf_5 (by omega) (c_sr dX1_residueOf_6 (c_floorMod hx (by omega) (by omega)) rfl rfl mq_J9_floorMod_f86c9 ml_X1_41 ⟨Nat.le_of_ble_eq_true rfl, Nat.le_of_ble_eq_true rfl⟩ rfl rfl (Nat.le_of_ble_eq_true rfl) ?_))))
  refine r_l2i dX1_residueOf_9 (r_iret dX1_residueOf_10 rfl rfl ?_)
  exact ⟨rfl, rfl⟩
theorem c_X1_times {a b : Nat} (h : S.1 q = some (cO 1 [vi (p : Int), v1, v2, v3])) (hp : 3 ≤ p ∧ p ≤ 100003) (ha : a < p) (hb : b < p) : PC g yX1_times cX1_times (iX1_times mc ms) [.ref q, vi (a : Int), vi (b : Int)] S (Rt (some (vi ((a * b % p : Nat) : Int))) S) := by
  refine PC_of pnX1 rfl rfl rfl (Nat.le_of_ble_eq_true rfl) ?_
  have hm := mul_lt_sq ha hb hp.2
  have e : ((a : Int) * b) = ((a * b : Nat) : Int) := (Int.natCast_mul a b).symm
  refine r_iload_n dX1_times_0 (i := 1) rfl rfl (r_i2l dX1_times_1 (by omega) (r_iload_n dX1_times_2 (i := 2) rfl rfl (r_i2l dX1_times_3 (by omega) (r_lmul dX1_times_4 ?_))))
  rw [e]
  refine r_aload_n dX1_times_5 (i := 0) rfl rfl (r_get dX1_times_6 fl_X1_21 h rfl (r_i2l dX1_times_9 (by omega) (r_lremN dX1_times_10 (by omega) (by omega) (by omega) (by omega) (r_l2i dX1_times_11 ?_))))
  refine r_iret dX1_times_12 rfl rfl ?_
  exact ⟨by rw [← Int.natCast_emod], rfl⟩
theorem l_raise (h : S.1 q = some (cO 1 [vi (p : Int), v1, v2, v3])) (hp : 3 ≤ p ∧ p ≤ 100003) {b e R : Nat} {Q : PO → PS → Prop} {kc ks : Nat} (hq : Q (.inl (some (vi (R : Int)))) S) : ∀ (l r s : Nat), r < p → s < p → l < 2147483648 → r * s ^ l % p = R →
    PW g cX1_raise (iX1_raise mc ms) 9 [(0, some (.ref q)), (1, some (vi (b : Int))), (2, some (vi (e : Int))), (3, some (vl (r : Int))), (5, some (vl (s : Int))), (7, some (vi (l : Int)))] [] S kc ks Q := by
  intro l
  induction l using Nat.strongRecOn with
  | ind l ih =>
    intro r s hr hs hl hR
    refine r_iload dX1_raise_9 rfl ?_
    refine r_if_le 54 dX1_raise_11 (by decide) (by omega) (fun h1 => ?_) (fun h1 => ?_)
    · have h0 : l = 0 := by omega
      subst h0
      refine r_lload_n dX1_raise_54 (i := 3) rfl rfl (r_l2i dX1_raise_55 (r_iret dX1_raise_56 rfl rfl ?_))
      have : R = r := by rw [← hR, Nat.pow_zero, Nat.mul_one, Nat.mod_eq_of_lt hr]
      rw [this] at hq
      exact hq
    · refine r_iload dX1_raise_14 rfl (r_iconst dX1_raise_16 ?_)
      refine r_iand ((l : Int) % 2) dX1_raise_17 (q_and1 (by omega) (by omega)) ?_
      have m1 := mul_lt_sq hs hs hp.2
      have m2 := mul_lt_sq hr hs hp.2
      have e1 : ((s : Int) * s) = ((s * s : Nat) : Int) := (Int.natCast_mul s s).symm
      have e2 : ((r : Int) * s) = ((r * s : Nat) : Int) := (Int.natCast_mul r s).symm
      have e3 : ((s * s : Nat) : Int) % (p : Int) = ((s * s % p : Nat) : Int) := (Int.natCast_emod _ _).symm
      have e4 : ((r * s : Nat) : Int) % (p : Int) = ((r * s % p : Nat) : Int) := (Int.natCast_emod _ _).symm
      have s1 : s * s % p < p := Nat.mod_lt _ (by omega)
      have s2 : r * s % p < p := Nat.mod_lt _ (by omega)
      have e5 : (l : Int) / 2 = ((l / 2 : Nat) : Int) := rfl
      refine r_if_eq 32 dX1_raise_18 (by decide) (by omega) (fun h2 => ?_) (fun h2 => ?_)
      · refine r_lload dX1_raise_32 rfl (r_lload dX1_raise_34 rfl (r_lmul dX1_raise_36 ?_))
        rw [e1]
        refine r_aload_n dX1_raise_37 (i := 0) rfl rfl (r_get dX1_raise_38 fl_X1_21 h rfl (r_i2l dX1_raise_41 (by omega) (r_lremN dX1_raise_42 (by omega) (by omega) (by omega) (by omega) (r_lstore dX1_raise_43 rfl (Nat.le_of_ble_eq_true rfl) ?_))))
        refine r_iload dX1_raise_45 rfl (r_iconst dX1_raise_47 ?_)
        refine r_ishr ((l : Int) / 2) dX1_raise_48 (q_shr1 (by omega) (by omega)) ?_
        refine r_istore dX1_raise_49 rfl (Nat.le_of_ble_eq_true rfl) (r_goto 9 dX1_raise_51 (by decide) ?_)
        refine r_loc [(0, some (.ref q)), (1, some (vi (b : Int))), (2, some (vi (e : Int))), (3, some (vl (r : Int))), (5, some (vl ((s * s % p : Nat) : Int))), (7, some (vi ((l / 2 : Nat) : Int)))] ⟨Or.inl rfl, Or.inl rfl, Or.inl rfl, Or.inl rfl, Or.inl rfl, Or.inl rfl, trivial⟩ ?_
        exact ih (l / 2) (by omega) r _ hr s1 (by omega) (by rw [pw_even (by omega), hR])
      · refine r_lload_n dX1_raise_21 (i := 3) rfl rfl (r_lload dX1_raise_22 rfl (r_lmul dX1_raise_24 ?_))
        rw [e2]
        refine r_aload_n dX1_raise_25 (i := 0) rfl rfl (r_get dX1_raise_26 fl_X1_21 h rfl (r_i2l dX1_raise_29 (by omega) (r_lremN dX1_raise_30 (by omega) (by omega) (by omega) (by omega) (r_lstore_n dX1_raise_31 (i := 3) rfl rfl (Nat.le_of_ble_eq_true rfl) ?_))))
        refine r_lload dX1_raise_32 rfl (r_lload dX1_raise_34 rfl (r_lmul dX1_raise_36 ?_))
        rw [e1]
        refine r_aload_n dX1_raise_37 (i := 0) rfl rfl (r_get dX1_raise_38 fl_X1_21 h rfl (r_i2l dX1_raise_41 (by omega) (r_lremN dX1_raise_42 (by omega) (by omega) (by omega) (by omega) (r_lstore dX1_raise_43 rfl (Nat.le_of_ble_eq_true rfl) ?_))))
        refine r_iload dX1_raise_45 rfl (r_iconst dX1_raise_47 ?_)
        refine r_ishr ((l : Int) / 2) dX1_raise_48 (q_shr1 (by omega) (by omega)) ?_
        refine r_istore dX1_raise_49 rfl (Nat.le_of_ble_eq_true rfl) (r_goto 9 dX1_raise_51 (by decide) ?_)
        refine r_loc [(0, some (.ref q)), (1, some (vi (b : Int))), (2, some (vi (e : Int))), (3, some (vl ((r * s % p : Nat) : Int))), (5, some (vl ((s * s % p : Nat) : Int))), (7, some (vi ((l / 2 : Nat) : Int)))] ⟨Or.inl rfl, Or.inl rfl, Or.inl rfl, Or.inl rfl, Or.inl rfl, Or.inl rfl, trivial⟩ ?_
        exact ih (l / 2) (by omega) _ _ s2 s1 (by omega) (by rw [pw_odd (by omega), hR])
/-- powers modulo p -/
theorem c_X1_raise {b e : Nat} (h : S.1 q = some (cO 1 [vi (p : Int), v1, v2, v3])) (hp : 3 ≤ p ∧ p ≤ 100003) (hb : b < p) (he : e < 2147483648) : PC g yX1_raise cX1_raise (iX1_raise mc ms) [.ref q, vi (b : Int), vi (e : Int)] S (Rt (some (vi ((b ^ e % p : Nat) : Int))) S) := by
  refine PC_of pnX1 rfl rfl rfl (Nat.le_of_ble_eq_true rfl) ?_
  refine r_lconst (z := 1) dX1_raise_0 (by decide) (r_lstore_n dX1_raise_1 (i := 3) rfl rfl (Nat.le_of_ble_eq_true rfl) (r_iload_n dX1_raise_2 (i := 1) rfl rfl (r_i2l dX1_raise_3 (by omega) (r_lstore dX1_raise_4 rfl (Nat.le_of_ble_eq_true rfl) ?_))))
  refine r_iload_n dX1_raise_6 (i := 2) rfl rfl (r_istore dX1_raise_7 rfl (Nat.le_of_ble_eq_true rfl) ?_)
  refine r_loc [(0, some (.ref q)), (1, some (vi (b : Int))), (2, some (vi (e : Int))), (3, some (vl ((1 : Nat) : Int))), (5, some (vl (b : Int))), (7, some (vi (e : Int)))] ⟨Or.inl rfl, Or.inl rfl, Or.inl rfl, Or.inl rfl, Or.inl rfl, Or.inl rfl, trivial⟩ ?_
  exact l_raise h hp ⟨rfl, rfl⟩ e 1 b (by omega) hb he (by rw [Nat.one_mul])
theorem c_X1_invert {b : Nat} (h : S.1 q = some (cO 1 [vi (p : Int), v1, v2, v3])) (hp : 3 ≤ p ∧ p ≤ 100003) (hb : b < p) : PC g yX1_invert cX1_invert (iX1_invert mc ms) [.ref q, vi (b : Int)] S (Rt (some (vi ((b ^ (p - 2) % p : Nat) : Int))) S) := by
  refine PC_of pnX1 rfl rfl rfl (Nat.le_of_ble_eq_true rfl) ?_
  refine r_aload_n dX1_invert_0 (i := 0) rfl rfl (r_iload_n dX1_invert_1 (i := 1) rfl rfl (r_aload_n dX1_invert_2 (i := 0) rfl rfl (r_get dX1_invert_3 fl_X1_21 h rfl (r_iconst dX1_invert_6 ?_))))
  refine r_isub dX1_invert_7 ?_
  rw [show ((p : Int) - 2) = ((p - 2 : Nat) : Int) by omega]
  refine c_vr dX1_invert_8 (c_X1_raise h hp hb (by omega)) rfl rfl mq_X1_raise ml_X1_38 ⟨Nat.le_of_ble_eq_true rfl, Nat.le_of_ble_eq_true rfl⟩ h rfl rfl rfl (Nat.le_of_ble_eq_true rfl) (r_iret dX1_invert_11 rfl rfl ?_)
  exact ⟨rfl, rfl⟩
theorem c_X1_hasRoot {n : Int} (h : S.1 q = some (cO 1 [vi (p : Int), v1, v2, v3])) (hp : 3 ≤ p ∧ p ≤ 100003) (hn : RI n) : PC g yX1_hasRoot cX1_hasRoot (iX1_hasRoot mc ms) [.ref q, vi n] S (Rt (some (vi (b2i (0 < n ∧ ((p : Int) - 1) % n = 0)))) S) := by
  refine PC_of pnX1 rfl rfl rfl (Nat.le_of_ble_eq_true rfl) ?_
  refine r_iload_n dX1_hasRoot_0 (i := 1) rfl rfl ?_
  refine r_if_le 19 dX1_hasRoot_1 (by decide) (by omega) (fun h1 => ?_) (fun h1 => ?_)
  · refine r_iconst dX1_hasRoot_19 (r_iret dX1_hasRoot_20 rfl (q_narZ (by first | exact Or.inl rfl | exact Or.inr rfl)) ?_)
    exact ⟨by rw [b2i_f (by omega)], rfl⟩
  · have b1 := Int.emod_nonneg ((p : Int) - 1) (show n ≠ 0 by omega)
    have b2 := Int.emod_lt_of_pos ((p : Int) - 1) h1
    refine r_aload_n dX1_hasRoot_4 (i := 0) rfl rfl (r_get dX1_hasRoot_5 fl_X1_21 h rfl (r_iconst dX1_hasRoot_8 (r_isub dX1_hasRoot_9 (r_iload_n dX1_hasRoot_10 (i := 1) rfl rfl ?_))))
    refine r_iremN dX1_hasRoot_11 (by omega) (by omega) (by omega) (by omega) ?_
    refine r_if_ne 19 dX1_hasRoot_12 (by decide) (by omega) (fun h2 => ?_) (fun h2 => ?_)
    · refine r_iconst dX1_hasRoot_19 (r_iret dX1_hasRoot_20 rfl (q_narZ (by first | exact Or.inl rfl | exact Or.inr rfl)) ?_)
      exact ⟨by rw [b2i_f (fun hh => h2 hh.2)], rfl⟩
    · refine r_iconst dX1_hasRoot_15 (r_goto 20 dX1_hasRoot_16 (by decide) (r_iret dX1_hasRoot_20 rfl (q_narZ (by first | exact Or.inl rfl | exact Or.inr rfl)) ?_))
      exact ⟨by rw [b2i_t ⟨h1, h2⟩], rfl⟩
theorem c_X1_rootOfOrder {n : Nat} (h : S.1 q = some (cO 1 [vi (p : Int), v1, v2, vi (gn : Int)])) (hp : 3 ≤ p ∧ p ≤ 100003) (hn : 0 < n ∧ n < 2147483648) (hg : gn < p) : PC g yX1_rootOfOrder cX1_rootOfOrder (iX1_rootOfOrder mc ms) [.ref q, vi (n : Int)] S (Rt (some (vi ((gn ^ ((p - 1) / n) % p : Nat) : Int))) S) := by
  refine PC_of pnX1 rfl rfl rfl (Nat.le_of_ble_eq_true rfl) ?_
  refine r_iload_n dX1_rootOfOrder_0 (i := 1) rfl rfl ?_
  refine r_if_le 23 dX1_rootOfOrder_1 (by decide) (by omega) (fun h1 => ?_) (fun h1 => ?_)
  · omega
  · have hd : (p - 1) / n ≤ p - 1 := Nat.div_le_self _ _
    refine r_aload_n dX1_rootOfOrder_4 (i := 0) rfl rfl (r_aload_n dX1_rootOfOrder_5 (i := 0) rfl rfl (r_get dX1_rootOfOrder_6 fl_X1_35 h rfl (r_aload_n dX1_rootOfOrder_9 (i := 0) rfl rfl (r_get dX1_rootOfOrder_10 fl_X1_21 h rfl ?_))))
    refine r_iconst dX1_rootOfOrder_13 (r_isub dX1_rootOfOrder_14 (r_iload_n dX1_rootOfOrder_15 (i := 1) rfl rfl (r_idivN dX1_rootOfOrder_16 (by omega) (by omega) (by omega) (by omega) ?_)))
    rw [show ((p : Int) - 1) = ((p - 1 : Nat) : Int) by omega, ← Int.natCast_ediv]
    refine c_vr dX1_rootOfOrder_17 (c_X1_raise h hp hg (by omega)) rfl rfl mq_X1_raise ml_X1_38 ⟨Nat.le_of_ble_eq_true rfl, Nat.le_of_ble_eq_true rfl⟩ h rfl rfl rfl (Nat.le_of_ble_eq_true rfl) (r_goto 24 dX1_rootOfOrder_20 (by decide) (r_iret dX1_rootOfOrder_24 rfl rfl ?_))
    exact ⟨rfl, rfl⟩
end FIELD

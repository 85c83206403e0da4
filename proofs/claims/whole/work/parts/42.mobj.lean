/-! the model's own helpers: what they read of its row of numbers -/
noncomputable def b2c (p : Prop) : Int := @b2i p (Classical.propDecidable p)
theorem b2c_t {p : Prop} (h : p) : b2c p = 1 := @b2i_t _ (Classical.propDecidable _) h
theorem b2c_f {p : Prop} (h : ¬ p) : b2c p = 0 := @b2i_f _ (Classical.propDecidable _) h
theorem b2c_iff {p q : Prop} (h : p ↔ q) : b2c p = b2c q := by
  rw [show p = q from propext h]
theorem b2i_c {p : Prop} [Decidable p] : b2i p = b2c p := by
  by_cases h : p
  · rw [b2i_t h, b2c_t h]
  · rw [b2i_f h, b2c_f h]
theorem q_shr {a k : Int} (ha : RI a) (hk : 0 ≤ k ∧ k ≤ 6) : Int32.ofInt a >>> (Int32.ofInt k &&& 31) = Int32.ofInt (a / 2 ^ k.toNat) := by
  have hk2 : k = 0 ∨ k = 1 ∨ k = 2 ∨ k = 3 ∨ k = 4 ∨ k = 5 ∨ k = 6 := by omega
  have e1 : (Int32.ofInt a).toInt = a := q_tI ha.1 ha.2
  have main : ∀ n : Nat, n ≤ 6 → ((Int32.ofInt (n : Int) &&& 31).toBitVec.smod 32).toNat = n → k = (n : Int) → Int32.ofInt a >>> (Int32.ofInt k &&& 31) = Int32.ofInt (a / 2 ^ k.toNat) := by
    intro n hn h e
    subst e
    refine Int32.toInt_inj.mp ?_
    rw [pk_shr _ _ n h, e1, Int.shiftRight_eq_div_pow, Int.toNat_natCast]
    have hp := Nat.pow_pos (n := n) (show 0 < 2 by omega)
    have h2 : ((2 ^ n : Nat) : Int) = (2 : Int) ^ n := Int.natCast_pow 2 n
    rw [← h2]
    have b1 := Int.le_ediv_of_mul_le (a := -2147483648) (b := a) (c := ((2 ^ n : Nat) : Int)) (by omega) (by
      have := ha.1
      omega)
    have b2 : a / ((2 ^ n : Nat) : Int) ≤ 2147483647 := by
      have := Int.ediv_le_ediv (show (0 : Int) < ((2 ^ n : Nat) : Int) by omega) (show a ≤ 2147483647 by have := ha.2; omega)
      have h3 : (2147483647 : Int) / ((2 ^ n : Nat) : Int) ≤ 2147483647 := Int.ediv_le_self _ (by omega)
      omega
    exact (q_tI (by omega) (by omega)).symm
  rcases hk2 with e | e | e | e | e | e | e
  · exact main 0 (by omega) (by decide) e
  · exact main 1 (by omega) (by decide) e
  · exact main 2 (by omega) (by decide) e
  · exact main 3 (by omega) (by decide) e
  · exact main 4 (by omega) (by decide) e
  · exact main 5 (by omega) (by decide) e
  · exact main 6 (by omega) (by decide) e
theorem q_shl1 {k : Int} (hk : 0 ≤ k ∧ k ≤ 6) : Int32.ofInt 1 <<< (Int32.ofInt k &&& 31) = Int32.ofInt (2 ^ k.toNat) := by
  have hk2 : k = 0 ∨ k = 1 ∨ k = 2 ∨ k = 3 ∨ k = 4 ∨ k = 5 ∨ k = 6 := by omega
  rcases hk2 with e | e | e | e | e | e | e <;> subst e <;> decide
theorem q_lshl1 {k : Int} (hk : 0 ≤ k ∧ k ≤ 6) : Int64.ofInt 1 <<< ((Int32.ofInt k).toInt64 &&& 63) = Int64.ofInt (2 ^ k.toNat) := by
  have hk2 : k = 0 ∨ k = 1 ∨ k = 2 ∨ k = 3 ∨ k = 4 ∨ k = 5 ∨ k = 6 := by omega
  rcases hk2 with e | e | e | e | e | e | e <;> subst e <;> decide
theorem p2_bd {k : Int} (hk : 0 ≤ k ∧ k ≤ 6) : 1 ≤ (2 : Int) ^ k.toNat ∧ (2 : Int) ^ k.toNat ≤ 64 := by
  have hk2 : k = 0 ∨ k = 1 ∨ k = 2 ∨ k = 3 ∨ k = 4 ∨ k = 5 ∨ k = 6 := by omega
  rcases hk2 with e | e | e | e | e | e | e <;> subst e <;> decide
/-- bit k of a set -/
def bt (set k : Int) : Prop := (set / 2 ^ k.toNat) % 2 = 1
theorem div_bd {a : Int} (h0 : 0 ≤ a) (h1 : a ≤ 64) (k : Int) : 0 ≤ a / 2 ^ k.toNat ∧ a / 2 ^ k.toNat ≤ 64 := by
  have hp : (0 : Int) < 2 ^ k.toNat := Int.pow_pos (by omega)
  have := Int.ediv_nonneg h0 (show (0 : Int) ≤ 2 ^ k.toNat by omega)
  have h2 : a / 2 ^ k.toNat ≤ a := Int.ediv_le_self _ h0
  omega
/-- what is known of the row of numbers -/
def MP (a : Int → Int) : Prop := (0 ≤ a 0 ∧ a 0 ≤ 6) ∧ ∀ k : Int, 0 ≤ k → k < a 0 → 3 ≤ a (1 + k) ∧ a (1 + k) ≤ 100003 ∧ Pr (a (1 + k)).toNat
def ML (a : Int → Int) : Prop := (∀ s : Int, 0 ≤ s → s < 4 → 0 ≤ a (7 + s) ∧ a (7 + s) ≤ 32) ∧ ∀ s k : Int, 0 ≤ s → s < 4 → 0 ≤ k → k < 32 → -9999 ≤ a (11 + 32 * s + k) ∧ a (11 + 32 * s + k) ≤ 9999
section MOBJ
variable {g : GT} {S : PS} {mc ms : Nat} {Q : PO → PS → Prop} {kc ks : Nat} {m : Nat} {a : Int → Int} {fs : List Value}
theorem c_X10_isThere {q : Int} (h : S.1 m = some (cO 10 (.ref (m + 1) :: fs))) (ha : S.1 (m + 1) = some (cJ 215 a)) (hn : 0 ≤ a 0 ∧ a 0 ≤ 6) (hq : RI q) : PC g yX10_isThere cX10_isThere (iX10_isThere mc ms) [.ref m, vi q] S (Rt (some (vi (b2i (0 ≤ q ∧ q ≤ a 0 - 1)))) S) := by
  refine PC_of pnX10 rfl rfl rfl (Nat.le_of_ble_eq_true rfl) ?_
  refine r_iload_n dX10_isThere_0 (i := 1) rfl rfl (r_i2l dX10_isThere_1 (by omega) (r_lconst (z := 0) dX10_isThere_2 (by decide) (r_aload_n dX10_isThere_3 (i := 0) rfl rfl (r_get dX10_isThere_4 fl_X10_7 h rfl ?_))))
  refine r_iconst dX10_isThere_7 (r_lald dX10_isThere_8 ha (by omega) (by omega) (by omega) (r_lconst (z := 1) dX10_isThere_9 (by decide) (r_lsub dX10_isThere_10 (c_sr dX10_isThere_11 (c_X10_isIn ⟨by omega, by omega⟩ ⟨by omega, by omega⟩ ⟨by omega, by omega⟩) rfl rfl mq_X10_isIn ml_X10_46 ⟨Nat.le_of_ble_eq_true rfl, Nat.le_of_ble_eq_true rfl⟩ rfl rfl (Nat.le_of_ble_eq_true rfl) ?_))))
  refine r_iret dX10_isThere_14 rfl b2i_narZ ?_
  first | omega | exact ⟨rfl, rfl⟩ | exact ⟨by rw [b2i_t (by omega)], rfl⟩ | exact ⟨by rw [b2i_f (by omega)], rfl⟩
theorem c_X10_primeAt {q : Int} (h : S.1 m = some (cO 10 (.ref (m + 1) :: fs))) (ha : S.1 (m + 1) = some (cJ 215 a)) (hq : 0 ≤ q ∧ q < 6) : PC g yX10_primeAt cX10_primeAt (iX10_primeAt mc ms) [.ref m, vi q] S (Rt (some (vi (a (1 + q)))) S) := by
  refine PC_of pnX10 rfl rfl rfl (Nat.le_of_ble_eq_true rfl) ?_
  refine r_aload_n dX10_primeAt_0 (i := 0) rfl rfl (r_get dX10_primeAt_1 fl_X10_7 h rfl (r_iconst dX10_primeAt_4 (r_iload_n dX10_primeAt_5 (i := 1) rfl rfl (r_iadd dX10_primeAt_6 ?_))))
  refine r_lald dX10_primeAt_7 ha (by omega) (by omega) (by omega) (r_l2i dX10_primeAt_8 ?_)
  refine r_iret dX10_primeAt_9 rfl rfl ?_
  first | omega | exact ⟨rfl, rfl⟩ | exact ⟨by rw [b2i_t (by omega)], rfl⟩ | exact ⟨by rw [b2i_f (by omega)], rfl⟩
theorem c_X10_isSlot {s : Int} (hs : RI s) : PC g yX10_isSlot cX10_isSlot (iX10_isSlot mc ms) [vi s] S (Rt (some (vi (b2i (0 ≤ s ∧ s ≤ 3)))) S) := by
  refine PC_of pnX10 rfl rfl rfl (Nat.le_of_ble_eq_true rfl) ?_
  refine r_iload_n dX10_isSlot_0 (i := 0) rfl rfl (r_i2l dX10_isSlot_1 (by omega) (r_lconst (z := 0) dX10_isSlot_2 (by decide) (r_ldc2 dX10_isSlot_3 csj_X10_137 (c_sr dX10_isSlot_6 (c_X10_isIn ⟨by omega, by omega⟩ ⟨by omega, by omega⟩ ⟨by omega, by omega⟩) rfl rfl mq_X10_isIn ml_X10_46 ⟨Nat.le_of_ble_eq_true rfl, Nat.le_of_ble_eq_true rfl⟩ rfl rfl (Nat.le_of_ble_eq_true rfl) ?_))))
  refine r_iret dX10_isSlot_9 rfl b2i_narZ ?_
  first | omega | exact ⟨rfl, rfl⟩ | exact ⟨by rw [b2i_t (by omega)], rfl⟩ | exact ⟨by rw [b2i_f (by omega)], rfl⟩
theorem c_X10_isTerm {v : Int} (hv : RJ v) : PC g yX10_isTerm cX10_isTerm (iX10_isTerm mc ms) [vl v] S (Rt (some (vi (b2i (-9999 ≤ v ∧ v ≤ 9999)))) S) := by
  refine PC_of pnX10 rfl rfl rfl (Nat.le_of_ble_eq_true rfl) ?_
  refine r_lload_n dX10_isTerm_0 (i := 0) rfl rfl (r_ldc2 dX10_isTerm_1 csj_X10_200 (r_ldc2 dX10_isTerm_4 csj_X10_202 (c_sr dX10_isTerm_7 (c_X10_isIn ⟨by omega, by omega⟩ ⟨by omega, by omega⟩ ⟨by omega, by omega⟩) rfl rfl mq_X10_isIn ml_X10_46 ⟨Nat.le_of_ble_eq_true rfl, Nat.le_of_ble_eq_true rfl⟩ rfl rfl (Nat.le_of_ble_eq_true rfl) ?_)))
  refine r_iret dX10_isTerm_10 rfl b2i_narZ ?_
  first | omega | exact ⟨rfl, rfl⟩ | exact ⟨by rw [b2i_t (by omega)], rfl⟩ | exact ⟨by rw [b2i_f (by omega)], rfl⟩
theorem c_X10_longOf {s : Int} (h : S.1 m = some (cO 10 (.ref (m + 1) :: fs))) (ha : S.1 (m + 1) = some (cJ 215 a)) (hs : 0 ≤ s ∧ s < 4) : PC g yX10_longOf cX10_longOf (iX10_longOf mc ms) [.ref m, vi s] S (Rt (some (vi (a (7 + s)))) S) := by
  refine PC_of pnX10 rfl rfl rfl (Nat.le_of_ble_eq_true rfl) ?_
  refine r_aload_n dX10_longOf_0 (i := 0) rfl rfl (r_get dX10_longOf_1 fl_X10_7 h rfl (r_bipush dX10_longOf_4 (by decide) (r_iload_n dX10_longOf_6 (i := 1) rfl rfl (r_iadd dX10_longOf_7 ?_))))
  refine r_lald dX10_longOf_8 ha (by omega) (by omega) (by omega) (r_l2i dX10_longOf_9 ?_)
  refine r_iret dX10_longOf_10 rfl rfl ?_
  first | omega | exact ⟨rfl, rfl⟩ | exact ⟨by rw [b2i_t (by omega)], rfl⟩ | exact ⟨by rw [b2i_f (by omega)], rfl⟩
theorem c_X10_termOf {s k : Int} (h : S.1 m = some (cO 10 (.ref (m + 1) :: fs))) (ha : S.1 (m + 1) = some (cJ 215 a)) (hs : 0 ≤ s ∧ s < 4) (hk : 0 ≤ k ∧ k < 32) : PC g yX10_termOf cX10_termOf (iX10_termOf mc ms) [.ref m, vi s, vi k] S (Rt (some (vl (a (11 + 32 * s + k)))) S) := by
  refine PC_of pnX10 rfl rfl rfl (Nat.le_of_ble_eq_true rfl) ?_
  refine r_aload_n dX10_termOf_0 (i := 0) rfl rfl (r_get dX10_termOf_1 fl_X10_7 h rfl (r_bipush dX10_termOf_4 (by decide) (r_bipush dX10_termOf_6 (by decide) (r_iload_n dX10_termOf_8 (i := 1) rfl rfl ?_))))
  refine r_imul dX10_termOf_9 (r_iadd dX10_termOf_10 (r_iload_n dX10_termOf_11 (i := 2) rfl rfl (r_iadd dX10_termOf_12 (r_lald dX10_termOf_13 ha (by omega) (by omega) (by omega) ?_))))
  refine r_lret dX10_termOf_14 rfl ?_
  first | omega | exact ⟨rfl, rfl⟩ | exact ⟨by rw [b2i_t (by omega)], rfl⟩ | exact ⟨by rw [b2i_f (by omega)], rfl⟩
theorem c_X10_putTerm {s k v : Int} (h : S.1 m = some (cO 10 (.ref (m + 1) :: fs))) (ha : S.1 (m + 1) = some (cJ 215 a)) (hs : 0 ≤ s ∧ s < 4) (hk : 0 ≤ k ∧ k < 32) : PC g yX10_putTerm cX10_putTerm (iX10_putTerm mc ms) [.ref m, vi s, vi k, vl v] S (Rt none (ps_put S (m + 1) (cJ 215 (upI a (11 + 32 * s + k) v)))) := by
  refine PC_of pnX10 rfl rfl rfl (Nat.le_of_ble_eq_true rfl) ?_
  refine r_aload_n dX10_putTerm_0 (i := 0) rfl rfl (r_get dX10_putTerm_1 fl_X10_7 h rfl (r_bipush dX10_putTerm_4 (by decide) (r_bipush dX10_putTerm_6 (by decide) (r_iload_n dX10_putTerm_8 (i := 1) rfl rfl ?_))))
  refine r_imul dX10_putTerm_9 (r_iadd dX10_putTerm_10 (r_iload_n dX10_putTerm_11 (i := 2) rfl rfl (r_iadd dX10_putTerm_12 (r_lload_n dX10_putTerm_13 (i := 3) rfl rfl ?_))))
  refine r_last dX10_putTerm_14 ha (by omega) (by omega) (by omega) ?_
  refine r_vret dX10_putTerm_15 rfl ?_
  first | omega | exact ⟨rfl, rfl⟩ | exact ⟨by rw [b2i_t (by omega)], rfl⟩ | exact ⟨by rw [b2i_f (by omega)], rfl⟩
theorem c_X10_isSet {q : Int} (h : S.1 m = some (cO 10 (.ref (m + 1) :: fs))) (ha : S.1 (m + 1) = some (cJ 215 a)) (hn : 0 ≤ a 0 ∧ a 0 ≤ 6) (hq : RI q) : PC g yX10_isSet cX10_isSet (iX10_isSet mc ms) [.ref m, vi q] S (Rt (some (vi (b2i (0 ≤ q ∧ q ≤ 2 ^ (a 0).toNat - 1)))) S) := by
  refine PC_of pnX10 rfl rfl rfl (Nat.le_of_ble_eq_true rfl) ?_
  have h2 := p2_bd hn
  refine r_iload_n dX10_isSet_0 (i := 1) rfl rfl (r_i2l dX10_isSet_1 (by omega) (r_lconst (z := 0) dX10_isSet_2 (by decide) (r_lconst (z := 1) dX10_isSet_3 (by decide) (r_aload_n dX10_isSet_4 (i := 0) rfl rfl ?_))))
  refine r_get dX10_isSet_5 fl_X10_7 h rfl (r_iconst dX10_isSet_8 (r_lald dX10_isSet_9 ha (by omega) (by omega) (by omega) (r_l2i dX10_isSet_10 ?_)))
  refine r_lshl ((2 ^ (a 0).toNat)) dX10_isSet_11 (q_lshl1 hn) ?_
  refine r_lconst (z := 1) dX10_isSet_12 (by decide) (r_lsub dX10_isSet_13 (c_sr dX10_isSet_14 (c_X10_isIn ⟨by omega, by omega⟩ ⟨by omega, by omega⟩ ⟨by omega, by omega⟩) rfl rfl mq_X10_isIn ml_X10_46 ⟨Nat.le_of_ble_eq_true rfl, Nat.le_of_ble_eq_true rfl⟩ rfl rfl (Nat.le_of_ble_eq_true rfl) ?_))
  refine r_iret dX10_isSet_17 rfl b2i_narZ ?_
  first | omega | exact ⟨rfl, rfl⟩ | exact ⟨by rw [b2i_t (by omega)], rfl⟩ | exact ⟨by rw [b2i_f (by omega)], rfl⟩
def noUnitI (a : Int → Int) (q v : Int) : Int := if 0 ≤ q ∧ q ≤ a 0 - 1 then (if v % a (1 + q) = 0 then 2 else 0) else 1
theorem tmod_0 {v p : Int} : Int.tmod v p = 0 ↔ v % p = 0 := by
  rw [← Int.dvd_iff_tmod_eq_zero, ← Int.dvd_iff_emod_eq_zero]
theorem c_X10_noUnit {q v : Int} (h : S.1 m = some (cO 10 (.ref (m + 1) :: fs))) (ha : S.1 (m + 1) = some (cJ 215 a)) (hp : MP a) (hq : RI q) (hv : RI v) : PC g yX10_noUnit cX10_noUnit (iX10_noUnit mc ms) [.ref m, vi q, vi v] S (Rt (some (vi (noUnitI a q v))) S) := by
  refine PC_of pnX10 rfl rfl rfl (Nat.le_of_ble_eq_true rfl) ?_
  have hn := hp.1
  refine r_aload_n dX10_noUnit_0 (i := 0) rfl rfl (r_iload_n dX10_noUnit_1 (i := 1) rfl rfl (c_vr dX10_noUnit_2 (c_X10_isThere h ha hn hq) rfl rfl mq_X10_isThere ml_X10_146 ⟨Nat.le_of_ble_eq_true rfl, Nat.le_of_ble_eq_true rfl⟩ h rfl rfl rfl (Nat.le_of_ble_eq_true rfl) ?_))
  refine r_if_ne 12 dX10_noUnit_5 (by decide) b2i_RI (fun c1 => ?_) (fun c1 => ?_)
  · replace c1 := b2i_ne c1
    have hp1 := hp.2 q (by omega) (by omega)
    have hd := tmod_bd v (p := a (1 + q)) (by omega)
    refine r_iload_n dX10_noUnit_12 (i := 2) rfl rfl (r_aload_n dX10_noUnit_13 (i := 0) rfl rfl (r_iload_n dX10_noUnit_14 (i := 1) rfl rfl (c_vr dX10_noUnit_15 (c_X10_primeAt h ha (by omega)) rfl rfl mq_X10_primeAt ml_X10_165 ⟨Nat.le_of_ble_eq_true rfl, Nat.le_of_ble_eq_true rfl⟩ h rfl rfl rfl (Nat.le_of_ble_eq_true rfl) (r_irem dX10_noUnit_18 (by omega) (by omega) (by omega) ?_))))
    refine r_if_ne 26 dX10_noUnit_19 (by decide) (by omega) (fun c2 => ?_) (fun c2 => ?_)
    · refine r_iconst dX10_noUnit_26 ?_
      refine r_iret dX10_noUnit_27 rfl rfl ?_
      exact ⟨by unfold noUnitI; rw [if_pos (by omega), if_neg (fun z => by have := tmod_0.mpr z; omega)], rfl⟩
    · refine r_iconst dX10_noUnit_22 (r_goto 27 dX10_noUnit_23 (by decide) ?_)
      refine r_iret dX10_noUnit_27 rfl rfl ?_
      exact ⟨by unfold noUnitI; rw [if_pos (by omega), if_pos (tmod_0.mp (by omega))], rfl⟩
  · replace c1 := b2i_eq c1
    refine r_iconst dX10_noUnit_8 (r_goto 27 dX10_noUnit_9 (by decide) ?_)
    refine r_iret dX10_noUnit_27 rfl rfl ?_
    exact ⟨by unfold noUnitI; rw [if_neg (by omega)], rfl⟩
end MOBJ

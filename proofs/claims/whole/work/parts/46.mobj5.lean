/-! the model's own helpers: steps, plans, what can be multiplied and stored, what is kept -/
def trm (p : Int) (kd : Int) (w : Nat) : Int := 3 * csI p w (bmI p w) + (w : Int) + (if kd = 2 then 3 * (w : Int) else 0)
noncomputable def stS (a : Int → Int) (kd : Int) (w : Nat) (set : Int) : Nat → Int
  | 0 => 0
  | k + 1 => stS a kd w set k + b2c (bt set (k : Int)) * trm (a (1 + (k : Int))) kd w
noncomputable def stR (set : Int) : Nat → Int
  | 0 => 0
  | k + 1 => stR set k + b2c (bt set (k : Int))
theorem stR_bd (set : Int) : ∀ k : Nat, 0 ≤ stR set k ∧ stR set k ≤ k
  | 0 => ⟨Int.le_refl _, Int.le_refl _⟩
  | k + 1 => by
    have h1 := stR_bd set k
    have h2 := b2c_01 (p := bt set (k : Int))
    show 0 ≤ _ + _ ∧ _ + _ ≤ _
    omega
theorem trm_bd {p kd : Int} {w : Nat} (hw : 1 ≤ w ∧ w ≤ 64) : -3 ≤ trm p kd w ∧ trm p kd w ≤ 12544 := by
  have h := csI_bd p hw (bmI p w)
  unfold trm
  split <;> omega
theorem stS_bd {a : Int → Int} {kd set : Int} {w : Nat} (hw : 1 ≤ w ∧ w ≤ 64) : ∀ k : Nat, -(3 * (k : Int)) ≤ stS a kd w set k ∧ stS a kd w set k ≤ 12544 * (k : Int)
  | 0 => ⟨Int.le_refl _, Int.le_refl _⟩
  | k + 1 => by
    have h1 := stS_bd (a := a) (kd := kd) (set := set) hw k
    have h2 := b2c_01 (p := bt set (k : Int))
    have h3 := trm_bd (p := a (1 + (k : Int))) (kd := kd) hw
    show -(3 * ((k + 1 : Nat) : Int)) ≤ _ + _ ∧ _ + _ ≤ _
    rcases h2 with e | e <;> rw [e] <;> omega
noncomputable def stI (a : Int → Int) (kd : Int) (w : Nat) (set : Int) : Int := stS a kd w set (a 0).toNat + (w : Int) * stR set (a 0).toNat * (stR set (a 0).toNat - 1) / 2
theorem rr_bd {w r : Int} (hw : 1 ≤ w ∧ w ≤ 64) (hr : 0 ≤ r ∧ r ≤ 6) : 0 ≤ w * r * (r - 1) ∧ w * r * (r - 1) ≤ 1920 := by
  have h1 := Int.mul_nonneg (show 0 ≤ w by omega) hr.1
  have h2 := Int.mul_le_mul hw.2 hr.2 hr.1 (by omega)
  rcases Int.lt_or_le r 1 with z | z
  · have e : r = 0 := by omega
    subst e
    rw [Int.mul_zero, Int.zero_mul]
    omega
  · have h3 := Int.mul_nonneg h1 (show 0 ≤ r - 1 by omega)
    have h4 := Int.mul_le_mul h2 (show r - 1 ≤ 5 by omega) (by omega) (by omega)
    omega
theorem stI_bd {a : Int → Int} {kd set : Int} {w : Nat} (hn : 0 ≤ a 0 ∧ a 0 ≤ 6) (hw : 1 ≤ w ∧ w ≤ 64) : -18 ≤ stI a kd w set ∧ stI a kd w set ≤ 100000 := by
  have h1 := stS_bd (a := a) (kd := kd) (set := set) hw (a 0).toNat
  have h2 := stR_bd set (a 0).toNat
  have h3 := rr_bd (w := (w : Int)) (r := stR set (a 0).toNat) (by omega) (by omega)
  unfold stI
  omega
/-- the model's object -/
abbrev mO (m : Nat) (km th bu sz at' be ki wr wa ea nu bs bw bt' : Int) : PE := cO 10 [.ref (m + 1), .ref (m + 2), .ref (m + 3), vi km, vi th, .ref (m + 4), vi bu, vi sz, vi at', vi be, vi ki, vi wr, vi wa, vi ea, vl nu, vi bs, vi bw, vi bt']
def pOk (a : Int → Int) (kd b : Int) (w : Nat) (set : Int) : Prop := (0 < set ∧ 2 * b < prC a set) ∧ HaveAll a set (if kd = 2 then 2 * (w : Int) else (w : Int))
/-- one set is tried -/
noncomputable def pS (a : Int → Int) (kd b : Int) (w : Nat) (set : Int) (t : Int × Int × Int) : Int × Int × Int := if b2c (pOk a kd b w set) = 1 ∧ (t.1 = -1 ∨ stI a kd w set < t.1) then (stI a kd w set, (w : Int), set) else t
noncomputable def pSs (a : Int → Int) (kd b : Int) (w : Nat) (t : Int × Int × Int) : Nat → Int × Int × Int
  | 0 => t
  | k + 1 => pS a kd b w ((k + 1 : Nat) : Int) (pSs a kd b w t k)
/-- the widths from w on are tried, c of them -/
noncomputable def pW (a : Int → Int) (kd b : Int) (w : Nat) (t : Int × Int × Int) : Nat → Int × Int × Int
  | 0 => t
  | c + 1 => pSs a kd b (w + c) (pW a kd b w t c) (2 ^ (a 0).toNat - 1)
theorem pS_no {a : Int → Int} {kd b set : Int} {w : Nat} {t : Int × Int × Int} (h : ¬ pOk a kd b w set) : pS a kd b w set t = t := by
  unfold pS
  rw [b2c_f h, if_neg (by omega)]
theorem pS_up {a : Int → Int} {kd b set : Int} {w : Nat} {t : Int × Int × Int} (h : pOk a kd b w set) (h2 : t.1 = -1 ∨ stI a kd w set < t.1) : pS a kd b w set t = (stI a kd w set, (w : Int), set) := by
  unfold pS
  rw [b2c_t h, if_pos ⟨rfl, h2⟩]
theorem pS_st {a : Int → Int} {kd b set : Int} {w : Nat} {t : Int × Int × Int} (h2 : ¬ (t.1 = -1 ∨ stI a kd w set < t.1)) : pS a kd b w set t = t := by
  unfold pS
  rw [if_neg (fun z => h2 z.2)]
theorem pS_bd {a : Int → Int} {kd b set : Int} {w : Nat} {t : Int × Int × Int} (hn : 0 ≤ a 0 ∧ a 0 ≤ 6) (hw : 1 ≤ w ∧ w ≤ 64) (h : -18 ≤ t.1 ∧ t.1 ≤ 100000) : -18 ≤ (pS a kd b w set t).1 ∧ (pS a kd b w set t).1 ≤ 100000 := by
  unfold pS
  split
  · exact stI_bd hn hw
  · exact h
theorem pSs_bd {a : Int → Int} {kd b : Int} {w : Nat} {t : Int × Int × Int} (hn : 0 ≤ a 0 ∧ a 0 ≤ 6) (hw : 1 ≤ w ∧ w ≤ 64) (h : -18 ≤ t.1 ∧ t.1 ≤ 100000) : ∀ k : Nat, -18 ≤ (pSs a kd b w t k).1 ∧ (pSs a kd b w t k).1 ≤ 100000
  | 0 => h
  | k + 1 => pS_bd hn hw (pSs_bd hn hw h k)
theorem pW_bd {a : Int → Int} {kd b : Int} {w : Nat} {t : Int × Int × Int} (hn : 0 ≤ a 0 ∧ a 0 ≤ 6) (hw : 1 ≤ w) (h : -18 ≤ t.1 ∧ t.1 ≤ 100000) : ∀ c : Nat, w + c ≤ 65 → -18 ≤ (pW a kd b w t c).1 ∧ (pW a kd b w t c).1 ≤ 100000
  | 0, _ => h
  | c + 1, hc => pSs_bd hn (by omega) (pW_bd hn hw h c (by omega)) _
section MOBJ5
variable {g : GT} {S : PS} {mc ms : Nat} {Q : PO → PS → Prop} {kc ks : Nat} {m : Nat} {a : Int → Int} {fs : List Value}
theorem l_stepsOf {kd set : Int} {w : Nat} (h : S.1 m = some (cO 10 (.ref (m + 1) :: fs))) (ha : S.1 (m + 1) = some (cJ 215 a)) (hp : MP a) (hs : 0 ≤ set ∧ set ≤ 64) (hkd : RI kd) (hw : 1 ≤ w ∧ w ≤ 64) (hq : Q (.inl (some (vi (stI a kd w set)))) S) : ∀ (n k : Nat), (k : Int) + n = a 0 →
    PW g cX10_stepsOf (iX10_stepsOf mc ms) 9 [(0, some (.ref m)), (1, some (vi kd)), (2, some (vi (w : Int))), (3, some (vi set)), (4, some (vi (stS a kd w set k))), (5, some (vi (stR set k))), (6, some (vi (k : Int)))] [] S kc ks Q := by
  intro n
  have hn := hp.1
  induction n with
  | zero =>
    intro k hk
    have hrb := stR_bd set k
    have hrr := rr_bd (w := (w : Int)) (r := stR set k) (by omega) (by omega)
    have e : stI a kd w set = stS a kd w set k + (w : Int) * stR set k * (stR set k - 1) / 2 := by
      unfold stI
      rw [show (a 0).toNat = k by omega]
    rw [e] at hq
    refine r_iload dX10_stepsOf_9 rfl (r_i2l dX10_stepsOf_11 (by omega) (r_aload_n dX10_stepsOf_12 (i := 0) rfl rfl (r_get dX10_stepsOf_13 fl_X10_7 h rfl (r_iconst dX10_stepsOf_16 ?_))))
    refine r_lald dX10_stepsOf_17 ha (by omega) (by omega) (by omega) ?_
    refine r_lcmp_ge 85 dX10_stepsOf_18 dX10_stepsOf_19 (by decide) (by omega) (by omega) (fun c1 => ?_) (fun c1 => ?_)
    · refine r_iload dX10_stepsOf_85 rfl (r_iload_n dX10_stepsOf_87 (i := 2) rfl rfl (r_iload dX10_stepsOf_88 rfl (r_imul dX10_stepsOf_90 (r_iload dX10_stepsOf_91 rfl ?_))))
      refine r_iconst dX10_stepsOf_93 (r_isub dX10_stepsOf_94 (r_imul dX10_stepsOf_95 (r_iconst dX10_stepsOf_96 (r_idivN dX10_stepsOf_97 (by omega) (by omega) (by omega) (by omega) ?_))))
      refine r_iadd dX10_stepsOf_98 ?_
      refine r_iret dX10_stepsOf_99 rfl rfl ?_
      exact hq
    · omega
  | succ n ih =>
    intro k hk
    have hpk := hp.2 k (by omega) (by omega)
    have hdb := div_bd hs.1 hs.2 (k : Int)
    have hbm := bmI_bd (a (1 + (k : Int))) w
    have eS : stS a kd w set (k + 1) = stS a kd w set k + b2c (bt set (k : Int)) * trm (a (1 + (k : Int))) kd w := rfl
    have eR : stR set (k + 1) = stR set k + b2c (bt set (k : Int)) := rfl
    have eT : trm (a (1 + (k : Int))) kd w = 3 * csI (a (1 + (k : Int))) w (bmI (a (1 + (k : Int))) w) + (w : Int) + (if kd = 2 then 3 * (w : Int) else 0) := rfl
    refine r_iload dX10_stepsOf_9 rfl (r_i2l dX10_stepsOf_11 (by omega) (r_aload_n dX10_stepsOf_12 (i := 0) rfl rfl (r_get dX10_stepsOf_13 fl_X10_7 h rfl (r_iconst dX10_stepsOf_16 ?_))))
    refine r_lald dX10_stepsOf_17 ha (by omega) (by omega) (by omega) ?_
    refine r_lcmp_ge 85 dX10_stepsOf_18 dX10_stepsOf_19 (by decide) (by omega) (by omega) (fun c1 => ?_) (fun c1 => ?_)
    · omega
    · refine r_iload_n dX10_stepsOf_22 (i := 3) rfl rfl (r_iload dX10_stepsOf_23 rfl ?_)
      refine r_ishr (set / 2 ^ (k : Int).toNat) dX10_stepsOf_25 (q_shr ⟨by omega, by omega⟩ (by omega)) ?_
      refine r_iconst dX10_stepsOf_26 ?_
      refine r_iand (set / 2 ^ (k : Int).toNat % 2) dX10_stepsOf_27 (q_and1 (by omega) (by omega)) ?_
      refine r_if_ne 34 dX10_stepsOf_28 (by decide) (by omega) (fun c2 => ?_) (fun c2 => ?_)
      · refine r_iinc dX10_stepsOf_34 rfl rfl (r_aload_n dX10_stepsOf_37 (i := 0) rfl rfl (r_iload dX10_stepsOf_38 rfl (c_vr dX10_stepsOf_40 (c_X10_primeAt h ha (by omega)) rfl rfl mq_X10_primeAt ml_X10_165 ⟨Nat.le_of_ble_eq_true rfl, Nat.le_of_ble_eq_true rfl⟩ h rfl rfl rfl (Nat.le_of_ble_eq_true rfl) (r_istore dX10_stepsOf_43 rfl (Nat.le_of_ble_eq_true rfl) ?_))))
        refine r_iload dX10_stepsOf_45 rfl (r_iconst dX10_stepsOf_47 (r_iload dX10_stepsOf_48 rfl (r_iload_n dX10_stepsOf_50 (i := 2) rfl rfl (r_iload dX10_stepsOf_51 rfl ?_))))
        refine r_iload_n dX10_stepsOf_53 (i := 2) rfl rfl (c_sr dX10_stepsOf_54 (c_X10_bestMethod hw ⟨hpk.1, hpk.2.1⟩) rfl rfl mq_X10_bestMethod ml_X10_228 ⟨Nat.le_of_ble_eq_true rfl, Nat.le_of_ble_eq_true rfl⟩ rfl rfl (Nat.le_of_ble_eq_true rfl) (c_sr dX10_stepsOf_57 (c_X10_costOf hw ⟨hpk.1, hpk.2.1⟩ hbm) rfl rfl mq_X10_costOf ml_X10_224 ⟨Nat.le_of_ble_eq_true rfl, Nat.le_of_ble_eq_true rfl⟩ rfl rfl (Nat.le_of_ble_eq_true rfl) (r_imul dX10_stepsOf_60 (r_iload_n dX10_stepsOf_61 (i := 2) rfl rfl ?_))))
        refine r_iadd dX10_stepsOf_62 (r_iload_n dX10_stepsOf_63 (i := 1) rfl rfl (r_iconst dX10_stepsOf_64 ?_))
        refine r_icmp_ne 74 dX10_stepsOf_65 (by decide) (by omega) (by omega) (fun c3 => ?_) (fun c3 => ?_)
        · refine r_iconst dX10_stepsOf_74 (r_iadd dX10_stepsOf_75 (r_iadd dX10_stepsOf_76 (r_istore dX10_stepsOf_77 rfl (Nat.le_of_ble_eq_true rfl) (r_iinc dX10_stepsOf_79 rfl rfl ?_))))
          refine r_goto 9 dX10_stepsOf_82 (by decide) ?_
          first
            | (rw [b2c_f (show ¬ bt set (k : Int) from fun z => by have z2 : set / 2 ^ (k : Int).toNat % 2 = 1 := z; omega)] at eS eR
               exact r_loc [(0, some (.ref m)), (1, some (vi kd)), (2, some (vi (w : Int))), (3, some (vi set)), (4, some (vi (stS a kd w set (k + 1)))), (5, some (vi (stR set (k + 1)))), (6, some (vi ((k + 1 : Nat) : Int)))] ⟨Or.inl rfl, Or.inl rfl, Or.inl rfl, Or.inl rfl, Or.inl (lvi_eq (by omega)), Or.inl (lvi_eq (by omega)), Or.inl rfl, trivial⟩ (ih (k + 1) (by omega)))
            | (rw [b2c_t (show bt set (k : Int) by show set / 2 ^ (k : Int).toNat % 2 = 1; omega)] at eS eR
               first | rw [if_pos (by omega)] at eT | rw [if_neg (by omega)] at eT
               exact r_loc [(0, some (.ref m)), (1, some (vi kd)), (2, some (vi (w : Int))), (3, some (vi set)), (4, some (vi (stS a kd w set (k + 1)))), (5, some (vi (stR set (k + 1)))), (6, some (vi ((k + 1 : Nat) : Int)))] ⟨Or.inl rfl, Or.inl rfl, Or.inl rfl, Or.inl rfl, Or.inl (lvi_eq (by omega)), Or.inl (lvi_eq (by omega)), Or.inl rfl, trivial⟩ (ih (k + 1) (by omega)))
        · refine r_iconst dX10_stepsOf_68 (r_iload_n dX10_stepsOf_69 (i := 2) rfl rfl (r_imul dX10_stepsOf_70 (r_goto 75 dX10_stepsOf_71 (by decide) (r_iadd dX10_stepsOf_75 ?_))))
          refine r_iadd dX10_stepsOf_76 (r_istore dX10_stepsOf_77 rfl (Nat.le_of_ble_eq_true rfl) (r_iinc dX10_stepsOf_79 rfl rfl (r_goto 9 dX10_stepsOf_82 (by decide) ?_)))
          first
            | (rw [b2c_f (show ¬ bt set (k : Int) from fun z => by have z2 : set / 2 ^ (k : Int).toNat % 2 = 1 := z; omega)] at eS eR
               exact r_loc [(0, some (.ref m)), (1, some (vi kd)), (2, some (vi (w : Int))), (3, some (vi set)), (4, some (vi (stS a kd w set (k + 1)))), (5, some (vi (stR set (k + 1)))), (6, some (vi ((k + 1 : Nat) : Int)))] ⟨Or.inl rfl, Or.inl rfl, Or.inl rfl, Or.inl rfl, Or.inl (lvi_eq (by omega)), Or.inl (lvi_eq (by omega)), Or.inl rfl, trivial⟩ (ih (k + 1) (by omega)))
            | (rw [b2c_t (show bt set (k : Int) by show set / 2 ^ (k : Int).toNat % 2 = 1; omega)] at eS eR
               first | rw [if_pos (by omega)] at eT | rw [if_neg (by omega)] at eT
               exact r_loc [(0, some (.ref m)), (1, some (vi kd)), (2, some (vi (w : Int))), (3, some (vi set)), (4, some (vi (stS a kd w set (k + 1)))), (5, some (vi (stR set (k + 1)))), (6, some (vi ((k + 1 : Nat) : Int)))] ⟨Or.inl rfl, Or.inl rfl, Or.inl rfl, Or.inl rfl, Or.inl (lvi_eq (by omega)), Or.inl (lvi_eq (by omega)), Or.inl rfl, trivial⟩ (ih (k + 1) (by omega)))
      · refine r_goto 79 dX10_stepsOf_31 (by decide) (r_iinc dX10_stepsOf_79 rfl rfl (r_goto 9 dX10_stepsOf_82 (by decide) ?_))
        first
          | (rw [b2c_f (show ¬ bt set (k : Int) from fun z => by have z2 : set / 2 ^ (k : Int).toNat % 2 = 1 := z; omega)] at eS eR
             exact r_loc [(0, some (.ref m)), (1, some (vi kd)), (2, some (vi (w : Int))), (3, some (vi set)), (4, some (vi (stS a kd w set (k + 1)))), (5, some (vi (stR set (k + 1)))), (6, some (vi ((k + 1 : Nat) : Int)))] ⟨Or.inl rfl, Or.inl rfl, Or.inl rfl, Or.inl rfl, Or.inl (lvi_eq (by omega)), Or.inl (lvi_eq (by omega)), Or.inl rfl, trivial⟩ (ih (k + 1) (by omega)))
          | (rw [b2c_t (show bt set (k : Int) by show set / 2 ^ (k : Int).toNat % 2 = 1; omega)] at eS eR
             first | rw [if_pos (by omega)] at eT | rw [if_neg (by omega)] at eT
             exact r_loc [(0, some (.ref m)), (1, some (vi kd)), (2, some (vi (w : Int))), (3, some (vi set)), (4, some (vi (stS a kd w set (k + 1)))), (5, some (vi (stR set (k + 1)))), (6, some (vi ((k + 1 : Nat) : Int)))] ⟨Or.inl rfl, Or.inl rfl, Or.inl rfl, Or.inl rfl, Or.inl (lvi_eq (by omega)), Or.inl (lvi_eq (by omega)), Or.inl rfl, trivial⟩ (ih (k + 1) (by omega)))
theorem c_X10_canMultiply {kd s t w set : Int} (h : S.1 m = some (cO 10 (.ref (m + 1) :: fs))) (ha : S.1 (m + 1) = some (cJ 215 a)) (hp : MP a) (hl : ML a) (hs : 0 ≤ s ∧ s ≤ 3) (ht : 0 ≤ t ∧ t ≤ 3) (hk : RI kd) (hw : RI w) (hset : 0 ≤ set ∧ set ≤ 64) : PC g yX10_canMultiply cX10_canMultiply (iX10_canMultiply mc ms) [.ref m, vi kd, vi s, vi t, vi w, vi set] S (Rt (some (vi (b2i (((0 ≤ kd ∧ kd ≤ 2) ∧ 1 ≤ w ∧ w ≤ 64) ∧ (set ≠ 0 ∧ prC a set ≤ 4000000000000000000) ∧ ((kd = 0 ∧ a (7 + s) + a (7 + t) - 1 ≤ w) ∨ (kd ≠ 0 ∧ a (7 + s) ≤ w ∧ a (7 + t) ≤ w)))))) S) := by
  refine PC_of pnX10 rfl rfl rfl (Nat.le_of_ble_eq_true rfl) ?_
  have hc := prC_bd hp set
  have h1 := hl.1 s hs.1 (by omega)
  have h2 := hl.1 t ht.1 (by omega)
  have e : sizI a 0 s t 0 = a (7 + s) + a (7 + t) - 1 := rfl
  refine r_iload_n dX10_canMultiply_0 (i := 1) rfl rfl (r_i2l dX10_canMultiply_1 (by omega) (r_lconst (z := 0) dX10_canMultiply_2 (by decide) (r_ldc2 dX10_canMultiply_3 csj_X10_151 (c_sr dX10_canMultiply_6 (c_X10_isIn ⟨by omega, by omega⟩ ⟨by omega, by omega⟩ ⟨by omega, by omega⟩) rfl rfl mq_X10_isIn ml_X10_46 ⟨Nat.le_of_ble_eq_true rfl, Nat.le_of_ble_eq_true rfl⟩ rfl rfl (Nat.le_of_ble_eq_true rfl) ?_))))
  refine r_if_eq 43 dX10_canMultiply_9 (by decide) b2i_RI (fun c1 => ?_) (fun c1 => ?_)
  · replace c1 := b2i_eq c1
    refine r_iconst dX10_canMultiply_43 ?_
    refine r_iret dX10_canMultiply_44 rfl (q_narZ (by first | exact Or.inl rfl | exact Or.inr rfl)) ?_
    first | omega | exact ⟨rfl, rfl⟩ | exact ⟨by rw [b2i_t (by omega)], rfl⟩ | exact ⟨by rw [b2i_f (by omega)], rfl⟩
  · replace c1 := b2i_ne c1
    refine r_iload dX10_canMultiply_12 rfl (r_i2l dX10_canMultiply_14 (by omega) (r_lconst (z := 1) dX10_canMultiply_15 (by decide) (r_ldc2 dX10_canMultiply_16 csj_X10_218 (c_sr dX10_canMultiply_19 (c_X10_isIn ⟨by omega, by omega⟩ ⟨by omega, by omega⟩ ⟨by omega, by omega⟩) rfl rfl mq_X10_isIn ml_X10_46 ⟨Nat.le_of_ble_eq_true rfl, Nat.le_of_ble_eq_true rfl⟩ rfl rfl (Nat.le_of_ble_eq_true rfl) ?_))))
    refine r_if_eq 43 dX10_canMultiply_22 (by decide) b2i_RI (fun c2 => ?_) (fun c2 => ?_)
    · replace c2 := b2i_eq c2
      refine r_iconst dX10_canMultiply_43 ?_
      refine r_iret dX10_canMultiply_44 rfl (q_narZ (by first | exact Or.inl rfl | exact Or.inr rfl)) ?_
      first | omega | exact ⟨rfl, rfl⟩ | exact ⟨by rw [b2i_t (by omega)], rfl⟩ | exact ⟨by rw [b2i_f (by omega)], rfl⟩
    · replace c2 := b2i_ne c2
      refine r_iload dX10_canMultiply_25 rfl ?_
      refine r_if_eq 43 dX10_canMultiply_27 (by decide) (by omega) (fun c3 => ?_) (fun c3 => ?_)
      · refine r_iconst dX10_canMultiply_43 ?_
        refine r_iret dX10_canMultiply_44 rfl (q_narZ (by first | exact Or.inl rfl | exact Or.inr rfl)) ?_
        first | omega | exact ⟨rfl, rfl⟩ | exact ⟨by rw [b2i_t (by omega)], rfl⟩ | exact ⟨by rw [b2i_f (by omega)], rfl⟩
      · refine r_aload_n dX10_canMultiply_30 (i := 0) rfl rfl (r_iload dX10_canMultiply_31 rfl (c_vr dX10_canMultiply_33 (c_X10_productOf h ha hp hset) rfl rfl mq_X10_productOf ml_X10_266 ⟨Nat.le_of_ble_eq_true rfl, Nat.le_of_ble_eq_true rfl⟩ h rfl rfl rfl (Nat.le_of_ble_eq_true rfl) (r_ldc2 dX10_canMultiply_36 csj_X10_262 ?_)))
        refine r_lcmp_le 45 dX10_canMultiply_39 dX10_canMultiply_40 (by decide) (by omega) (by omega) (fun c4 => ?_) (fun c4 => ?_)
        · refine r_iload_n dX10_canMultiply_45 (i := 1) rfl rfl ?_
          refine r_if_ne 70 dX10_canMultiply_46 (by decide) (by omega) (fun c5 => ?_) (fun c5 => ?_)
          · refine r_iload dX10_canMultiply_70 rfl (r_aload_n dX10_canMultiply_72 (i := 0) rfl rfl (r_iload_n dX10_canMultiply_73 (i := 2) rfl rfl (c_vr dX10_canMultiply_74 (c_X10_longOf h ha (by omega)) rfl rfl mq_X10_longOf ml_X10_194 ⟨Nat.le_of_ble_eq_true rfl, Nat.le_of_ble_eq_true rfl⟩ h rfl rfl rfl (Nat.le_of_ble_eq_true rfl) ?_)))
            refine r_icmp_lt 94 dX10_canMultiply_77 (by decide) (by omega) (by omega) (fun c6 => ?_) (fun c6 => ?_)
            · refine r_iconst dX10_canMultiply_94 ?_
              refine r_iret dX10_canMultiply_95 rfl (q_narZ (by first | exact Or.inl rfl | exact Or.inr rfl)) ?_
              first | omega | exact ⟨rfl, rfl⟩ | exact ⟨by rw [b2i_t (by omega)], rfl⟩ | exact ⟨by rw [b2i_f (by omega)], rfl⟩
            · refine r_iload dX10_canMultiply_80 rfl (r_aload_n dX10_canMultiply_82 (i := 0) rfl rfl (r_iload_n dX10_canMultiply_83 (i := 3) rfl rfl (c_vr dX10_canMultiply_84 (c_X10_longOf h ha (by omega)) rfl rfl mq_X10_longOf ml_X10_194 ⟨Nat.le_of_ble_eq_true rfl, Nat.le_of_ble_eq_true rfl⟩ h rfl rfl rfl (Nat.le_of_ble_eq_true rfl) ?_)))
              refine r_icmp_lt 94 dX10_canMultiply_87 (by decide) (by omega) (by omega) (fun c7 => ?_) (fun c7 => ?_)
              · refine r_iconst dX10_canMultiply_94 ?_
                refine r_iret dX10_canMultiply_95 rfl (q_narZ (by first | exact Or.inl rfl | exact Or.inr rfl)) ?_
                first | omega | exact ⟨rfl, rfl⟩ | exact ⟨by rw [b2i_t (by omega)], rfl⟩ | exact ⟨by rw [b2i_f (by omega)], rfl⟩
              · refine r_iconst dX10_canMultiply_90 (r_goto 95 dX10_canMultiply_91 (by decide) ?_)
                refine r_iret dX10_canMultiply_95 rfl (q_narZ (by first | exact Or.inl rfl | exact Or.inr rfl)) ?_
                first | omega | exact ⟨rfl, rfl⟩ | exact ⟨by rw [b2i_t (by omega)], rfl⟩ | exact ⟨by rw [b2i_f (by omega)], rfl⟩
          · refine r_iload dX10_canMultiply_49 rfl (r_aload_n dX10_canMultiply_51 (i := 0) rfl rfl (r_iconst dX10_canMultiply_52 (r_iload_n dX10_canMultiply_53 (i := 2) rfl rfl (r_iload_n dX10_canMultiply_54 (i := 3) rfl rfl ?_))))
            refine r_iconst dX10_canMultiply_55 (c_vr dX10_canMultiply_56 (c_X10_sizeOf h ha ⟨by omega, by omega⟩ (fun _ => ⟨hs, ht⟩)) rfl rfl mq_X10_sizeOf ml_X10_248 ⟨Nat.le_of_ble_eq_true rfl, Nat.le_of_ble_eq_true rfl⟩ h rfl rfl rfl (Nat.le_of_ble_eq_true rfl) ?_)
            rw [e]
            refine r_icmp_lt 66 dX10_canMultiply_59 (by decide) (by omega) (by omega) (fun c8 => ?_) (fun c8 => ?_)
            · refine r_iconst dX10_canMultiply_66 (r_goto 95 dX10_canMultiply_67 (by decide) ?_)
              refine r_iret dX10_canMultiply_95 rfl (q_narZ (by first | exact Or.inl rfl | exact Or.inr rfl)) ?_
              first | omega | exact ⟨rfl, rfl⟩ | exact ⟨by rw [b2i_t (by omega)], rfl⟩ | exact ⟨by rw [b2i_f (by omega)], rfl⟩
            · refine r_iconst dX10_canMultiply_62 (r_goto 95 dX10_canMultiply_63 (by decide) ?_)
              refine r_iret dX10_canMultiply_95 rfl (q_narZ (by first | exact Or.inl rfl | exact Or.inr rfl)) ?_
              first | omega | exact ⟨rfl, rfl⟩ | exact ⟨by rw [b2i_t (by omega)], rfl⟩ | exact ⟨by rw [b2i_f (by omega)], rfl⟩
        · refine r_iconst dX10_canMultiply_43 ?_
          refine r_iret dX10_canMultiply_44 rfl (q_narZ (by first | exact Or.inl rfl | exact Or.inr rfl)) ?_
          first | omega | exact ⟨rfl, rfl⟩ | exact ⟨by rw [b2i_t (by omega)], rfl⟩ | exact ⟨by rw [b2i_f (by omega)], rfl⟩
theorem c_X10_stepsOf {kd set : Int} {w : Nat} (h : S.1 m = some (cO 10 (.ref (m + 1) :: fs))) (ha : S.1 (m + 1) = some (cJ 215 a)) (hp : MP a) (hs : 0 ≤ set ∧ set ≤ 64) (hkd : RI kd) (hw : 1 ≤ w ∧ w ≤ 64) : PC g yX10_stepsOf cX10_stepsOf (iX10_stepsOf mc ms) [.ref m, vi kd, vi (w : Int), vi set] S (Rt (some (vi (stI a kd w set))) S) := by
  refine PC_of pnX10 rfl rfl rfl (Nat.le_of_ble_eq_true rfl) ?_
  have hn := hp.1
  refine r_iconst dX10_stepsOf_0 (r_istore dX10_stepsOf_1 rfl (Nat.le_of_ble_eq_true rfl) (r_iconst dX10_stepsOf_3 (r_istore dX10_stepsOf_4 rfl (Nat.le_of_ble_eq_true rfl) (r_iconst dX10_stepsOf_6 ?_))))
  refine r_istore dX10_stepsOf_7 rfl (Nat.le_of_ble_eq_true rfl) ?_
  exact r_loc [(0, some (.ref m)), (1, some (vi kd)), (2, some (vi (w : Int))), (3, some (vi set)), (4, some (vi (stS a kd w set (0 : Nat)))), (5, some (vi (stR set (0 : Nat)))), (6, some (vi ((0 : Nat) : Int)))] ⟨Or.inl rfl, Or.inl rfl, Or.inl rfl, Or.inl rfl, Or.inl rfl, Or.inl rfl, Or.inl rfl, trivial⟩ (l_stepsOf h ha hp hs hkd hw ⟨rfl, rfl⟩ (a 0).toNat 0 (by omega))
variable {km th bu sz at' be ki wr wa ea nu : Int}
theorem l_sets {kd s t b from' : Int} {w : Nat} {t0 : Int × Int × Int} (ha : S.1 (m + 1) = some (cJ 215 a)) (hp : MP a) (hkd : RI kd) (hw : 1 ≤ w ∧ w ≤ 64) (hb : 0 ≤ b ∧ b ≤ 3199360032) (ht0 : -18 ≤ t0.1 ∧ t0.1 ≤ 100000) {N : Nat} (hN : N = 2 ^ (a 0).toNat - 1) {n4 : Int}
    (hq : PW g cX10_laysPlans (iX10_laysPlans mc ms) 153 [(0, some (.ref m)), (1, some (vi kd)), (2, some (vi s)), (3, some (vi t)), (4, some (vi n4)), (5, some (vi from')), (6, some (vl b)), (8, some (vi (w : Int)))] [] (ps_put S m (mO m km th bu sz at' be ki wr wa ea nu (pSs a kd b w t0 N).1 (pSs a kd b w t0 N).2.1 (pSs a kd b w t0 N).2.2)) kc ks Q) : ∀ (r j : Nat), j + r = N →
    PW g cX10_laysPlans (iX10_laysPlans mc ms) 47 [(0, some (.ref m)), (1, some (vi kd)), (2, some (vi s)), (3, some (vi t)), (4, some (vi n4)), (5, some (vi from')), (6, some (vl b)), (8, some (vi (w : Int))), (9, some (vi ((j + 1 : Nat) : Int)))] [] (ps_put S m (mO m km th bu sz at' be ki wr wa ea nu (pSs a kd b w t0 j).1 (pSs a kd b w t0 j).2.1 (pSs a kd b w t0 j).2.2)) kc ks Q := by
  intro r
  have hn := hp.1
  have hp2 := p2_bd hn
  have hpN : ((2 ^ (a 0).toNat : Nat) : Int) = (2 : Int) ^ (a 0).toNat := Int.natCast_pow 2 _
  have hpp := Nat.pow_pos (n := (a 0).toNat) (show 0 < 2 by omega)
  induction r with
  | zero =>
    intro j hj
    have ha' : (ps_put S m (mO m km th bu sz at' be ki wr wa ea nu (pSs a kd b w t0 j).1 (pSs a kd b w t0 j).2.1 (pSs a kd b w t0 j).2.2)).1 (m + 1) = some (cJ 215 a) := ps_ne (by omega) ha
    refine r_iload dX10_laysPlans_47 rfl (r_iconst dX10_laysPlans_49 (r_aload_n dX10_laysPlans_50 (i := 0) rfl rfl (r_get dX10_laysPlans_51 fl_X10_7 ps_same rfl (r_iconst dX10_laysPlans_54 ?_))))
    refine r_lald dX10_laysPlans_55 ha' (by omega) (by omega) (by omega) (r_l2i dX10_laysPlans_56 ?_)
    refine r_ishl (2 ^ (a 0).toNat) dX10_laysPlans_57 (q_shl1 hn) ?_
    refine r_icmp_ge 153 dX10_laysPlans_58 (by decide) (by omega) (by omega) (fun c1 => ?_) (fun c1 => ?_)
    · rw [show N = j by omega] at hq
      exact r_loc [(0, some (.ref m)), (1, some (vi kd)), (2, some (vi s)), (3, some (vi t)), (4, some (vi n4)), (5, some (vi from')), (6, some (vl b)), (8, some (vi (w : Int)))] ⟨Or.inl rfl, Or.inl rfl, Or.inl rfl, Or.inl rfl, Or.inl rfl, Or.inl rfl, Or.inl rfl, Or.inl rfl, trivial⟩ hq
    · omega
  | succ r ih =>
    intro j hj
    have hbd := pSs_bd (kd := kd) (b := b) hn hw ht0 j
    have hst := stI_bd (kd := kd) (set := ((j + 1 : Nat) : Int)) hn hw
    have ih2 := ih (j + 1) (by omega)
    have est : pSs a kd b w t0 (j + 1) = pS a kd b w ((j + 1 : Nat) : Int) (pSs a kd b w t0 j) := rfl
    generalize hT : pSs a kd b w t0 j = T at *
    obtain ⟨T1, T2, T3⟩ := T
    have ha' : (ps_put S m (mO m km th bu sz at' be ki wr wa ea nu T1 T2 T3)).1 (m + 1) = some (cJ 215 a) := ps_ne (by omega) ha
    have pok : ∀ z, HaveAll a ((j + 1 : Nat) : Int) z → z = (if kd = 2 then 2 * (w : Int) else (w : Int)) → (0 < ((j + 1 : Nat) : Int) ∧ 2 * b < prC a ((j + 1 : Nat) : Int)) → pOk a kd b w ((j + 1 : Nat) : Int) := fun z h1 h2 h3 => ⟨h3, h2 ▸ h1⟩
    have pno : ∀ z, ¬ HaveAll a ((j + 1 : Nat) : Int) z → z = (if kd = 2 then 2 * (w : Int) else (w : Int)) → ¬ pOk a kd b w ((j + 1 : Nat) : Int) := fun z h1 h2 h3 => h1 (h2 ▸ h3.2)
    refine r_iload dX10_laysPlans_47 rfl (r_iconst dX10_laysPlans_49 (r_aload_n dX10_laysPlans_50 (i := 0) rfl rfl (r_get dX10_laysPlans_51 fl_X10_7 ps_same rfl (r_iconst dX10_laysPlans_54 ?_))))
    refine r_lald dX10_laysPlans_55 ha' (by omega) (by omega) (by omega) (r_l2i dX10_laysPlans_56 ?_)
    refine r_ishl (2 ^ (a 0).toNat) dX10_laysPlans_57 (q_shl1 hn) ?_
    refine r_icmp_ge 153 dX10_laysPlans_58 (by decide) (by omega) (by omega) (fun c1 => ?_) (fun c1 => ?_)
    · omega
    · refine r_aload_n dX10_laysPlans_61 (i := 0) rfl rfl (r_iload dX10_laysPlans_62 rfl (r_lload dX10_laysPlans_64 rfl (c_vr dX10_laysPlans_66 (c_X10_areEnough ps_same ha' hp (by omega) hb) rfl rfl mq_X10_areEnough ml_X10_269 ⟨Nat.le_of_ble_eq_true rfl, Nat.le_of_ble_eq_true rfl⟩ ps_same rfl rfl rfl (Nat.le_of_ble_eq_true rfl) ?_)))
      refine r_if_eq 147 dX10_laysPlans_69 (by decide) b2i_RI (fun c2 => ?_) (fun c2 => ?_)
      · replace c2 := b2i_eq c2
        refine r_iinc dX10_laysPlans_147 rfl rfl (r_goto 47 dX10_laysPlans_150 (by decide) ?_)
        first
          | (have hno : ¬ pOk a kd b w ((j + 1 : Nat) : Int) := fun z => by have := z.1; omega
             rw [est, pS_no hno] at ih2
             exact r_loc [(0, some (.ref m)), (1, some (vi kd)), (2, some (vi s)), (3, some (vi t)), (4, some (vi n4)), (5, some (vi from')), (6, some (vl b)), (8, some (vi (w : Int))), (9, some (vi ((j + 1 + 1 : Nat) : Int)))] ⟨Or.inl rfl, Or.inl rfl, Or.inl rfl, Or.inl rfl, Or.inl rfl, Or.inl rfl, Or.inl rfl, Or.inl rfl, Or.inl rfl, trivial⟩ ih2)
          | (have hno : ¬ pOk a kd b w ((j + 1 : Nat) : Int) := pno _ (by assumption) (by first | rw [if_pos (by omega)] | rw [if_neg (by omega)])
             rw [est, pS_no hno] at ih2
             exact r_loc [(0, some (.ref m)), (1, some (vi kd)), (2, some (vi s)), (3, some (vi t)), (4, some (vi n4)), (5, some (vi from')), (6, some (vl b)), (8, some (vi (w : Int))), (9, some (vi ((j + 1 + 1 : Nat) : Int)))] ⟨Or.inl rfl, Or.inl rfl, Or.inl rfl, Or.inl rfl, Or.inl rfl, Or.inl rfl, Or.inl rfl, Or.inl rfl, Or.inl rfl, trivial⟩ ih2)
          | (have hok : pOk a kd b w ((j + 1 : Nat) : Int) := pok _ (by assumption) (by first | rw [if_pos (by omega)] | rw [if_neg (by omega)]) (by omega)
             rw [est, pS_up hok (show T1 = -1 ∨ stI a kd w ((j + 1 : Nat) : Int) < T1 by omega)] at ih2
             rw [ps_put_put, ps_put_put, ps_put_put]
             exact r_loc [(0, some (.ref m)), (1, some (vi kd)), (2, some (vi s)), (3, some (vi t)), (4, some (vi n4)), (5, some (vi from')), (6, some (vl b)), (8, some (vi (w : Int))), (9, some (vi ((j + 1 + 1 : Nat) : Int)))] ⟨Or.inl rfl, Or.inl rfl, Or.inl rfl, Or.inl rfl, Or.inl rfl, Or.inl rfl, Or.inl rfl, Or.inl rfl, Or.inl rfl, trivial⟩ ih2)
          | (rw [est, pS_st (show ¬ (T1 = -1 ∨ stI a kd w ((j + 1 : Nat) : Int) < T1) by omega)] at ih2
             exact r_loc [(0, some (.ref m)), (1, some (vi kd)), (2, some (vi s)), (3, some (vi t)), (4, some (vi n4)), (5, some (vi from')), (6, some (vl b)), (8, some (vi (w : Int))), (9, some (vi ((j + 1 + 1 : Nat) : Int)))] ⟨Or.inl rfl, Or.inl rfl, Or.inl rfl, Or.inl rfl, Or.inl rfl, Or.inl rfl, Or.inl rfl, Or.inl rfl, Or.inl rfl, trivial⟩ ih2)
      · replace c2 := b2i_ne c2
        refine r_aload_n dX10_laysPlans_72 (i := 0) rfl rfl (r_iload dX10_laysPlans_73 rfl (r_iload_n dX10_laysPlans_75 (i := 1) rfl rfl (r_iconst dX10_laysPlans_76 ?_)))
        refine r_icmp_ne 87 dX10_laysPlans_77 (by decide) (by omega) (by omega) (fun c3 => ?_) (fun c3 => ?_)
        · refine r_iload dX10_laysPlans_87 rfl (c_vr dX10_laysPlans_89 (c_X10_allHave ps_same ha' hp (by omega) (by omega)) rfl rfl mq_X10_allHave ml_X10_234 ⟨Nat.le_of_ble_eq_true rfl, Nat.le_of_ble_eq_true rfl⟩ ps_same rfl rfl rfl (Nat.le_of_ble_eq_true rfl) ?_)
          refine r_if_ne 98 dX10_laysPlans_92 (by decide) b2c_RI (fun c4 => ?_) (fun c4 => ?_)
          · replace c4 := b2c_ne c4
            refine r_aload_n dX10_laysPlans_98 (i := 0) rfl rfl (r_iload_n dX10_laysPlans_99 (i := 1) rfl rfl (r_iload dX10_laysPlans_100 rfl (r_iload dX10_laysPlans_102 rfl (c_vr dX10_laysPlans_104 (c_X10_stepsOf ps_same ha' hp (by omega) hkd hw) rfl rfl mq_X10_stepsOf ml_X10_276 ⟨Nat.le_of_ble_eq_true rfl, Nat.le_of_ble_eq_true rfl⟩ ps_same rfl rfl rfl (Nat.le_of_ble_eq_true rfl) ?_))))
            refine r_istore dX10_laysPlans_107 rfl (Nat.le_of_ble_eq_true rfl) (r_aload_n dX10_laysPlans_109 (i := 0) rfl rfl (r_get dX10_laysPlans_110 fl_X10_273 ps_same rfl (r_iconst dX10_laysPlans_113 ?_)))
            refine r_icmp_eq 129 dX10_laysPlans_114 (by decide) (by omega) (by omega) (fun c5 => ?_) (fun c5 => ?_)
            · refine r_aload_n dX10_laysPlans_129 (i := 0) rfl rfl (r_iload dX10_laysPlans_130 rfl (r_put dX10_laysPlans_132 fl_X10_273 ps_same rfl rfl (Nat.le_of_ble_eq_true rfl) (r_aload_n dX10_laysPlans_135 (i := 0) rfl rfl (r_iload dX10_laysPlans_136 rfl ?_))))
              refine r_put dX10_laysPlans_138 fl_X10_279 ps_same rfl rfl (Nat.le_of_ble_eq_true rfl) (r_aload_n dX10_laysPlans_141 (i := 0) rfl rfl (r_iload dX10_laysPlans_142 rfl (r_put dX10_laysPlans_144 fl_X10_282 ps_same rfl rfl (Nat.le_of_ble_eq_true rfl) (r_iinc dX10_laysPlans_147 rfl rfl ?_))))
              refine r_goto 47 dX10_laysPlans_150 (by decide) ?_
              first
                | (have hno : ¬ pOk a kd b w ((j + 1 : Nat) : Int) := fun z => by have := z.1; omega
                   rw [est, pS_no hno] at ih2
                   exact r_loc [(0, some (.ref m)), (1, some (vi kd)), (2, some (vi s)), (3, some (vi t)), (4, some (vi n4)), (5, some (vi from')), (6, some (vl b)), (8, some (vi (w : Int))), (9, some (vi ((j + 1 + 1 : Nat) : Int)))] ⟨Or.inl rfl, Or.inl rfl, Or.inl rfl, Or.inl rfl, Or.inl rfl, Or.inl rfl, Or.inl rfl, Or.inl rfl, Or.inl rfl, trivial⟩ ih2)
                | (have hno : ¬ pOk a kd b w ((j + 1 : Nat) : Int) := pno _ (by assumption) (by first | rw [if_pos (by omega)] | rw [if_neg (by omega)])
                   rw [est, pS_no hno] at ih2
                   exact r_loc [(0, some (.ref m)), (1, some (vi kd)), (2, some (vi s)), (3, some (vi t)), (4, some (vi n4)), (5, some (vi from')), (6, some (vl b)), (8, some (vi (w : Int))), (9, some (vi ((j + 1 + 1 : Nat) : Int)))] ⟨Or.inl rfl, Or.inl rfl, Or.inl rfl, Or.inl rfl, Or.inl rfl, Or.inl rfl, Or.inl rfl, Or.inl rfl, Or.inl rfl, trivial⟩ ih2)
                | (have hok : pOk a kd b w ((j + 1 : Nat) : Int) := pok _ (by assumption) (by first | rw [if_pos (by omega)] | rw [if_neg (by omega)]) (by omega)
                   rw [est, pS_up hok (show T1 = -1 ∨ stI a kd w ((j + 1 : Nat) : Int) < T1 by omega)] at ih2
                   rw [ps_put_put, ps_put_put, ps_put_put]
                   exact r_loc [(0, some (.ref m)), (1, some (vi kd)), (2, some (vi s)), (3, some (vi t)), (4, some (vi n4)), (5, some (vi from')), (6, some (vl b)), (8, some (vi (w : Int))), (9, some (vi ((j + 1 + 1 : Nat) : Int)))] ⟨Or.inl rfl, Or.inl rfl, Or.inl rfl, Or.inl rfl, Or.inl rfl, Or.inl rfl, Or.inl rfl, Or.inl rfl, Or.inl rfl, trivial⟩ ih2)
                | (rw [est, pS_st (show ¬ (T1 = -1 ∨ stI a kd w ((j + 1 : Nat) : Int) < T1) by omega)] at ih2
                   exact r_loc [(0, some (.ref m)), (1, some (vi kd)), (2, some (vi s)), (3, some (vi t)), (4, some (vi n4)), (5, some (vi from')), (6, some (vl b)), (8, some (vi (w : Int))), (9, some (vi ((j + 1 + 1 : Nat) : Int)))] ⟨Or.inl rfl, Or.inl rfl, Or.inl rfl, Or.inl rfl, Or.inl rfl, Or.inl rfl, Or.inl rfl, Or.inl rfl, Or.inl rfl, trivial⟩ ih2)
            · refine r_iload dX10_laysPlans_117 rfl (r_aload_n dX10_laysPlans_119 (i := 0) rfl rfl (r_get dX10_laysPlans_120 fl_X10_273 ps_same rfl ?_))
              refine r_icmp_lt 129 dX10_laysPlans_123 (by decide) (by omega) (by omega) (fun c6 => ?_) (fun c6 => ?_)
              · refine r_aload_n dX10_laysPlans_129 (i := 0) rfl rfl (r_iload dX10_laysPlans_130 rfl (r_put dX10_laysPlans_132 fl_X10_273 ps_same rfl rfl (Nat.le_of_ble_eq_true rfl) (r_aload_n dX10_laysPlans_135 (i := 0) rfl rfl (r_iload dX10_laysPlans_136 rfl ?_))))
                refine r_put dX10_laysPlans_138 fl_X10_279 ps_same rfl rfl (Nat.le_of_ble_eq_true rfl) (r_aload_n dX10_laysPlans_141 (i := 0) rfl rfl (r_iload dX10_laysPlans_142 rfl (r_put dX10_laysPlans_144 fl_X10_282 ps_same rfl rfl (Nat.le_of_ble_eq_true rfl) (r_iinc dX10_laysPlans_147 rfl rfl ?_))))
                refine r_goto 47 dX10_laysPlans_150 (by decide) ?_
                first
                  | (have hno : ¬ pOk a kd b w ((j + 1 : Nat) : Int) := fun z => by have := z.1; omega
                     rw [est, pS_no hno] at ih2
                     exact r_loc [(0, some (.ref m)), (1, some (vi kd)), (2, some (vi s)), (3, some (vi t)), (4, some (vi n4)), (5, some (vi from')), (6, some (vl b)), (8, some (vi (w : Int))), (9, some (vi ((j + 1 + 1 : Nat) : Int)))] ⟨Or.inl rfl, Or.inl rfl, Or.inl rfl, Or.inl rfl, Or.inl rfl, Or.inl rfl, Or.inl rfl, Or.inl rfl, Or.inl rfl, trivial⟩ ih2)
                  | (have hno : ¬ pOk a kd b w ((j + 1 : Nat) : Int) := pno _ (by assumption) (by first | rw [if_pos (by omega)] | rw [if_neg (by omega)])
                     rw [est, pS_no hno] at ih2
                     exact r_loc [(0, some (.ref m)), (1, some (vi kd)), (2, some (vi s)), (3, some (vi t)), (4, some (vi n4)), (5, some (vi from')), (6, some (vl b)), (8, some (vi (w : Int))), (9, some (vi ((j + 1 + 1 : Nat) : Int)))] ⟨Or.inl rfl, Or.inl rfl, Or.inl rfl, Or.inl rfl, Or.inl rfl, Or.inl rfl, Or.inl rfl, Or.inl rfl, Or.inl rfl, trivial⟩ ih2)
                  | (have hok : pOk a kd b w ((j + 1 : Nat) : Int) := pok _ (by assumption) (by first | rw [if_pos (by omega)] | rw [if_neg (by omega)]) (by omega)
                     rw [est, pS_up hok (show T1 = -1 ∨ stI a kd w ((j + 1 : Nat) : Int) < T1 by omega)] at ih2
                     rw [ps_put_put, ps_put_put, ps_put_put]
                     exact r_loc [(0, some (.ref m)), (1, some (vi kd)), (2, some (vi s)), (3, some (vi t)), (4, some (vi n4)), (5, some (vi from')), (6, some (vl b)), (8, some (vi (w : Int))), (9, some (vi ((j + 1 + 1 : Nat) : Int)))] ⟨Or.inl rfl, Or.inl rfl, Or.inl rfl, Or.inl rfl, Or.inl rfl, Or.inl rfl, Or.inl rfl, Or.inl rfl, Or.inl rfl, trivial⟩ ih2)
                  | (rw [est, pS_st (show ¬ (T1 = -1 ∨ stI a kd w ((j + 1 : Nat) : Int) < T1) by omega)] at ih2
                     exact r_loc [(0, some (.ref m)), (1, some (vi kd)), (2, some (vi s)), (3, some (vi t)), (4, some (vi n4)), (5, some (vi from')), (6, some (vl b)), (8, some (vi (w : Int))), (9, some (vi ((j + 1 + 1 : Nat) : Int)))] ⟨Or.inl rfl, Or.inl rfl, Or.inl rfl, Or.inl rfl, Or.inl rfl, Or.inl rfl, Or.inl rfl, Or.inl rfl, Or.inl rfl, trivial⟩ ih2)
              · refine r_goto 147 dX10_laysPlans_126 (by decide) (r_iinc dX10_laysPlans_147 rfl rfl (r_goto 47 dX10_laysPlans_150 (by decide) ?_))
                first
                  | (have hno : ¬ pOk a kd b w ((j + 1 : Nat) : Int) := fun z => by have := z.1; omega
                     rw [est, pS_no hno] at ih2
                     exact r_loc [(0, some (.ref m)), (1, some (vi kd)), (2, some (vi s)), (3, some (vi t)), (4, some (vi n4)), (5, some (vi from')), (6, some (vl b)), (8, some (vi (w : Int))), (9, some (vi ((j + 1 + 1 : Nat) : Int)))] ⟨Or.inl rfl, Or.inl rfl, Or.inl rfl, Or.inl rfl, Or.inl rfl, Or.inl rfl, Or.inl rfl, Or.inl rfl, Or.inl rfl, trivial⟩ ih2)
                  | (have hno : ¬ pOk a kd b w ((j + 1 : Nat) : Int) := pno _ (by assumption) (by first | rw [if_pos (by omega)] | rw [if_neg (by omega)])
                     rw [est, pS_no hno] at ih2
                     exact r_loc [(0, some (.ref m)), (1, some (vi kd)), (2, some (vi s)), (3, some (vi t)), (4, some (vi n4)), (5, some (vi from')), (6, some (vl b)), (8, some (vi (w : Int))), (9, some (vi ((j + 1 + 1 : Nat) : Int)))] ⟨Or.inl rfl, Or.inl rfl, Or.inl rfl, Or.inl rfl, Or.inl rfl, Or.inl rfl, Or.inl rfl, Or.inl rfl, Or.inl rfl, trivial⟩ ih2)
                  | (have hok : pOk a kd b w ((j + 1 : Nat) : Int) := pok _ (by assumption) (by first | rw [if_pos (by omega)] | rw [if_neg (by omega)]) (by omega)
                     rw [est, pS_up hok (show T1 = -1 ∨ stI a kd w ((j + 1 : Nat) : Int) < T1 by omega)] at ih2
                     rw [ps_put_put, ps_put_put, ps_put_put]
                     exact r_loc [(0, some (.ref m)), (1, some (vi kd)), (2, some (vi s)), (3, some (vi t)), (4, some (vi n4)), (5, some (vi from')), (6, some (vl b)), (8, some (vi (w : Int))), (9, some (vi ((j + 1 + 1 : Nat) : Int)))] ⟨Or.inl rfl, Or.inl rfl, Or.inl rfl, Or.inl rfl, Or.inl rfl, Or.inl rfl, Or.inl rfl, Or.inl rfl, Or.inl rfl, trivial⟩ ih2)
                  | (rw [est, pS_st (show ¬ (T1 = -1 ∨ stI a kd w ((j + 1 : Nat) : Int) < T1) by omega)] at ih2
                     exact r_loc [(0, some (.ref m)), (1, some (vi kd)), (2, some (vi s)), (3, some (vi t)), (4, some (vi n4)), (5, some (vi from')), (6, some (vl b)), (8, some (vi (w : Int))), (9, some (vi ((j + 1 + 1 : Nat) : Int)))] ⟨Or.inl rfl, Or.inl rfl, Or.inl rfl, Or.inl rfl, Or.inl rfl, Or.inl rfl, Or.inl rfl, Or.inl rfl, Or.inl rfl, trivial⟩ ih2)
          · replace c4 := b2c_eq c4
            refine r_goto 147 dX10_laysPlans_95 (by decide) (r_iinc dX10_laysPlans_147 rfl rfl (r_goto 47 dX10_laysPlans_150 (by decide) ?_))
            first
              | (have hno : ¬ pOk a kd b w ((j + 1 : Nat) : Int) := fun z => by have := z.1; omega
                 rw [est, pS_no hno] at ih2
                 exact r_loc [(0, some (.ref m)), (1, some (vi kd)), (2, some (vi s)), (3, some (vi t)), (4, some (vi n4)), (5, some (vi from')), (6, some (vl b)), (8, some (vi (w : Int))), (9, some (vi ((j + 1 + 1 : Nat) : Int)))] ⟨Or.inl rfl, Or.inl rfl, Or.inl rfl, Or.inl rfl, Or.inl rfl, Or.inl rfl, Or.inl rfl, Or.inl rfl, Or.inl rfl, trivial⟩ ih2)
              | (have hno : ¬ pOk a kd b w ((j + 1 : Nat) : Int) := pno _ (by assumption) (by first | rw [if_pos (by omega)] | rw [if_neg (by omega)])
                 rw [est, pS_no hno] at ih2
                 exact r_loc [(0, some (.ref m)), (1, some (vi kd)), (2, some (vi s)), (3, some (vi t)), (4, some (vi n4)), (5, some (vi from')), (6, some (vl b)), (8, some (vi (w : Int))), (9, some (vi ((j + 1 + 1 : Nat) : Int)))] ⟨Or.inl rfl, Or.inl rfl, Or.inl rfl, Or.inl rfl, Or.inl rfl, Or.inl rfl, Or.inl rfl, Or.inl rfl, Or.inl rfl, trivial⟩ ih2)
              | (have hok : pOk a kd b w ((j + 1 : Nat) : Int) := pok _ (by assumption) (by first | rw [if_pos (by omega)] | rw [if_neg (by omega)]) (by omega)
                 rw [est, pS_up hok (show T1 = -1 ∨ stI a kd w ((j + 1 : Nat) : Int) < T1 by omega)] at ih2
                 rw [ps_put_put, ps_put_put, ps_put_put]
                 exact r_loc [(0, some (.ref m)), (1, some (vi kd)), (2, some (vi s)), (3, some (vi t)), (4, some (vi n4)), (5, some (vi from')), (6, some (vl b)), (8, some (vi (w : Int))), (9, some (vi ((j + 1 + 1 : Nat) : Int)))] ⟨Or.inl rfl, Or.inl rfl, Or.inl rfl, Or.inl rfl, Or.inl rfl, Or.inl rfl, Or.inl rfl, Or.inl rfl, Or.inl rfl, trivial⟩ ih2)
              | (rw [est, pS_st (show ¬ (T1 = -1 ∨ stI a kd w ((j + 1 : Nat) : Int) < T1) by omega)] at ih2
                 exact r_loc [(0, some (.ref m)), (1, some (vi kd)), (2, some (vi s)), (3, some (vi t)), (4, some (vi n4)), (5, some (vi from')), (6, some (vl b)), (8, some (vi (w : Int))), (9, some (vi ((j + 1 + 1 : Nat) : Int)))] ⟨Or.inl rfl, Or.inl rfl, Or.inl rfl, Or.inl rfl, Or.inl rfl, Or.inl rfl, Or.inl rfl, Or.inl rfl, Or.inl rfl, trivial⟩ ih2)
        · refine r_iconst dX10_laysPlans_80 (r_iload dX10_laysPlans_81 rfl (r_imul dX10_laysPlans_83 (r_goto 89 dX10_laysPlans_84 (by decide) (c_vr dX10_laysPlans_89 (c_X10_allHave ps_same ha' hp (by omega) (by omega)) rfl rfl mq_X10_allHave ml_X10_234 ⟨Nat.le_of_ble_eq_true rfl, Nat.le_of_ble_eq_true rfl⟩ ps_same rfl rfl rfl (Nat.le_of_ble_eq_true rfl) ?_))))
          refine r_if_ne 98 dX10_laysPlans_92 (by decide) b2c_RI (fun c7 => ?_) (fun c7 => ?_)
          · replace c7 := b2c_ne c7
            refine r_aload_n dX10_laysPlans_98 (i := 0) rfl rfl (r_iload_n dX10_laysPlans_99 (i := 1) rfl rfl (r_iload dX10_laysPlans_100 rfl (r_iload dX10_laysPlans_102 rfl (c_vr dX10_laysPlans_104 (c_X10_stepsOf ps_same ha' hp (by omega) hkd hw) rfl rfl mq_X10_stepsOf ml_X10_276 ⟨Nat.le_of_ble_eq_true rfl, Nat.le_of_ble_eq_true rfl⟩ ps_same rfl rfl rfl (Nat.le_of_ble_eq_true rfl) ?_))))
            refine r_istore dX10_laysPlans_107 rfl (Nat.le_of_ble_eq_true rfl) (r_aload_n dX10_laysPlans_109 (i := 0) rfl rfl (r_get dX10_laysPlans_110 fl_X10_273 ps_same rfl (r_iconst dX10_laysPlans_113 ?_)))
            refine r_icmp_eq 129 dX10_laysPlans_114 (by decide) (by omega) (by omega) (fun c8 => ?_) (fun c8 => ?_)
            · refine r_aload_n dX10_laysPlans_129 (i := 0) rfl rfl (r_iload dX10_laysPlans_130 rfl (r_put dX10_laysPlans_132 fl_X10_273 ps_same rfl rfl (Nat.le_of_ble_eq_true rfl) (r_aload_n dX10_laysPlans_135 (i := 0) rfl rfl (r_iload dX10_laysPlans_136 rfl ?_))))
              refine r_put dX10_laysPlans_138 fl_X10_279 ps_same rfl rfl (Nat.le_of_ble_eq_true rfl) (r_aload_n dX10_laysPlans_141 (i := 0) rfl rfl (r_iload dX10_laysPlans_142 rfl (r_put dX10_laysPlans_144 fl_X10_282 ps_same rfl rfl (Nat.le_of_ble_eq_true rfl) (r_iinc dX10_laysPlans_147 rfl rfl ?_))))
              refine r_goto 47 dX10_laysPlans_150 (by decide) ?_
              first
                | (have hno : ¬ pOk a kd b w ((j + 1 : Nat) : Int) := fun z => by have := z.1; omega
                   rw [est, pS_no hno] at ih2
                   exact r_loc [(0, some (.ref m)), (1, some (vi kd)), (2, some (vi s)), (3, some (vi t)), (4, some (vi n4)), (5, some (vi from')), (6, some (vl b)), (8, some (vi (w : Int))), (9, some (vi ((j + 1 + 1 : Nat) : Int)))] ⟨Or.inl rfl, Or.inl rfl, Or.inl rfl, Or.inl rfl, Or.inl rfl, Or.inl rfl, Or.inl rfl, Or.inl rfl, Or.inl rfl, trivial⟩ ih2)
                | (have hno : ¬ pOk a kd b w ((j + 1 : Nat) : Int) := pno _ (by assumption) (by first | rw [if_pos (by omega)] | rw [if_neg (by omega)])
                   rw [est, pS_no hno] at ih2
                   exact r_loc [(0, some (.ref m)), (1, some (vi kd)), (2, some (vi s)), (3, some (vi t)), (4, some (vi n4)), (5, some (vi from')), (6, some (vl b)), (8, some (vi (w : Int))), (9, some (vi ((j + 1 + 1 : Nat) : Int)))] ⟨Or.inl rfl, Or.inl rfl, Or.inl rfl, Or.inl rfl, Or.inl rfl, Or.inl rfl, Or.inl rfl, Or.inl rfl, Or.inl rfl, trivial⟩ ih2)
                | (have hok : pOk a kd b w ((j + 1 : Nat) : Int) := pok _ (by assumption) (by first | rw [if_pos (by omega)] | rw [if_neg (by omega)]) (by omega)
                   rw [est, pS_up hok (show T1 = -1 ∨ stI a kd w ((j + 1 : Nat) : Int) < T1 by omega)] at ih2
                   rw [ps_put_put, ps_put_put, ps_put_put]
                   exact r_loc [(0, some (.ref m)), (1, some (vi kd)), (2, some (vi s)), (3, some (vi t)), (4, some (vi n4)), (5, some (vi from')), (6, some (vl b)), (8, some (vi (w : Int))), (9, some (vi ((j + 1 + 1 : Nat) : Int)))] ⟨Or.inl rfl, Or.inl rfl, Or.inl rfl, Or.inl rfl, Or.inl rfl, Or.inl rfl, Or.inl rfl, Or.inl rfl, Or.inl rfl, trivial⟩ ih2)
                | (rw [est, pS_st (show ¬ (T1 = -1 ∨ stI a kd w ((j + 1 : Nat) : Int) < T1) by omega)] at ih2
                   exact r_loc [(0, some (.ref m)), (1, some (vi kd)), (2, some (vi s)), (3, some (vi t)), (4, some (vi n4)), (5, some (vi from')), (6, some (vl b)), (8, some (vi (w : Int))), (9, some (vi ((j + 1 + 1 : Nat) : Int)))] ⟨Or.inl rfl, Or.inl rfl, Or.inl rfl, Or.inl rfl, Or.inl rfl, Or.inl rfl, Or.inl rfl, Or.inl rfl, Or.inl rfl, trivial⟩ ih2)
            · refine r_iload dX10_laysPlans_117 rfl (r_aload_n dX10_laysPlans_119 (i := 0) rfl rfl (r_get dX10_laysPlans_120 fl_X10_273 ps_same rfl ?_))
              refine r_icmp_lt 129 dX10_laysPlans_123 (by decide) (by omega) (by omega) (fun c9 => ?_) (fun c9 => ?_)
              · refine r_aload_n dX10_laysPlans_129 (i := 0) rfl rfl (r_iload dX10_laysPlans_130 rfl (r_put dX10_laysPlans_132 fl_X10_273 ps_same rfl rfl (Nat.le_of_ble_eq_true rfl) (r_aload_n dX10_laysPlans_135 (i := 0) rfl rfl (r_iload dX10_laysPlans_136 rfl ?_))))
                refine r_put dX10_laysPlans_138 fl_X10_279 ps_same rfl rfl (Nat.le_of_ble_eq_true rfl) (r_aload_n dX10_laysPlans_141 (i := 0) rfl rfl (r_iload dX10_laysPlans_142 rfl (r_put dX10_laysPlans_144 fl_X10_282 ps_same rfl rfl (Nat.le_of_ble_eq_true rfl) (r_iinc dX10_laysPlans_147 rfl rfl ?_))))
                refine r_goto 47 dX10_laysPlans_150 (by decide) ?_
                first
                  | (have hno : ¬ pOk a kd b w ((j + 1 : Nat) : Int) := fun z => by have := z.1; omega
                     rw [est, pS_no hno] at ih2
                     exact r_loc [(0, some (.ref m)), (1, some (vi kd)), (2, some (vi s)), (3, some (vi t)), (4, some (vi n4)), (5, some (vi from')), (6, some (vl b)), (8, some (vi (w : Int))), (9, some (vi ((j + 1 + 1 : Nat) : Int)))] ⟨Or.inl rfl, Or.inl rfl, Or.inl rfl, Or.inl rfl, Or.inl rfl, Or.inl rfl, Or.inl rfl, Or.inl rfl, Or.inl rfl, trivial⟩ ih2)
                  | (have hno : ¬ pOk a kd b w ((j + 1 : Nat) : Int) := pno _ (by assumption) (by first | rw [if_pos (by omega)] | rw [if_neg (by omega)])
                     rw [est, pS_no hno] at ih2
                     exact r_loc [(0, some (.ref m)), (1, some (vi kd)), (2, some (vi s)), (3, some (vi t)), (4, some (vi n4)), (5, some (vi from')), (6, some (vl b)), (8, some (vi (w : Int))), (9, some (vi ((j + 1 + 1 : Nat) : Int)))] ⟨Or.inl rfl, Or.inl rfl, Or.inl rfl, Or.inl rfl, Or.inl rfl, Or.inl rfl, Or.inl rfl, Or.inl rfl, Or.inl rfl, trivial⟩ ih2)
                  | (have hok : pOk a kd b w ((j + 1 : Nat) : Int) := pok _ (by assumption) (by first | rw [if_pos (by omega)] | rw [if_neg (by omega)]) (by omega)
                     rw [est, pS_up hok (show T1 = -1 ∨ stI a kd w ((j + 1 : Nat) : Int) < T1 by omega)] at ih2
                     rw [ps_put_put, ps_put_put, ps_put_put]
                     exact r_loc [(0, some (.ref m)), (1, some (vi kd)), (2, some (vi s)), (3, some (vi t)), (4, some (vi n4)), (5, some (vi from')), (6, some (vl b)), (8, some (vi (w : Int))), (9, some (vi ((j + 1 + 1 : Nat) : Int)))] ⟨Or.inl rfl, Or.inl rfl, Or.inl rfl, Or.inl rfl, Or.inl rfl, Or.inl rfl, Or.inl rfl, Or.inl rfl, Or.inl rfl, trivial⟩ ih2)
                  | (rw [est, pS_st (show ¬ (T1 = -1 ∨ stI a kd w ((j + 1 : Nat) : Int) < T1) by omega)] at ih2
                     exact r_loc [(0, some (.ref m)), (1, some (vi kd)), (2, some (vi s)), (3, some (vi t)), (4, some (vi n4)), (5, some (vi from')), (6, some (vl b)), (8, some (vi (w : Int))), (9, some (vi ((j + 1 + 1 : Nat) : Int)))] ⟨Or.inl rfl, Or.inl rfl, Or.inl rfl, Or.inl rfl, Or.inl rfl, Or.inl rfl, Or.inl rfl, Or.inl rfl, Or.inl rfl, trivial⟩ ih2)
              · refine r_goto 147 dX10_laysPlans_126 (by decide) (r_iinc dX10_laysPlans_147 rfl rfl (r_goto 47 dX10_laysPlans_150 (by decide) ?_))
                first
                  | (have hno : ¬ pOk a kd b w ((j + 1 : Nat) : Int) := fun z => by have := z.1; omega
                     rw [est, pS_no hno] at ih2
                     exact r_loc [(0, some (.ref m)), (1, some (vi kd)), (2, some (vi s)), (3, some (vi t)), (4, some (vi n4)), (5, some (vi from')), (6, some (vl b)), (8, some (vi (w : Int))), (9, some (vi ((j + 1 + 1 : Nat) : Int)))] ⟨Or.inl rfl, Or.inl rfl, Or.inl rfl, Or.inl rfl, Or.inl rfl, Or.inl rfl, Or.inl rfl, Or.inl rfl, Or.inl rfl, trivial⟩ ih2)
                  | (have hno : ¬ pOk a kd b w ((j + 1 : Nat) : Int) := pno _ (by assumption) (by first | rw [if_pos (by omega)] | rw [if_neg (by omega)])
                     rw [est, pS_no hno] at ih2
                     exact r_loc [(0, some (.ref m)), (1, some (vi kd)), (2, some (vi s)), (3, some (vi t)), (4, some (vi n4)), (5, some (vi from')), (6, some (vl b)), (8, some (vi (w : Int))), (9, some (vi ((j + 1 + 1 : Nat) : Int)))] ⟨Or.inl rfl, Or.inl rfl, Or.inl rfl, Or.inl rfl, Or.inl rfl, Or.inl rfl, Or.inl rfl, Or.inl rfl, Or.inl rfl, trivial⟩ ih2)
                  | (have hok : pOk a kd b w ((j + 1 : Nat) : Int) := pok _ (by assumption) (by first | rw [if_pos (by omega)] | rw [if_neg (by omega)]) (by omega)
                     rw [est, pS_up hok (show T1 = -1 ∨ stI a kd w ((j + 1 : Nat) : Int) < T1 by omega)] at ih2
                     rw [ps_put_put, ps_put_put, ps_put_put]
                     exact r_loc [(0, some (.ref m)), (1, some (vi kd)), (2, some (vi s)), (3, some (vi t)), (4, some (vi n4)), (5, some (vi from')), (6, some (vl b)), (8, some (vi (w : Int))), (9, some (vi ((j + 1 + 1 : Nat) : Int)))] ⟨Or.inl rfl, Or.inl rfl, Or.inl rfl, Or.inl rfl, Or.inl rfl, Or.inl rfl, Or.inl rfl, Or.inl rfl, Or.inl rfl, trivial⟩ ih2)
                  | (rw [est, pS_st (show ¬ (T1 = -1 ∨ stI a kd w ((j + 1 : Nat) : Int) < T1) by omega)] at ih2
                     exact r_loc [(0, some (.ref m)), (1, some (vi kd)), (2, some (vi s)), (3, some (vi t)), (4, some (vi n4)), (5, some (vi from')), (6, some (vl b)), (8, some (vi (w : Int))), (9, some (vi ((j + 1 + 1 : Nat) : Int)))] ⟨Or.inl rfl, Or.inl rfl, Or.inl rfl, Or.inl rfl, Or.inl rfl, Or.inl rfl, Or.inl rfl, Or.inl rfl, Or.inl rfl, trivial⟩ ih2)
          · replace c7 := b2c_eq c7
            refine r_goto 147 dX10_laysPlans_95 (by decide) (r_iinc dX10_laysPlans_147 rfl rfl (r_goto 47 dX10_laysPlans_150 (by decide) ?_))
            first
              | (have hno : ¬ pOk a kd b w ((j + 1 : Nat) : Int) := fun z => by have := z.1; omega
                 rw [est, pS_no hno] at ih2
                 exact r_loc [(0, some (.ref m)), (1, some (vi kd)), (2, some (vi s)), (3, some (vi t)), (4, some (vi n4)), (5, some (vi from')), (6, some (vl b)), (8, some (vi (w : Int))), (9, some (vi ((j + 1 + 1 : Nat) : Int)))] ⟨Or.inl rfl, Or.inl rfl, Or.inl rfl, Or.inl rfl, Or.inl rfl, Or.inl rfl, Or.inl rfl, Or.inl rfl, Or.inl rfl, trivial⟩ ih2)
              | (have hno : ¬ pOk a kd b w ((j + 1 : Nat) : Int) := pno _ (by assumption) (by first | rw [if_pos (by omega)] | rw [if_neg (by omega)])
                 rw [est, pS_no hno] at ih2
                 exact r_loc [(0, some (.ref m)), (1, some (vi kd)), (2, some (vi s)), (3, some (vi t)), (4, some (vi n4)), (5, some (vi from')), (6, some (vl b)), (8, some (vi (w : Int))), (9, some (vi ((j + 1 + 1 : Nat) : Int)))] ⟨Or.inl rfl, Or.inl rfl, Or.inl rfl, Or.inl rfl, Or.inl rfl, Or.inl rfl, Or.inl rfl, Or.inl rfl, Or.inl rfl, trivial⟩ ih2)
              | (have hok : pOk a kd b w ((j + 1 : Nat) : Int) := pok _ (by assumption) (by first | rw [if_pos (by omega)] | rw [if_neg (by omega)]) (by omega)
                 rw [est, pS_up hok (show T1 = -1 ∨ stI a kd w ((j + 1 : Nat) : Int) < T1 by omega)] at ih2
                 rw [ps_put_put, ps_put_put, ps_put_put]
                 exact r_loc [(0, some (.ref m)), (1, some (vi kd)), (2, some (vi s)), (3, some (vi t)), (4, some (vi n4)), (5, some (vi from')), (6, some (vl b)), (8, some (vi (w : Int))), (9, some (vi ((j + 1 + 1 : Nat) : Int)))] ⟨Or.inl rfl, Or.inl rfl, Or.inl rfl, Or.inl rfl, Or.inl rfl, Or.inl rfl, Or.inl rfl, Or.inl rfl, Or.inl rfl, trivial⟩ ih2)
              | (rw [est, pS_st (show ¬ (T1 = -1 ∨ stI a kd w ((j + 1 : Nat) : Int) < T1) by omega)] at ih2
                 exact r_loc [(0, some (.ref m)), (1, some (vi kd)), (2, some (vi s)), (3, some (vi t)), (4, some (vi n4)), (5, some (vi from')), (6, some (vl b)), (8, some (vi (w : Int))), (9, some (vi ((j + 1 + 1 : Nat) : Int)))] ⟨Or.inl rfl, Or.inl rfl, Or.inl rfl, Or.inl rfl, Or.inl rfl, Or.inl rfl, Or.inl rfl, Or.inl rfl, Or.inl rfl, trivial⟩ ih2)
end MOBJ5

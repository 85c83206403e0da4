/-! the model's face: questions that change nothing, part 4 -/
theorem horn {P s by' fj T : Int} (hs : s % P = T % P) : (s * by' + fj % P) % P = (fj + by' * T) % P := by
  rw [Int.add_emod, Int.mul_emod, hs, ← Int.mul_emod, Int.emod_emod_of_dvd _ (Int.dvd_refl P), ← Int.add_emod, Int.add_comm, Int.mul_comm]
theorem sfx_mod (f : Int → Int) (x P : Int) : ∀ (m : Nat) (j : Int), sfx f x m j % P = sfx f (x % P) m j % P
  | 0, _ => rfl
  | m + 1, j => by
    have ih := sfx_mod f x P m (j + 1)
    show (f j + x * sfx f x m (j + 1)) % P = (f j + x % P * sfx f (x % P) m (j + 1)) % P
    rw [Int.add_emod, Int.mul_emod, ih, ← Int.mul_emod, ← Int.add_emod, Int.add_emod (f j) (x % P * _), Int.mul_emod (x % P), Int.emod_emod_of_dvd _ (Int.dvd_refl P), ← Int.mul_emod, ← Int.add_emod]
def kTrans (a : Int → Int) (q s n k : Int) : Int := if 0 ≤ s ∧ s ≤ 3 then noTrI a q n (b2i (0 ≤ k ∧ k ≤ n - 1)) else 1
noncomputable def vTrans (a : Int → Int) (q s n k : Int) : Int := sfx (tmF a s) (pwI (rtI (pN a q) n.toNat) k.toNat (pN a q)) (a (7 + s)).toNat 0 % (pN a q : Int)
noncomputable def kPlan (a : Int → Int) (kd s t n w : Int) : Int := if refI a kd s t n = 0 then (if 0 ≤ w ∧ w ≤ 2 then 0 else 3) else refI a kd s t n
/-- the best plan with transforms; -1 first if there is none -/
noncomputable def plT (a : Int → Int) (kd s t n : Int) : Int × Int × Int := pW a kd (bndI a s t) (sizI a kd s t n).toNat (-1, 0, 0) (pCn kd (sizI a kd s t n).toNat)
def byS (a : Int → Int) (s t : Int) (T : Int × Int × Int) : Prop := T.1 = -1 ∨ a (7 + s) * a (7 + t) ≤ T.1
noncomputable def vPlan (a : Int → Int) (kd s t n w : Int) : Int := if b2c (byS a s t (plT a kd s t n)) = 1 then (if w = 0 then a (7 + s) * a (7 + t) else 0) else (if w = 0 then (plT a kd s t n).1 else if w = 1 then (plT a kd s t n).2.1 else (plT a kd s t n).2.2)
def pRel (t t' : Int × Int × Int) : Prop := t.1 = t'.1 ∧ (t.1 ≠ -1 → t = t')
theorem pS_rel {a : Int → Int} {kd b : Int} {w : Nat} {set : Int} {t t' : Int × Int × Int} (h : pRel t t') : pRel (pS a kd b w set t) (pS a kd b w set t') := by
  unfold pS
  rw [← h.1]
  split
  · exact ⟨rfl, fun _ => rfl⟩
  · exact h
theorem pSs_rel {a : Int → Int} {kd b : Int} {w : Nat} {t t' : Int × Int × Int} (h : pRel t t') : ∀ k, pRel (pSs a kd b w t k) (pSs a kd b w t' k)
  | 0 => h
  | k + 1 => pS_rel (pSs_rel h k)
theorem pW_rel {a : Int → Int} {kd b : Int} {w : Nat} {t t' : Int × Int × Int} (h : pRel t t') : ∀ c, pRel (pW a kd b w t c) (pW a kd b w t' c)
  | 0 => h
  | c + 1 => pSs_rel (pW_rel h c) _
def bpS (a : Int → Int) : Nat → Int
  | 0 => 1
  | i + 1 => bpS a i * a (145 + (i : Int))
def MV (a : Int → Int) : Prop := (a 139 = 0 ∨ a 139 = 1) ∧ (0 ≤ a 143 ∧ a 143 ≤ 64) ∧ (a 139 = 0 → a 143 = 0) ∧ (a 139 = 1 → (0 ≤ a 140 ∧ a 140 ≤ 2) ∧ (1 ≤ a 141 ∧ a 141 ≤ 64) ∧ 1 ≤ a 143 ∧ (1 ≤ a 144 ∧ a 144 ≤ 6) ∧ (0 < a 142 ∧ a 142 < 64) ∧ (∀ i : Int, 0 ≤ i → i < a 144 → 3 ≤ a (145 + i) ∧ a (145 + i) ≤ 100003 ∧ Pr (a (145 + i)).toNat) ∧ bpS a (a 144).toNat ≤ 4000000000000000000 ∧ ∀ k : Int, 0 ≤ k → k < a 143 → -(bpS a (a 144).toNat) ≤ 2 * a (151 + k) ∧ 2 * a (151 + k) ≤ bpS a (a 144).toNat)
def kHas (a : Int → Int) (p : Prop) [Decidable p] : Int := if a 139 = 0 then 1 else if p then 0 else 2
def vProd (a : Int → Int) (w : Int) : Int := if w = 0 then a 143 else if w = 1 then a 142 else if w = 2 then a 140 else a 141
def kRes (a : Int → Int) (q k : Int) : Int := if 0 ≤ q ∧ q ≤ a 0 - 1 then (if a 139 = 0 then 2 else if 0 ≤ k ∧ k ≤ a 143 - 1 then 0 else 3) else 1
def lft (a : Int → Int) (k : Int) : Nat → Int
  | 0 => if a (151 + k) < 0 then a (151 + k) + bpS a (a 144).toNat else a (151 + k)
  | i + 1 => lft a k i / a (145 + (i : Int))
theorem bpS_pos {a : Int → Int} {n : Int} (h : ∀ i : Int, 0 ≤ i → i < n → 3 ≤ a (145 + i) ∧ a (145 + i) ≤ 100003 ∧ Pr (a (145 + i)).toNat) : ∀ i : Nat, (i : Int) ≤ n → 1 ≤ bpS a i
  | 0, _ => Int.le_refl 1
  | i + 1, hi => by
    have h1 := bpS_pos h i (by omega)
    have h2 := h i (by omega) (by omega)
    have := Int.mul_le_mul_of_nonneg_left (show 1 ≤ a (145 + (i : Int)) by omega) (show 0 ≤ bpS a i by omega)
    show 1 ≤ bpS a i * a (145 + (i : Int))
    omega
theorem bpS_le {a : Int → Int} {n : Int} (h : ∀ i : Int, 0 ≤ i → i < n → 3 ≤ a (145 + i) ∧ a (145 + i) ≤ 100003 ∧ Pr (a (145 + i)).toNat) {i : Nat} : ∀ j : Nat, ((i + j : Nat) : Int) ≤ n → bpS a i ≤ bpS a (i + j)
  | 0, _ => Int.le_refl _
  | j + 1, hj => by
    have h1 := bpS_le h (i := i) j (by omega)
    have h2 := h ((i + j : Nat) : Int) (by omega) (by omega)
    have h3 := bpS_pos h (i + j) (by omega)
    have := Int.mul_le_mul_of_nonneg_left (show 1 ≤ a (145 + ((i + j : Nat) : Int)) by omega) (show 0 ≤ bpS a (i + j) by omega)
    show _ ≤ bpS a (i + j) * a (145 + ((i + j : Nat) : Int))
    omega
def agI (a : Int → Int) (s t : Int) : Nat → Int
  | 0 => 0
  | k + 1 => agI a s t k + b2i (cfI (a 140) (a 143) (k : Int) (tmF a s) (tmF a t) (a (7 + t)).toNat (a (7 + s)).toNat = a (151 + (k : Int)))
def kAgree (a : Int → Int) (s t : Int) : Int := if lacksI a s t = 1 then 1 else if a 139 = 0 ∨ lacksI a s t = 2 then 2 else 0
noncomputable def vAgree (a : Int → Int) (s t : Int) : Int := if b2c (kindOk a (a 140) s t (a 143) ∧ sizI a (a 140) s t (a 143) = a 143) = 1 then agI a s t (a 143).toNat else -1
section MFACE4
variable {g : GT} {S : PS} {mc ms : Nat} {Q : PO → PS → Prop} {kc ks : Nat} {m : Nat} {a : Int → Int} {fs : List Value} {km th bu sz at' be ki wr wa ea nu bs bw bt' : Int}
theorem c_X10_product {w : Int} (h : S.1 m = some (mO m km th bu sz at' be ki wr wa ea nu bs bw bt')) (ha : S.1 (m + 1) = some (cJ 215 a)) (hv : MV a) (hw : RI w) : PC g yX10_product cX10_product (iX10_product mc ms) [.ref m, vi w] S (mR S m (fun k => mO m km k bu sz at' be ki wr wa ea nu bs bw bt') (kHas a (0 ≤ w ∧ w ≤ 3)) (vi (vProd a w))) := by
  refine PC_of pnX10 rfl rfl rfl (Nat.le_of_ble_eq_true rfl) ?_
  have hv1 := hv.1
  refine r_aload_n dX10_product_0 (i := 0) rfl rfl (r_aload_n dX10_product_1 (i := 0) rfl rfl (r_get dX10_product_2 fl_X10_7 h rfl (r_sipush dX10_product_5 (by decide) (r_lald dX10_product_8 ha (by omega) (by omega) (by omega) ?_))))
  refine r_lconst (z := 0) dX10_product_9 (by decide) ?_
  refine r_lcmp_ne 18 dX10_product_10 dX10_product_11 (by decide) (by omega) (by omega) (fun c1 => ?_) (fun c1 => ?_)
  · refine r_iload_n dX10_product_18 (i := 1) rfl rfl (r_i2l dX10_product_19 (by omega) (r_lconst (z := 0) dX10_product_20 (by decide) (r_ldc2 dX10_product_21 csj_X10_137 (c_sr dX10_product_24 (c_X10_isIn ⟨by omega, by omega⟩ ⟨by omega, by omega⟩ ⟨by omega, by omega⟩) rfl rfl mq_X10_isIn ml_X10_46 ⟨Nat.le_of_ble_eq_true rfl, Nat.le_of_ble_eq_true rfl⟩ rfl rfl (Nat.le_of_ble_eq_true rfl) ?_))))
    refine r_if_eq 34 dX10_product_27 (by decide) b2i_RI (fun c2 => ?_) (fun c2 => ?_)
    · replace c2 := b2i_eq c2
      refine r_iconst dX10_product_34 (r_put dX10_product_35 fl_X10_30 h rfl rfl (Nat.le_of_ble_eq_true rfl) (r_aload_n dX10_product_38 (i := 0) rfl rfl (r_get dX10_product_39 fl_X10_30 ps_same rfl ?_)))
      refine r_if_le 47 dX10_product_42 (by decide) (by omega) (fun c3 => ?_) (fun c3 => ?_)
      · omega
      · refine r_iconst dX10_product_45 ?_
        refine r_iret dX10_product_46 rfl rfl ?_
        first
          | omega
          | exact mR_t (by unfold kHas; rw [if_pos (by omega)]) (by decide)
          | exact mR_t (by unfold kHas; rw [if_neg (by omega), if_neg (by omega)]) (by decide)
          | exact mR_0 (by unfold kHas; rw [if_neg (by omega), if_pos (by omega)]) (by unfold vProd; rw [if_pos (by omega)])
          | exact mR_0 (by unfold kHas; rw [if_neg (by omega), if_pos (by omega)]) (by unfold vProd; rw [if_neg (by omega), if_pos (by omega)])
          | exact mR_0 (by unfold kHas; rw [if_neg (by omega), if_pos (by omega)]) (by unfold vProd; rw [if_neg (by omega), if_neg (by omega), if_pos (by omega)])
          | exact mR_0 (by unfold kHas; rw [if_neg (by omega), if_pos (by omega)]) (by unfold vProd; rw [if_neg (by omega), if_neg (by omega), if_neg (by omega)])
    · replace c2 := b2i_ne c2
      refine r_iconst dX10_product_30 (r_goto 35 dX10_product_31 (by decide) (r_put dX10_product_35 fl_X10_30 h rfl rfl (Nat.le_of_ble_eq_true rfl) (r_aload_n dX10_product_38 (i := 0) rfl rfl (r_get dX10_product_39 fl_X10_30 ps_same rfl ?_))))
      refine r_if_le 47 dX10_product_42 (by decide) (by omega) (fun c4 => ?_) (fun c4 => ?_)
      · refine r_aload_n dX10_product_47 (i := 0) rfl rfl (r_get dX10_product_48 fl_X10_7 ps_same rfl (r_iload_n dX10_product_51 (i := 1) rfl rfl ?_))
        refine r_if_ne 61 dX10_product_52 (by decide) (by omega) (fun c5 => ?_) (fun c5 => ?_)
        · refine r_iload_n dX10_product_61 (i := 1) rfl rfl (r_iconst dX10_product_62 ?_)
          refine r_icmp_ne 72 dX10_product_63 (by decide) (by omega) (by omega) (fun c6 => ?_) (fun c6 => ?_)
          · refine r_iload_n dX10_product_72 (i := 1) rfl rfl (r_iconst dX10_product_73 ?_)
            refine r_icmp_ne 83 dX10_product_74 (by decide) (by omega) (by omega) (fun c7 => ?_) (fun c7 => ?_)
            · refine r_sipush dX10_product_83 (by decide) (r_lald dX10_product_86 (ps_ne (by omega) ha) (by omega) (by omega) (by omega) (r_l2i dX10_product_87 ?_))
              refine r_iret dX10_product_88 rfl rfl ?_
              first
                | omega
                | exact mR_t (by unfold kHas; rw [if_pos (by omega)]) (by decide)
                | exact mR_t (by unfold kHas; rw [if_neg (by omega), if_neg (by omega)]) (by decide)
                | exact mR_0 (by unfold kHas; rw [if_neg (by omega), if_pos (by omega)]) (by unfold vProd; rw [if_pos (by omega)])
                | exact mR_0 (by unfold kHas; rw [if_neg (by omega), if_pos (by omega)]) (by unfold vProd; rw [if_neg (by omega), if_pos (by omega)])
                | exact mR_0 (by unfold kHas; rw [if_neg (by omega), if_pos (by omega)]) (by unfold vProd; rw [if_neg (by omega), if_neg (by omega), if_pos (by omega)])
                | exact mR_0 (by unfold kHas; rw [if_neg (by omega), if_pos (by omega)]) (by unfold vProd; rw [if_neg (by omega), if_neg (by omega), if_neg (by omega)])
            · refine r_sipush dX10_product_77 (by decide) (r_goto 86 dX10_product_80 (by decide) (r_lald dX10_product_86 (ps_ne (by omega) ha) (by omega) (by omega) (by omega) (r_l2i dX10_product_87 ?_)))
              refine r_iret dX10_product_88 rfl rfl ?_
              first
                | omega
                | exact mR_t (by unfold kHas; rw [if_pos (by omega)]) (by decide)
                | exact mR_t (by unfold kHas; rw [if_neg (by omega), if_neg (by omega)]) (by decide)
                | exact mR_0 (by unfold kHas; rw [if_neg (by omega), if_pos (by omega)]) (by unfold vProd; rw [if_pos (by omega)])
                | exact mR_0 (by unfold kHas; rw [if_neg (by omega), if_pos (by omega)]) (by unfold vProd; rw [if_neg (by omega), if_pos (by omega)])
                | exact mR_0 (by unfold kHas; rw [if_neg (by omega), if_pos (by omega)]) (by unfold vProd; rw [if_neg (by omega), if_neg (by omega), if_pos (by omega)])
                | exact mR_0 (by unfold kHas; rw [if_neg (by omega), if_pos (by omega)]) (by unfold vProd; rw [if_neg (by omega), if_neg (by omega), if_neg (by omega)])
          · refine r_sipush dX10_product_66 (by decide) (r_goto 86 dX10_product_69 (by decide) (r_lald dX10_product_86 (ps_ne (by omega) ha) (by omega) (by omega) (by omega) (r_l2i dX10_product_87 ?_)))
            refine r_iret dX10_product_88 rfl rfl ?_
            first
              | omega
              | exact mR_t (by unfold kHas; rw [if_pos (by omega)]) (by decide)
              | exact mR_t (by unfold kHas; rw [if_neg (by omega), if_neg (by omega)]) (by decide)
              | exact mR_0 (by unfold kHas; rw [if_neg (by omega), if_pos (by omega)]) (by unfold vProd; rw [if_pos (by omega)])
              | exact mR_0 (by unfold kHas; rw [if_neg (by omega), if_pos (by omega)]) (by unfold vProd; rw [if_neg (by omega), if_pos (by omega)])
              | exact mR_0 (by unfold kHas; rw [if_neg (by omega), if_pos (by omega)]) (by unfold vProd; rw [if_neg (by omega), if_neg (by omega), if_pos (by omega)])
              | exact mR_0 (by unfold kHas; rw [if_neg (by omega), if_pos (by omega)]) (by unfold vProd; rw [if_neg (by omega), if_neg (by omega), if_neg (by omega)])
        · refine r_sipush dX10_product_55 (by decide) (r_goto 86 dX10_product_58 (by decide) (r_lald dX10_product_86 (ps_ne (by omega) ha) (by omega) (by omega) (by omega) (r_l2i dX10_product_87 ?_)))
          refine r_iret dX10_product_88 rfl rfl ?_
          first
            | omega
            | exact mR_t (by unfold kHas; rw [if_pos (by omega)]) (by decide)
            | exact mR_t (by unfold kHas; rw [if_neg (by omega), if_neg (by omega)]) (by decide)
            | exact mR_0 (by unfold kHas; rw [if_neg (by omega), if_pos (by omega)]) (by unfold vProd; rw [if_pos (by omega)])
            | exact mR_0 (by unfold kHas; rw [if_neg (by omega), if_pos (by omega)]) (by unfold vProd; rw [if_neg (by omega), if_pos (by omega)])
            | exact mR_0 (by unfold kHas; rw [if_neg (by omega), if_pos (by omega)]) (by unfold vProd; rw [if_neg (by omega), if_neg (by omega), if_pos (by omega)])
            | exact mR_0 (by unfold kHas; rw [if_neg (by omega), if_pos (by omega)]) (by unfold vProd; rw [if_neg (by omega), if_neg (by omega), if_neg (by omega)])
      · omega
  · refine r_iconst dX10_product_14 (r_goto 35 dX10_product_15 (by decide) (r_put dX10_product_35 fl_X10_30 h rfl rfl (Nat.le_of_ble_eq_true rfl) (r_aload_n dX10_product_38 (i := 0) rfl rfl (r_get dX10_product_39 fl_X10_30 ps_same rfl ?_))))
    refine r_if_le 47 dX10_product_42 (by decide) (by omega) (fun c8 => ?_) (fun c8 => ?_)
    · omega
    · refine r_iconst dX10_product_45 ?_
      refine r_iret dX10_product_46 rfl rfl ?_
      first
        | omega
        | exact mR_t (by unfold kHas; rw [if_pos (by omega)]) (by decide)
        | exact mR_t (by unfold kHas; rw [if_neg (by omega), if_neg (by omega)]) (by decide)
        | exact mR_0 (by unfold kHas; rw [if_neg (by omega), if_pos (by omega)]) (by unfold vProd; rw [if_pos (by omega)])
        | exact mR_0 (by unfold kHas; rw [if_neg (by omega), if_pos (by omega)]) (by unfold vProd; rw [if_neg (by omega), if_pos (by omega)])
        | exact mR_0 (by unfold kHas; rw [if_neg (by omega), if_pos (by omega)]) (by unfold vProd; rw [if_neg (by omega), if_neg (by omega), if_pos (by omega)])
        | exact mR_0 (by unfold kHas; rw [if_neg (by omega), if_pos (by omega)]) (by unfold vProd; rw [if_neg (by omega), if_neg (by omega), if_neg (by omega)])
theorem c_X10_value {k : Int} (h : S.1 m = some (mO m km th bu sz at' be ki wr wa ea nu bs bw bt')) (ha : S.1 (m + 1) = some (cJ 215 a)) (hv : MV a) (hk : RI k) : PC g yX10_value cX10_value (iX10_value mc ms) [.ref m, vi k] S (mR S m (fun k => mO m km k bu sz at' be ki wr wa ea nu bs bw bt') (kHas a (0 ≤ k ∧ k ≤ a 143 - 1)) (vl (a (151 + k)))) := by
  refine PC_of pnX10 rfl rfl rfl (Nat.le_of_ble_eq_true rfl) ?_
  have hv1 := hv.1
  have hv2 := hv.2.1
  refine r_aload_n dX10_value_0 (i := 0) rfl rfl (r_aload_n dX10_value_1 (i := 0) rfl rfl (r_get dX10_value_2 fl_X10_7 h rfl (r_sipush dX10_value_5 (by decide) (r_lald dX10_value_8 ha (by omega) (by omega) (by omega) ?_))))
  refine r_lconst (z := 0) dX10_value_9 (by decide) ?_
  refine r_lcmp_ne 18 dX10_value_10 dX10_value_11 (by decide) (by omega) (by omega) (fun c1 => ?_) (fun c1 => ?_)
  · refine r_iload_n dX10_value_18 (i := 1) rfl rfl (r_i2l dX10_value_19 (by omega) (r_lconst (z := 0) dX10_value_20 (by decide) (r_aload_n dX10_value_21 (i := 0) rfl rfl (r_get dX10_value_22 fl_X10_7 h rfl ?_))))
    refine r_sipush dX10_value_25 (by decide) (r_lald dX10_value_28 ha (by omega) (by omega) (by omega) (r_lconst (z := 1) dX10_value_29 (by decide) (r_lsub dX10_value_30 (c_sr dX10_value_31 (c_X10_isIn ⟨by omega, by omega⟩ ⟨by omega, by omega⟩ ⟨by omega, by omega⟩) rfl rfl mq_X10_isIn ml_X10_46 ⟨Nat.le_of_ble_eq_true rfl, Nat.le_of_ble_eq_true rfl⟩ rfl rfl (Nat.le_of_ble_eq_true rfl) ?_))))
    refine r_if_eq 41 dX10_value_34 (by decide) b2i_RI (fun c2 => ?_) (fun c2 => ?_)
    · replace c2 := b2i_eq c2
      refine r_iconst dX10_value_41 (r_put dX10_value_42 fl_X10_30 h rfl rfl (Nat.le_of_ble_eq_true rfl) (r_aload_n dX10_value_45 (i := 0) rfl rfl (r_get dX10_value_46 fl_X10_30 ps_same rfl ?_)))
      refine r_if_le 56 dX10_value_49 (by decide) (by omega) (fun c3 => ?_) (fun c3 => ?_)
      · omega
      · refine r_lconst (z := 0) dX10_value_52 (by decide) (r_goto 66 dX10_value_53 (by decide) ?_)
        refine r_lret dX10_value_66 rfl ?_
        first
          | omega
          | exact mR_t (by unfold kHas; rw [if_pos (by omega)]) (by decide)
          | exact mR_t (by unfold kHas; rw [if_neg (by omega), if_neg (by omega)]) (by decide)
          | exact mR_0 (by unfold kHas; rw [if_neg (by omega), if_pos (by omega)]) rfl
    · replace c2 := b2i_ne c2
      refine r_iconst dX10_value_37 (r_goto 42 dX10_value_38 (by decide) (r_put dX10_value_42 fl_X10_30 h rfl rfl (Nat.le_of_ble_eq_true rfl) (r_aload_n dX10_value_45 (i := 0) rfl rfl (r_get dX10_value_46 fl_X10_30 ps_same rfl ?_))))
      refine r_if_le 56 dX10_value_49 (by decide) (by omega) (fun c4 => ?_) (fun c4 => ?_)
      · refine r_aload_n dX10_value_56 (i := 0) rfl rfl (r_get dX10_value_57 fl_X10_7 ps_same rfl (r_sipush dX10_value_60 (by decide) (r_iload_n dX10_value_63 (i := 1) rfl rfl (r_iadd dX10_value_64 ?_))))
        refine r_lald dX10_value_65 (ps_ne (by omega) ha) (by omega) (by omega) (by omega) ?_
        refine r_lret dX10_value_66 rfl ?_
        first
          | omega
          | exact mR_t (by unfold kHas; rw [if_pos (by omega)]) (by decide)
          | exact mR_t (by unfold kHas; rw [if_neg (by omega), if_neg (by omega)]) (by decide)
          | exact mR_0 (by unfold kHas; rw [if_neg (by omega), if_pos (by omega)]) rfl
      · omega
  · refine r_iconst dX10_value_14 (r_goto 42 dX10_value_15 (by decide) (r_put dX10_value_42 fl_X10_30 h rfl rfl (Nat.le_of_ble_eq_true rfl) (r_aload_n dX10_value_45 (i := 0) rfl rfl (r_get dX10_value_46 fl_X10_30 ps_same rfl ?_))))
    refine r_if_le 56 dX10_value_49 (by decide) (by omega) (fun c5 => ?_) (fun c5 => ?_)
    · omega
    · refine r_lconst (z := 0) dX10_value_52 (by decide) (r_goto 66 dX10_value_53 (by decide) ?_)
      refine r_lret dX10_value_66 rfl ?_
      first
        | omega
        | exact mR_t (by unfold kHas; rw [if_pos (by omega)]) (by decide)
        | exact mR_t (by unfold kHas; rw [if_neg (by omega), if_neg (by omega)]) (by decide)
        | exact mR_0 (by unfold kHas; rw [if_neg (by omega), if_pos (by omega)]) rfl
theorem has_1 {a : Int → Int} (hv : MV a) (h : ¬ a 139 = 0) : a 139 = 1 := by
  have := hv.1
  omega
theorem val_RJ {a : Int → Int} (hv : MV a) {k : Int} (h0 : 0 ≤ k) (h : k < a 143) : -2000000000000000000 ≤ a (151 + k) ∧ a (151 + k) ≤ 2000000000000000000 := by
  have h1 : ¬ a 139 = 0 := fun z => by have := hv.2.2.1 z; omega
  obtain ⟨-, -, -, -, -, -, e1, e2⟩ := hv.2.2.2 (has_1 hv h1)
  have := e2 k h0 h
  omega
theorem c_X10_residue {q k : Int} (h : S.1 m = some (mO m km th bu sz at' be ki wr wa ea nu bs bw bt')) (ha : S.1 (m + 1) = some (cJ 215 a)) (hp : MP a) (hv : MV a) (hq : RI q) (hk : RI k) : PC g yX10_residue cX10_residue (iX10_residue mc ms) [.ref m, vi q, vi k] S (mR S m (fun k => mO m km k bu sz at' be ki wr wa ea nu bs bw bt') (kRes a q k) (vi (a (151 + k) % (pN a q : Int)))) := by
  refine PC_of pnX10 rfl rfl rfl (Nat.le_of_ble_eq_true rfl) ?_
  have h0 := hp.1
  have hv1 := hv.1
  have hv2 := hv.2.1
  refine r_aload_n dX10_residue_0 (i := 0) rfl rfl (r_aload_n dX10_residue_1 (i := 0) rfl rfl (r_iload_n dX10_residue_2 (i := 1) rfl rfl (c_vr dX10_residue_3 (c_X10_isThere h ha h0 hq) rfl rfl mq_X10_isThere ml_X10_146 ⟨Nat.le_of_ble_eq_true rfl, Nat.le_of_ble_eq_true rfl⟩ h rfl rfl rfl (Nat.le_of_ble_eq_true rfl) ?_)))
  refine r_if_ne 13 dX10_residue_6 (by decide) b2i_RI (fun c1 => ?_) (fun c1 => ?_)
  · replace c1 := b2i_ne c1
    refine r_aload_n dX10_residue_13 (i := 0) rfl rfl (r_get dX10_residue_14 fl_X10_7 h rfl (r_sipush dX10_residue_17 (by decide) (r_lald dX10_residue_20 ha (by omega) (by omega) (by omega) (r_lconst (z := 0) dX10_residue_21 (by decide) ?_))))
    refine r_lcmp_ne 30 dX10_residue_22 dX10_residue_23 (by decide) (by omega) (by omega) (fun c2 => ?_) (fun c2 => ?_)
    · refine r_iload_n dX10_residue_30 (i := 2) rfl rfl (r_i2l dX10_residue_31 (by omega) (r_lconst (z := 0) dX10_residue_32 (by decide) (r_aload_n dX10_residue_33 (i := 0) rfl rfl (r_get dX10_residue_34 fl_X10_7 h rfl ?_))))
      refine r_sipush dX10_residue_37 (by decide) (r_lald dX10_residue_40 ha (by omega) (by omega) (by omega) (r_lconst (z := 1) dX10_residue_41 (by decide) (r_lsub dX10_residue_42 (c_sr dX10_residue_43 (c_X10_isIn ⟨by omega, by omega⟩ ⟨by omega, by omega⟩ ⟨by omega, by omega⟩) rfl rfl mq_X10_isIn ml_X10_46 ⟨Nat.le_of_ble_eq_true rfl, Nat.le_of_ble_eq_true rfl⟩ rfl rfl (Nat.le_of_ble_eq_true rfl) ?_))))
      refine r_if_eq 53 dX10_residue_46 (by decide) b2i_RI (fun c3 => ?_) (fun c3 => ?_)
      · replace c3 := b2i_eq c3
        refine r_iconst dX10_residue_53 (r_put dX10_residue_54 fl_X10_30 h rfl rfl (Nat.le_of_ble_eq_true rfl) (r_aload_n dX10_residue_57 (i := 0) rfl rfl (r_get dX10_residue_58 fl_X10_30 ps_same rfl ?_)))
        refine r_if_le 68 dX10_residue_61 (by decide) (by omega) (fun c4 => ?_) (fun c4 => ?_)
        · omega
        · refine r_iconst dX10_residue_64 (r_goto 86 dX10_residue_65 (by decide) ?_)
          refine r_iret dX10_residue_86 rfl rfl ?_
          first
            | omega
            | exact mR_t (by unfold kRes; rw [if_neg (by omega)]) (by decide)
            | exact mR_t (by unfold kRes; rw [if_pos (by omega), if_pos (by omega)]) (by decide)
            | exact mR_t (by unfold kRes; rw [if_pos (by omega), if_neg (by omega), if_neg (by omega)]) (by decide)
            | exact mR_0 (by unfold kRes; rw [if_pos (by omega), if_neg (by omega), if_pos (by omega)]) rfl
      · replace c3 := b2i_ne c3
        refine r_iconst dX10_residue_49 (r_goto 54 dX10_residue_50 (by decide) (r_put dX10_residue_54 fl_X10_30 h rfl rfl (Nat.le_of_ble_eq_true rfl) (r_aload_n dX10_residue_57 (i := 0) rfl rfl (r_get dX10_residue_58 fl_X10_30 ps_same rfl ?_))))
        refine r_if_le 68 dX10_residue_61 (by decide) (by omega) (fun c5 => ?_) (fun c5 => ?_)
        · obtain ⟨hpa, hpr, hpp⟩ := pN_ok hp (q := q) (by omega)
          have hvr := val_RJ hv (k := k) (by omega) (by omega)
          refine r_aload_n dX10_residue_68 (i := 0) rfl rfl (r_get dX10_residue_69 fl_X10_7 ps_same rfl (r_sipush dX10_residue_72 (by decide) (r_iload_n dX10_residue_75 (i := 2) rfl rfl (r_iadd dX10_residue_76 ?_))))
          refine r_lald dX10_residue_77 (ps_ne (by omega) ha) (by omega) (by omega) (by omega) (r_aload_n dX10_residue_78 (i := 0) rfl rfl (r_iload_n dX10_residue_79 (i := 1) rfl rfl (c_vr dX10_residue_80 (c_X10_primeAt ps_same (ps_ne (by omega) ha) (by omega)) rfl rfl mq_X10_primeAt ml_X10_165 ⟨Nat.le_of_ble_eq_true rfl, Nat.le_of_ble_eq_true rfl⟩ ps_same rfl rfl rfl (Nat.le_of_ble_eq_true rfl) ?_)))
          rw [hpa]
          refine c_sr dX10_residue_83 (c_X10_modulo ⟨by omega, by omega⟩ (by omega)) rfl rfl mq_X10_modulo ml_X10_187 ⟨Nat.le_of_ble_eq_true rfl, Nat.le_of_ble_eq_true rfl⟩ rfl rfl (Nat.le_of_ble_eq_true rfl) ?_
          refine r_iret dX10_residue_86 rfl rfl ?_
          first
            | omega
            | exact mR_t (by unfold kRes; rw [if_neg (by omega)]) (by decide)
            | exact mR_t (by unfold kRes; rw [if_pos (by omega), if_pos (by omega)]) (by decide)
            | exact mR_t (by unfold kRes; rw [if_pos (by omega), if_neg (by omega), if_neg (by omega)]) (by decide)
            | exact mR_0 (by unfold kRes; rw [if_pos (by omega), if_neg (by omega), if_pos (by omega)]) rfl
        · omega
    · refine r_iconst dX10_residue_26 (r_goto 54 dX10_residue_27 (by decide) (r_put dX10_residue_54 fl_X10_30 h rfl rfl (Nat.le_of_ble_eq_true rfl) (r_aload_n dX10_residue_57 (i := 0) rfl rfl (r_get dX10_residue_58 fl_X10_30 ps_same rfl ?_))))
      refine r_if_le 68 dX10_residue_61 (by decide) (by omega) (fun c6 => ?_) (fun c6 => ?_)
      · omega
      · refine r_iconst dX10_residue_64 (r_goto 86 dX10_residue_65 (by decide) ?_)
        refine r_iret dX10_residue_86 rfl rfl ?_
        first
          | omega
          | exact mR_t (by unfold kRes; rw [if_neg (by omega)]) (by decide)
          | exact mR_t (by unfold kRes; rw [if_pos (by omega), if_pos (by omega)]) (by decide)
          | exact mR_t (by unfold kRes; rw [if_pos (by omega), if_neg (by omega), if_neg (by omega)]) (by decide)
          | exact mR_0 (by unfold kRes; rw [if_pos (by omega), if_neg (by omega), if_pos (by omega)]) rfl
  · replace c1 := b2i_eq c1
    refine r_iconst dX10_residue_9 (r_goto 54 dX10_residue_10 (by decide) (r_put dX10_residue_54 fl_X10_30 h rfl rfl (Nat.le_of_ble_eq_true rfl) (r_aload_n dX10_residue_57 (i := 0) rfl rfl (r_get dX10_residue_58 fl_X10_30 ps_same rfl ?_))))
    refine r_if_le 68 dX10_residue_61 (by decide) (by omega) (fun c7 => ?_) (fun c7 => ?_)
    · omega
    · refine r_iconst dX10_residue_64 (r_goto 86 dX10_residue_65 (by decide) ?_)
      refine r_iret dX10_residue_86 rfl rfl ?_
      first
        | omega
        | exact mR_t (by unfold kRes; rw [if_neg (by omega)]) (by decide)
        | exact mR_t (by unfold kRes; rw [if_pos (by omega), if_pos (by omega)]) (by decide)
        | exact mR_t (by unfold kRes; rw [if_pos (by omega), if_neg (by omega), if_neg (by omega)]) (by decide)
        | exact mR_0 (by unfold kRes; rw [if_pos (by omega), if_neg (by omega), if_pos (by omega)]) rfl
theorem l_trans {p : Nat} {q s n k b : Int} (h : S.1 m = some (cO 10 (.ref (m + 1) :: fs))) (ha : S.1 (m + 1) = some (cJ 215 a)) (hl : ML a) (hs : 0 ≤ s ∧ s ≤ 3) (hp : 3 ≤ p ∧ p ≤ 100003) (hb : 0 ≤ b ∧ b < p) (hq : Q (.inl (some (vi (sfx (tmF a s) b (a (7 + s)).toNat 0 % (p : Int))))) S) : ∀ (r c : Nat) (sum : Int), (c : Int) + r = a (7 + s) → 0 ≤ sum → sum < p → sum % p = sfx (tmF a s) b c (r : Int) % p →
    PW g cX10_transform (iX10_transform mc ms) 77 [(0, some (.ref m)), (1, some (vi q)), (2, some (vi s)), (3, some (vi n)), (4, some (vi k)), (5, some (vi (p : Int))), (6, some (vl b)), (8, some (vl sum)), (10, some (vi ((r : Int) - 1)))] [] S kc ks Q := by
  intro r
  have hb1 := hl.1 s hs.1 (by omega)
  induction r with
  | zero =>
    intro c sum hc h1 h2 he
    refine r_iload dX10_transform_77 rfl ?_
    refine r_if_lt 113 dX10_transform_79 (by decide) (by omega) (fun c1 => ?_) (fun c1 => ?_)
    · refine r_lload dX10_transform_113 rfl (r_l2i dX10_transform_115 ?_)
      refine r_iret dX10_transform_116 rfl rfl ?_
      have e2 : sum % (p : Int) = sum := Int.emod_eq_of_lt h1 h2
      rw [show (a (7 + s)).toNat = c by omega] at hq
      rw [e2] at he
      rw [he]
      exact hq
    · omega
  | succ r ih =>
    intro c sum hc h1 h2 he
    have hm := mul_bd (a := sum) (x := b) (p := p) (by omega) (by omega) hb.1 (by omega) hp.2
    have hf := tm_ok hl hs hb1.2 (r : Int) (by omega) (by omega)
    have er : ((r + 1 : Nat) : Int) - 1 = (r : Int) := by omega
    have e0 : a (11 + 32 * s + (r : Int)) = tmF a s r := rfl
    have m1 := Int.emod_nonneg (tmF a s r) (show (p : Int) ≠ 0 by omega)
    have m2 := Int.emod_lt_of_pos (tmF a s r) (show (0 : Int) < p by omega)
    have m0 := Int.mul_nonneg h1 hb.1
    have hsum := horn (P := (p : Int)) (by' := b) (fj := tmF a s r) he
    have m3 := Int.emod_nonneg (sum * b + tmF a s r % (p : Int)) (show (p : Int) ≠ 0 by omega)
    have m4 := Int.emod_lt_of_pos (sum * b + tmF a s r % (p : Int)) (show (0 : Int) < p by omega)
    rw [er]
    refine r_iload dX10_transform_77 rfl ?_
    refine r_if_lt 113 dX10_transform_79 (by decide) (by omega) (fun c1 => ?_) (fun c1 => ?_)
    · omega
    · refine r_lload dX10_transform_82 rfl (r_lload dX10_transform_84 rfl (r_lmul dX10_transform_86 (r_aload_n dX10_transform_87 (i := 0) rfl rfl (r_iload_n dX10_transform_88 (i := 2) rfl rfl ?_))))
      refine r_iload dX10_transform_89 rfl (c_vr dX10_transform_91 (c_X10_termOf h ha (by omega) (by omega)) rfl rfl mq_X10_termOf ml_X10_197 ⟨Nat.le_of_ble_eq_true rfl, Nat.le_of_ble_eq_true rfl⟩ h rfl rfl rfl (Nat.le_of_ble_eq_true rfl) ?_)
      rw [e0]
      refine r_iload dX10_transform_94 rfl (c_sr dX10_transform_96 (c_X10_modulo ⟨by omega, by omega⟩ (by omega)) rfl rfl mq_X10_modulo ml_X10_187 ⟨Nat.le_of_ble_eq_true rfl, Nat.le_of_ble_eq_true rfl⟩ rfl rfl (Nat.le_of_ble_eq_true rfl) (r_i2l dX10_transform_99 (by omega) (r_ladd dX10_transform_100 (r_iload dX10_transform_101 rfl ?_))))
      refine r_i2l dX10_transform_103 (by omega) (r_lremN dX10_transform_104 (by omega) (by omega) (by omega) (by omega) (r_lstore dX10_transform_105 rfl (Nat.le_of_ble_eq_true rfl) (r_iinc dX10_transform_107 rfl rfl (r_goto 77 dX10_transform_110 (by decide) ?_))))
      refine r_loc [(0, some (.ref m)), (1, some (vi q)), (2, some (vi s)), (3, some (vi n)), (4, some (vi k)), (5, some (vi (p : Int))), (6, some (vl b)), (8, some (vl ((sum * b + tmF a s r % (p : Int)) % (p : Int)))), (10, some (vi ((r : Int) - 1)))] ⟨Or.inl rfl, Or.inl rfl, Or.inl rfl, Or.inl rfl, Or.inl rfl, Or.inl rfl, Or.inl rfl, Or.inl rfl, Or.inl rfl, trivial⟩ (ih (c + 1) _ (by omega) m3 m4 ?_)
      rw [Int.emod_emod_of_dvd _ (Int.dvd_refl _), hsum]
      rfl
theorem c_X10_transform {q s n k : Int} (h : S.1 m = some (mO m km th bu sz at' be ki wr wa ea nu bs bw bt')) (ha : S.1 (m + 1) = some (cJ 215 a)) (hp : MP a) (hl : ML a) (hq : RI q) (hs : RI s) (hn : RI n) (hk : RI k) : PC g yX10_transform cX10_transform (iX10_transform mc ms) [.ref m, vi q, vi s, vi n, vi k] S (mR S m (fun k => mO m km k bu sz at' be ki wr wa ea nu bs bw bt') (kTrans a q s n k) (vi (vTrans a q s n k))) := by
  refine PC_of pnX10 rfl rfl rfl (Nat.le_of_ble_eq_true rfl) ?_
  have h0 := hp.1
  have hnb := noTrI_bd a q n (b2i (0 ≤ k ∧ k ≤ n - 1))
  refine r_aload_n dX10_transform_0 (i := 0) rfl rfl (r_iload_n dX10_transform_1 (i := 2) rfl rfl (c_sr dX10_transform_2 (c_X10_isSlot hs) rfl rfl mq_X10_isSlot ml_X10_191 ⟨Nat.le_of_ble_eq_true rfl, Nat.le_of_ble_eq_true rfl⟩ rfl rfl (Nat.le_of_ble_eq_true rfl) ?_))
  refine r_if_eq 28 dX10_transform_5 (by decide) b2i_RI (fun c1 => ?_) (fun c1 => ?_)
  · replace c1 := b2i_eq c1
    refine r_iconst dX10_transform_28 (r_put dX10_transform_29 fl_X10_30 h rfl rfl (Nat.le_of_ble_eq_true rfl) (r_aload_n dX10_transform_32 (i := 0) rfl rfl (r_get dX10_transform_33 fl_X10_30 ps_same rfl ?_)))
    refine r_if_le 41 dX10_transform_36 (by decide) (by omega) (fun c2 => ?_) (fun c2 => ?_)
    · omega
    · refine r_iconst dX10_transform_39 ?_
      refine r_iret dX10_transform_40 rfl rfl ?_
      first
        | exact mR_t (by unfold kTrans; rw [if_neg (by omega)]) (by decide)
        | exact mR_t (k' := noTrI a q n (b2i (0 ≤ k ∧ k ≤ n - 1))) (by unfold kTrans; rw [if_pos (by omega)]) (by omega)
  · replace c1 := b2i_ne c1
    refine r_aload_n dX10_transform_8 (i := 0) rfl rfl (r_iload_n dX10_transform_9 (i := 1) rfl rfl (r_iload_n dX10_transform_10 (i := 3) rfl rfl (r_iload dX10_transform_11 rfl (r_i2l dX10_transform_13 (by omega) ?_))))
    refine r_lconst (z := 0) dX10_transform_14 (by decide) (r_iload_n dX10_transform_15 (i := 3) rfl rfl (r_i2l dX10_transform_16 (by omega) (r_lconst (z := 1) dX10_transform_17 (by decide) (r_lsub dX10_transform_18 ?_))))
    refine c_sr dX10_transform_19 (c_X10_isIn ⟨by omega, by omega⟩ ⟨by omega, by omega⟩ ⟨by omega, by omega⟩) rfl rfl mq_X10_isIn ml_X10_46 ⟨Nat.le_of_ble_eq_true rfl, Nat.le_of_ble_eq_true rfl⟩ rfl rfl (Nat.le_of_ble_eq_true rfl) (c_vr dX10_transform_22 (c_X10_noTransform h ha hp hq hn b2i_01) rfl rfl mq_X10_noTransform ml_X10_220 ⟨Nat.le_of_ble_eq_true rfl, Nat.le_of_ble_eq_true rfl⟩ h rfl rfl rfl (Nat.le_of_ble_eq_true rfl) (r_goto 29 dX10_transform_25 (by decide) (r_put dX10_transform_29 fl_X10_30 h rfl rfl (Nat.le_of_ble_eq_true rfl) (r_aload_n dX10_transform_32 (i := 0) rfl rfl ?_))))
    refine r_get dX10_transform_33 fl_X10_30 ps_same rfl ?_
    refine r_if_le 41 dX10_transform_36 (by decide) (by omega) (fun c3 => ?_) (fun c3 => ?_)
    · obtain ⟨hth, hn1, hgd, hdv⟩ := noTrI_0 (show noTrI a q n (b2i (0 ≤ k ∧ k ≤ n - 1)) = 0 by omega)
      have hk2 := b2i_ne hgd
      obtain ⟨hpa, hpr, hpp⟩ := pN_ok hp hth
      have hrb := rtI_bd (p := pN a q) (n := n.toNat) (by omega)
      have hl1 := hl.1 s (by omega) (by omega)
      have hpb := pwI_bd (rtI (pN a q) n.toNat) k.toNat (p := pN a q) (by omega)
      refine r_aload_n dX10_transform_41 (i := 0) rfl rfl (r_iload_n dX10_transform_42 (i := 1) rfl rfl (c_vr dX10_transform_43 (c_X10_primeAt ps_same (ps_ne (by omega) ha) (by omega)) rfl rfl mq_X10_primeAt ml_X10_165 ⟨Nat.le_of_ble_eq_true rfl, Nat.le_of_ble_eq_true rfl⟩ ps_same rfl rfl rfl (Nat.le_of_ble_eq_true rfl) ?_))
      rw [hpa]
      refine r_istore dX10_transform_46 rfl (Nat.le_of_ble_eq_true rfl) (r_iload dX10_transform_48 rfl (r_iload_n dX10_transform_50 (i := 3) rfl rfl (c_sr dX10_transform_51 (c_X10_rootOfI hpr hpp ⟨by omega, by omega⟩) rfl rfl mq_X10_rootOf ml_X10_180 ⟨Nat.le_of_ble_eq_true rfl, Nat.le_of_ble_eq_true rfl⟩ rfl rfl (Nat.le_of_ble_eq_true rfl) (r_iload dX10_transform_54 rfl ?_))))
      refine r_i2l dX10_transform_56 (by omega) (r_iload dX10_transform_57 rfl (r_i2l dX10_transform_59 (by omega) (c_sr dX10_transform_60 (c_X10_powerOfI ⟨by omega, by omega⟩ hpr ⟨by omega, by omega⟩) rfl rfl mq_X10_powerOf ml_X10_155 ⟨Nat.le_of_ble_eq_true rfl, Nat.le_of_ble_eq_true rfl⟩ rfl rfl (Nat.le_of_ble_eq_true rfl) (r_lstore dX10_transform_63 rfl (Nat.le_of_ble_eq_true rfl) ?_))))
      refine r_lconst (z := 0) dX10_transform_65 (by decide) (r_lstore dX10_transform_66 rfl (Nat.le_of_ble_eq_true rfl) (r_aload_n dX10_transform_68 (i := 0) rfl rfl (r_iload_n dX10_transform_69 (i := 2) rfl rfl (c_vr dX10_transform_70 (c_X10_longOf ps_same (ps_ne (by omega) ha) (by omega)) rfl rfl mq_X10_longOf ml_X10_194 ⟨Nat.le_of_ble_eq_true rfl, Nat.le_of_ble_eq_true rfl⟩ ps_same rfl rfl rfl (Nat.le_of_ble_eq_true rfl) ?_))))
      refine r_iconst dX10_transform_73 (r_isub dX10_transform_74 (r_istore dX10_transform_75 rfl (Nat.le_of_ble_eq_true rfl) ?_))
      refine r_loc [(0, some (.ref m)), (1, some (vi q)), (2, some (vi s)), (3, some (vi n)), (4, some (vi k)), (5, some (vi (pN a q : Int))), (6, some (vl (pwI (rtI (pN a q) n.toNat) k.toNat (pN a q)))), (8, some (vl 0)), (10, some (vi (((a (7 + s)).toNat : Int) - 1)))] ⟨Or.inl rfl, Or.inl rfl, Or.inl rfl, Or.inl rfl, Or.inl rfl, Or.inl rfl, Or.inl rfl, Or.inl rfl, Or.inl (lvi_eq (by omega)), trivial⟩ ?_
      refine l_trans ps_same (ps_ne (by omega) ha) hl (by omega) hpr hpb ?_ (a (7 + s)).toNat 0 0 (by omega) (by omega) (by omega) rfl
      exact mR_0 (k' := noTrI a q n (b2i (0 ≤ k ∧ k ≤ n - 1))) (by unfold kTrans; rw [if_pos (by omega)]) rfl
    · refine r_iconst dX10_transform_39 ?_
      refine r_iret dX10_transform_40 rfl rfl ?_
      first
        | exact mR_t (by unfold kTrans; rw [if_neg (by omega)]) (by decide)
        | exact mR_t (k' := noTrI a q n (b2i (0 ≤ k ∧ k ≤ n - 1))) (by unfold kTrans; rw [if_pos (by omega)]) (by omega)
end MFACE4

/-! the model's own helpers: all plans; what is kept and brought back -/
def mix (lo i : Int) (A B : Int → Int) : Int → Int := fun x => if lo ≤ x ∧ x < i then A x else B x
theorem mix_up {A B : Int → Int} {lo i v : Int} (h : lo ≤ i) (hv : v = A i) : upI (mix lo i A B) i v = mix lo (i + 1) A B := by
  funext x
  unfold upI mix
  by_cases e : x = i
  · subst e
    rw [if_pos rfl, if_pos ⟨h, by omega⟩, hv]
  · rw [if_neg e]
    by_cases e2 : lo ≤ x ∧ x < i
    · rw [if_pos e2, if_pos ⟨e2.1, by omega⟩]
    · rw [if_neg e2, if_neg (fun z => e2 ⟨z.1, by omega⟩)]
theorem mix_0 {A B : Int → Int} {lo : Int} : mix lo lo A B = B := by
  funext x
  unfold mix
  rw [if_neg (by omega)]
theorem mix_in {A B : Int → Int} {lo i x : Int} (h : lo ≤ x ∧ x < i) : mix lo i A B x = A x := if_pos h
theorem mix_out {A B : Int → Int} {lo i x : Int} (h : x < lo ∨ i ≤ x) : mix lo i A B x = B x := if_neg (by omega)
def pCn (kd : Int) (f : Nat) : Nat := if kd = 0 then 65 - f else 1
section MOBJ6
variable {g : GT} {S : PS} {mc ms : Nat} {Q : PO → PS → Prop} {kc ks : Nat} {m : Nat} {a fr kp : Int → Int} {fs : List Value} {km th bu sz at' be ki wr wa ea nu bs bw bt' : Int}
theorem l_wide {kd s t b n4 : Int} {f : Nat} {t0 : Int × Int × Int} (ha : S.1 (m + 1) = some (cJ 215 a)) (hp : MP a) (hkd : RI kd) (hf : 1 ≤ f ∧ f ≤ 64) (hb : 0 ≤ b ∧ b ≤ 3199360032) (ht0 : -18 ≤ t0.1 ∧ t0.1 ≤ 100000)
    (hq : Q (.inl none) (ps_put S m (mO m km th bu sz at' be ki wr wa ea nu (pW a kd b f t0 (pCn kd f)).1 (pW a kd b f t0 (pCn kd f)).2.1 (pW a kd b f t0 (pCn kd f)).2.2))) : ∀ (r c : Nat), c + r = pCn kd f →
    PW g cX10_laysPlans (iX10_laysPlans mc ms) 28 [(0, some (.ref m)), (1, some (vi kd)), (2, some (vi s)), (3, some (vi t)), (4, some (vi n4)), (5, some (vi (f : Int))), (6, some (vl b)), (8, some (vi ((f + c : Nat) : Int)))] [] (ps_put S m (mO m km th bu sz at' be ki wr wa ea nu (pW a kd b f t0 c).1 (pW a kd b f t0 c).2.1 (pW a kd b f t0 c).2.2)) kc ks Q := by
  intro r
  have hn := hp.1
  have hpc : pCn kd f = if kd = 0 then 65 - f else 1 := rfl
  induction r with
  | zero =>
    intro c hc
    have e : c = pCn kd f := by omega
    subst e
    by_cases hk : kd = 0
    · rw [if_pos hk] at hpc
      refine r_iload dX10_laysPlans_28 rfl (r_iload_n dX10_laysPlans_30 (i := 1) rfl rfl ?_)
      refine r_if_ne 39 dX10_laysPlans_31 (by decide) (by omega) (fun c1 => ?_) (fun c1 => ?_)
      · refine r_iload dX10_laysPlans_39 rfl ?_
        refine r_icmp_gt 159 dX10_laysPlans_41 (by decide) (by omega) (by omega) (fun c2 => ?_) (fun c2 => ?_)
        · refine r_vret dX10_laysPlans_159 rfl ?_
          first | omega | exact hq
        · omega
      · refine r_bipush dX10_laysPlans_34 (by decide) (r_goto 41 dX10_laysPlans_36 (by decide) ?_)
        refine r_icmp_gt 159 dX10_laysPlans_41 (by decide) (by omega) (by omega) (fun c3 => ?_) (fun c3 => ?_)
        · refine r_vret dX10_laysPlans_159 rfl ?_
          first | omega | exact hq
        · omega
    · rw [if_neg hk] at hpc
      refine r_iload dX10_laysPlans_28 rfl (r_iload_n dX10_laysPlans_30 (i := 1) rfl rfl ?_)
      refine r_if_ne 39 dX10_laysPlans_31 (by decide) (by omega) (fun c1 => ?_) (fun c1 => ?_)
      · refine r_iload dX10_laysPlans_39 rfl ?_
        refine r_icmp_gt 159 dX10_laysPlans_41 (by decide) (by omega) (by omega) (fun c2 => ?_) (fun c2 => ?_)
        · refine r_vret dX10_laysPlans_159 rfl ?_
          first | omega | exact hq
        · omega
      · refine r_bipush dX10_laysPlans_34 (by decide) (r_goto 41 dX10_laysPlans_36 (by decide) ?_)
        refine r_icmp_gt 159 dX10_laysPlans_41 (by decide) (by omega) (by omega) (fun c3 => ?_) (fun c3 => ?_)
        · refine r_vret dX10_laysPlans_159 rfl ?_
          first | omega | exact hq
        · omega
  | succ r ih =>
    intro c hc
    have hlt : f + c ≤ 64 := by
      split at hpc <;> omega
    have hbd := pW_bd (kd := kd) (b := b) (w := f) hn hf.1 ht0 c (by omega)
    have h44 : PW g cX10_laysPlans (iX10_laysPlans mc ms) 44 [(0, some (.ref m)), (1, some (vi kd)), (2, some (vi s)), (3, some (vi t)), (4, some (vi n4)), (5, some (vi (f : Int))), (6, some (vl b)), (8, some (vi ((f + c : Nat) : Int)))] [] (ps_put S m (mO m km th bu sz at' be ki wr wa ea nu (pW a kd b f t0 c).1 (pW a kd b f t0 c).2.1 (pW a kd b f t0 c).2.2)) kc ks Q := by
      refine r_iconst dX10_laysPlans_44 (r_istore dX10_laysPlans_45 rfl (Nat.le_of_ble_eq_true rfl) ?_)
      refine r_loc [(0, some (.ref m)), (1, some (vi kd)), (2, some (vi s)), (3, some (vi t)), (4, some (vi n4)), (5, some (vi (f : Int))), (6, some (vl b)), (8, some (vi ((f + c : Nat) : Int))), (9, some (vi ((0 + 1 : Nat) : Int)))] ⟨Or.inl rfl, Or.inl rfl, Or.inl rfl, Or.inl rfl, Or.inl rfl, Or.inl rfl, Or.inl rfl, Or.inl rfl, Or.inl rfl, trivial⟩ ?_
      refine l_sets (t0 := pW a kd b f t0 c) ha hp hkd ⟨by omega, hlt⟩ hb hbd rfl ?_ (2 ^ (a 0).toNat - 1) 0 (by omega)
      refine r_iinc dX10_laysPlans_153 rfl rfl (r_goto 28 dX10_laysPlans_156 (by decide) ?_)
      exact r_loc [(0, some (.ref m)), (1, some (vi kd)), (2, some (vi s)), (3, some (vi t)), (4, some (vi n4)), (5, some (vi (f : Int))), (6, some (vl b)), (8, some (vi ((f + (c + 1) : Nat) : Int)))] ⟨Or.inl rfl, Or.inl rfl, Or.inl rfl, Or.inl rfl, Or.inl rfl, Or.inl rfl, Or.inl rfl, Or.inl (lvi_eq (by omega)), trivial⟩ (ih (c + 1) (by omega))
    by_cases hk : kd = 0
    · rw [if_pos hk] at hpc
      refine r_iload dX10_laysPlans_28 rfl (r_iload_n dX10_laysPlans_30 (i := 1) rfl rfl ?_)
      refine r_if_ne 39 dX10_laysPlans_31 (by decide) (by omega) (fun c1 => ?_) (fun c1 => ?_)
      · refine r_iload dX10_laysPlans_39 rfl ?_
        refine r_icmp_gt 159 dX10_laysPlans_41 (by decide) (by omega) (by omega) (fun c2 => ?_) (fun c2 => ?_)
        · omega
        · first | omega | exact h44
      · refine r_bipush dX10_laysPlans_34 (by decide) (r_goto 41 dX10_laysPlans_36 (by decide) ?_)
        refine r_icmp_gt 159 dX10_laysPlans_41 (by decide) (by omega) (by omega) (fun c3 => ?_) (fun c3 => ?_)
        · omega
        · first | omega | exact h44
    · rw [if_neg hk] at hpc
      refine r_iload dX10_laysPlans_28 rfl (r_iload_n dX10_laysPlans_30 (i := 1) rfl rfl ?_)
      refine r_if_ne 39 dX10_laysPlans_31 (by decide) (by omega) (fun c1 => ?_) (fun c1 => ?_)
      · refine r_iload dX10_laysPlans_39 rfl ?_
        refine r_icmp_gt 159 dX10_laysPlans_41 (by decide) (by omega) (by omega) (fun c2 => ?_) (fun c2 => ?_)
        · omega
        · first | omega | exact h44
      · refine r_bipush dX10_laysPlans_34 (by decide) (r_goto 41 dX10_laysPlans_36 (by decide) ?_)
        refine r_icmp_gt 159 dX10_laysPlans_41 (by decide) (by omega) (by omega) (fun c3 => ?_) (fun c3 => ?_)
        · omega
        · first | omega | exact h44
theorem c_X10_laysPlans {kd s t n4 : Int} {f : Nat} (h : S.1 m = some (mO m km th bu sz at' be ki wr wa ea nu bs bw bt')) (ha : S.1 (m + 1) = some (cJ 215 a)) (hp : MP a) (hl : ML a) (hkd : RI kd) (hs : 0 ≤ s ∧ s ≤ 3) (ht : 0 ≤ t ∧ t ≤ 3) (hf : 1 ≤ f ∧ f ≤ 64) (hsz : sizI a kd s t n4 = (f : Int)) : PC g yX10_laysPlans cX10_laysPlans (iX10_laysPlans mc ms) [.ref m, vi kd, vi s, vi t, vi n4] S (Rt none (ps_put S m (mO m km th bu sz at' be ki wr wa ea nu (pW a kd (bndI a s t) f (-1, bw, bt') (pCn kd f)).1 (pW a kd (bndI a s t) f (-1, bw, bt') (pCn kd f)).2.1 (pW a kd (bndI a s t) f (-1, bw, bt') (pCn kd f)).2.2))) := by
  refine PC_of pnX10 rfl rfl rfl (Nat.le_of_ble_eq_true rfl) ?_
  have hb := (bnd_bd hl hs ht).2.2.2
  refine r_aload_n dX10_laysPlans_0 (i := 0) rfl rfl (r_iload_n dX10_laysPlans_1 (i := 1) rfl rfl (r_iload_n dX10_laysPlans_2 (i := 2) rfl rfl (r_iload_n dX10_laysPlans_3 (i := 3) rfl rfl (r_iload dX10_laysPlans_4 rfl ?_))))
  refine c_vr dX10_laysPlans_6 (c_X10_sizeOf h ha hkd (fun _ => ⟨hs, ht⟩)) rfl rfl mq_X10_sizeOf ml_X10_248 ⟨Nat.le_of_ble_eq_true rfl, Nat.le_of_ble_eq_true rfl⟩ h rfl rfl rfl (Nat.le_of_ble_eq_true rfl) (r_istore dX10_laysPlans_9 rfl (Nat.le_of_ble_eq_true rfl) (r_aload_n dX10_laysPlans_11 (i := 0) rfl rfl (r_iload_n dX10_laysPlans_12 (i := 2) rfl rfl (r_iload_n dX10_laysPlans_13 (i := 3) rfl rfl ?_))))
  refine c_vr dX10_laysPlans_14 (c_X10_boundOf h ha hl hs ht) rfl rfl mq_X10_boundOf ml_X10_255 ⟨Nat.le_of_ble_eq_true rfl, Nat.le_of_ble_eq_true rfl⟩ h rfl rfl rfl (Nat.le_of_ble_eq_true rfl) (r_lstore dX10_laysPlans_17 rfl (Nat.le_of_ble_eq_true rfl) (r_aload_n dX10_laysPlans_19 (i := 0) rfl rfl (r_iconst dX10_laysPlans_20 (r_put dX10_laysPlans_21 fl_X10_273 h rfl rfl (Nat.le_of_ble_eq_true rfl) ?_))))
  refine r_iload dX10_laysPlans_24 rfl (r_istore dX10_laysPlans_26 rfl (Nat.le_of_ble_eq_true rfl) ?_)
  rw [hsz]
  exact r_loc [(0, some (.ref m)), (1, some (vi kd)), (2, some (vi s)), (3, some (vi t)), (4, some (vi n4)), (5, some (vi (f : Int))), (6, some (vl (bndI a s t))), (8, some (vi ((f + 0 : Nat) : Int)))] ⟨Or.inl rfl, Or.inl rfl, Or.inl rfl, Or.inl rfl, Or.inl rfl, Or.inl rfl, Or.inl rfl, Or.inl rfl, trivial⟩ (l_wide (t0 := ((-1 : Int), bw, bt')) ha hp hkd hf hb ⟨by show -18 ≤ (-1 : Int); decide, by show (-1 : Int) ≤ 100000; decide⟩ (show Rt none _ _ _ from ⟨rfl, rfl⟩) (pCn kd f) 0 (by omega))
def StoreOk (a : Int → Int) : Prop := (a 139 ≠ 0 ∧ a 143 ≤ 32) ∧ ∀ k : Int, 0 ≤ k → k < a 143 → -9999 ≤ a (151 + k) ∧ a (151 + k) ≤ 9999
theorem l_canStore (h : S.1 m = some (cO 10 (.ref (m + 1) :: fs))) (ha : S.1 (m + 1) = some (cJ 215 a)) (h0 : a 139 ≠ 0) (h1 : 0 ≤ a 143 ∧ a 143 ≤ 32) (hv : ∀ k : Int, 0 ≤ k → k < a 143 → RJ (a (151 + k))) (hq : ∀ b, b = b2c (StoreOk a) → Q (.inl (some (vi b))) S) : ∀ (n k : Nat), (k : Int) + n = a 143 → (∀ j : Int, 0 ≤ j → j < k → -9999 ≤ a (151 + j) ∧ a (151 + j) ≤ 9999) →
    PW g cX10_canStore (iX10_canStore mc ms) 32 [(0, some (.ref m)), (1, some (vi (k : Int)))] [] S kc ks Q := by
  intro n
  induction n with
  | zero =>
    intro k hk hj
    refine r_iload_n dX10_canStore_32 (i := 1) rfl rfl (r_i2l dX10_canStore_33 (by omega) (r_aload_n dX10_canStore_34 (i := 0) rfl rfl (r_get dX10_canStore_35 fl_X10_7 h rfl (r_sipush dX10_canStore_38 (by decide) ?_))))
    refine r_lald dX10_canStore_41 ha (by omega) (by omega) (by omega) ?_
    refine r_lcmp_ge 70 dX10_canStore_42 dX10_canStore_43 (by decide) (by omega) (by omega) (fun c1 => ?_) (fun c1 => ?_)
    · refine r_iconst dX10_canStore_70 ?_
      refine r_iret dX10_canStore_71 rfl (q_narZ (by first | exact Or.inl rfl | exact Or.inr rfl)) ?_
      exact hq 1 (b2c_t ⟨⟨h0, h1.2⟩, fun j j1 j2 => hj j j1 (by omega)⟩).symm
    · omega
  | succ n ih =>
    intro k hk hj
    have hvk := hv k (by omega) (by omega)
    refine r_iload_n dX10_canStore_32 (i := 1) rfl rfl (r_i2l dX10_canStore_33 (by omega) (r_aload_n dX10_canStore_34 (i := 0) rfl rfl (r_get dX10_canStore_35 fl_X10_7 h rfl (r_sipush dX10_canStore_38 (by decide) ?_))))
    refine r_lald dX10_canStore_41 ha (by omega) (by omega) (by omega) ?_
    refine r_lcmp_ge 70 dX10_canStore_42 dX10_canStore_43 (by decide) (by omega) (by omega) (fun c1 => ?_) (fun c1 => ?_)
    · omega
    · refine r_aload_n dX10_canStore_46 (i := 0) rfl rfl (r_get dX10_canStore_47 fl_X10_7 h rfl (r_sipush dX10_canStore_50 (by decide) (r_iload_n dX10_canStore_53 (i := 1) rfl rfl (r_iadd dX10_canStore_54 ?_))))
      refine r_lald dX10_canStore_55 ha (by omega) (by omega) (by omega) (c_sr dX10_canStore_56 (c_X10_isTerm hvk) rfl rfl mq_X10_isTerm ml_X10_210 ⟨Nat.le_of_ble_eq_true rfl, Nat.le_of_ble_eq_true rfl⟩ rfl rfl (Nat.le_of_ble_eq_true rfl) ?_)
      refine r_if_ne 64 dX10_canStore_59 (by decide) b2i_RI (fun c2 => ?_) (fun c2 => ?_)
      · replace c2 := b2i_ne c2
        refine r_iinc dX10_canStore_64 rfl rfl (r_goto 32 dX10_canStore_67 (by decide) ?_)
        refine r_loc [(0, some (.ref m)), (1, some (vi ((k + 1 : Nat) : Int)))] ⟨Or.inl rfl, Or.inl rfl, trivial⟩ (ih (k + 1) (by omega) (fun j j1 j2 => ?_))
        by_cases z : j = k
        · subst z
          assumption
        · exact hj j j1 (by omega)
      · replace c2 := b2i_eq c2
        refine r_iconst dX10_canStore_62 ?_
        refine r_iret dX10_canStore_63 rfl (q_narZ (by first | exact Or.inl rfl | exact Or.inr rfl)) ?_
        exact hq 0 (b2c_f (fun z => by have := z.2 k (by omega) (by omega); omega)).symm
theorem c_X10_canStore (h : S.1 m = some (cO 10 (.ref (m + 1) :: fs))) (ha : S.1 (m + 1) = some (cJ 215 a)) (h0 : 0 ≤ a 139 ∧ a 139 ≤ 1) (h1 : 0 ≤ a 143 ∧ a 143 ≤ 64) (hv : ∀ k : Int, 0 ≤ k → k < a 143 → RJ (a (151 + k))) : PC g yX10_canStore cX10_canStore (iX10_canStore mc ms) [.ref m] S (Rt (some (vi (b2c (StoreOk a)))) S) := by
  refine PC_of pnX10 rfl rfl rfl (Nat.le_of_ble_eq_true rfl) ?_
  refine r_aload_n dX10_canStore_0 (i := 0) rfl rfl (r_get dX10_canStore_1 fl_X10_7 h rfl (r_sipush dX10_canStore_4 (by decide) (r_lald dX10_canStore_7 ha (by omega) (by omega) (by omega) (r_lconst (z := 0) dX10_canStore_8 (by decide) ?_))))
  refine r_lcmp_eq 28 dX10_canStore_9 dX10_canStore_10 (by decide) (by omega) (by omega) (fun c1 => ?_) (fun c1 => ?_)
  · refine r_iconst dX10_canStore_28 ?_
    refine r_iret dX10_canStore_29 rfl (q_narZ (by first | exact Or.inl rfl | exact Or.inr rfl)) ?_
    exact ⟨by rw [b2c_f (fun z : StoreOk a => by have := z.1; omega)], rfl⟩
  · refine r_aload_n dX10_canStore_13 (i := 0) rfl rfl (r_get dX10_canStore_14 fl_X10_7 h rfl (r_sipush dX10_canStore_17 (by decide) (r_lald dX10_canStore_20 ha (by omega) (by omega) (by omega) (r_ldc2 dX10_canStore_21 csj_X10_204 ?_))))
    refine r_lcmp_le 30 dX10_canStore_24 dX10_canStore_25 (by decide) (by omega) (by omega) (fun c2 => ?_) (fun c2 => ?_)
    · refine r_iconst dX10_canStore_30 (r_istore_n dX10_canStore_31 (i := 1) rfl rfl (Nat.le_of_ble_eq_true rfl) ?_)
      exact r_loc [(0, some (.ref m)), (1, some (vi ((0 : Nat) : Int)))] ⟨Or.inl rfl, Or.inl rfl, trivial⟩ (l_canStore h ha (by omega) (by omega) hv (fun b hb => ⟨by rw [hb], rfl⟩) (a 143).toNat 0 (by omega) (fun j j1 j2 => by omega))
    · refine r_iconst dX10_canStore_28 ?_
      refine r_iret dX10_canStore_29 rfl (q_narZ (by first | exact Or.inl rfl | exact Or.inr rfl)) ?_
      exact ⟨by rw [b2c_f (fun z : StoreOk a => by have := z.1; omega)], rfl⟩
theorem l_becomes (h : S.1 m = some (cO 10 (.ref (m + 1) :: .ref (m + 2) :: fs))) (hfr : S.1 (m + 2) = some (cJ 215 fr)) (hq : Q (.inl none) (ps_put S (m + 1) (cJ 215 (mix 0 215 fr a)))) : ∀ (n i : Nat), i + n = 215 →
    PW g cX10_becomes (iX10_becomes mc ms) 2 [(0, some (.ref m)), (1, some (vi (i : Int)))] [] (ps_put S (m + 1) (cJ 215 (mix 0 i fr a))) kc ks Q := by
  intro n
  induction n with
  | zero =>
    intro i hi
    refine r_iload_n dX10_becomes_2 (i := 1) rfl rfl (r_sipush dX10_becomes_3 (by decide) ?_)
    refine r_icmp_ge 27 dX10_becomes_6 (by decide) (by omega) (by omega) (fun c1 => ?_) (fun c1 => ?_)
    · refine r_vret dX10_becomes_27 rfl ?_
      rw [show i = 215 by omega]
      exact hq
    · omega
  | succ n ih =>
    intro i hi
    have h1 : (ps_put S (m + 1) (cJ 215 (mix 0 i fr a))).1 m = some (cO 10 (.ref (m + 1) :: .ref (m + 2) :: fs)) := ps_ne (by omega) h
    have h2 : (ps_put S (m + 1) (cJ 215 (mix 0 i fr a))).1 (m + 2) = some (cJ 215 fr) := ps_ne (by omega) hfr
    refine r_iload_n dX10_becomes_2 (i := 1) rfl rfl (r_sipush dX10_becomes_3 (by decide) ?_)
    refine r_icmp_ge 27 dX10_becomes_6 (by decide) (by omega) (by omega) (fun c1 => ?_) (fun c1 => ?_)
    · omega
    · refine r_aload_n dX10_becomes_9 (i := 0) rfl rfl (r_get dX10_becomes_10 fl_X10_7 h1 rfl (r_iload_n dX10_becomes_13 (i := 1) rfl rfl (r_aload_n dX10_becomes_14 (i := 0) rfl rfl (r_get dX10_becomes_15 fl_X10_13 h1 rfl ?_))))
      refine r_iload_n dX10_becomes_18 (i := 1) rfl rfl (r_lald dX10_becomes_19 h2 (by omega) (by omega) (by omega) (r_last dX10_becomes_20 ps_same (by omega) (by omega) (by omega) (r_iinc dX10_becomes_21 rfl rfl (r_goto 2 dX10_becomes_24 (by decide) ?_))))
      rw [ps_put_put, mix_up (by omega) rfl]
      exact r_loc [(0, some (.ref m)), (1, some (vi ((i + 1 : Nat) : Int)))] ⟨Or.inl rfl, Or.inl rfl, trivial⟩ (ih (i + 1) (by omega))
theorem c_X10_becomes (h : S.1 m = some (cO 10 (.ref (m + 1) :: .ref (m + 2) :: fs))) (ha : S.1 (m + 1) = some (cJ 215 a)) (hfr : S.1 (m + 2) = some (cJ 215 fr)) : PC g yX10_becomes cX10_becomes (iX10_becomes mc ms) [.ref m] S (Rt none (ps_put S (m + 1) (cJ 215 (mix 0 215 fr a)))) := by
  refine PC_of pnX10 rfl rfl rfl (Nat.le_of_ble_eq_true rfl) ?_
  refine r_iconst dX10_becomes_0 (r_istore_n dX10_becomes_1 (i := 1) rfl rfl (Nat.le_of_ble_eq_true rfl) ?_)
  refine r_ps (ps_put_self ha).symm ?_
  have e : mix 0 ((0 : Nat) : Int) fr a = a := mix_0
  have k := fun Q hq kc ks => l_becomes (g := g) (mc := mc) (ms := ms) (a := a) (Q := Q) (kc := kc) (ks := ks) h hfr hq 215 0 (by omega)
  rw [e] at k
  exact r_loc [(0, some (.ref m)), (1, some (vi ((0 : Nat) : Int)))] ⟨Or.inl rfl, Or.inl rfl, trivial⟩ (k _ (show Rt none _ _ _ from ⟨rfl, rfl⟩) _ _)
end MOBJ6

/-! the class: Multiplier.multiplySpectra and widen -/
section SPEC
variable {g : GT} {S : PS} {mc ms : Nat} {Q : PO → PS → Prop} {kc ks : Nat} {q p : Nat} {v1 v2 v3 : Value}
theorem c_X1_timesI {a b : Int} (h : S.1 q = some (cO 1 [vi (p : Int), v1, v2, v3])) (hp : 3 ≤ p ∧ p ≤ 100003) (ha : 0 ≤ a ∧ a < p) (hb : 0 ≤ b ∧ b < p) : PC g yX1_times cX1_times (iX1_times mc ms) [.ref q, vi a, vi b] S (Rt (some (vi (a * b % (p : Int)))) S) := by
  obtain ⟨i, rfl⟩ := Int.eq_ofNat_of_zero_le ha.1
  obtain ⟨j, rfl⟩ := Int.eq_ofNat_of_zero_le hb.1
  have h2 := c_X1_times (g := g) (mc := mc) (ms := ms) (a := i) (b := j) h hp (by omega) (by omega)
  rw [Int.natCast_emod, Int.natCast_mul] at h2
  exact h2
/-- the product of the two transforms at place j -/
def AB (f h : Int → Int) (la lb : Nat) (t w : Int) (j : Nat) : Int := SM (fun i => f (i : Int) * (t * w ^ j) ^ i) la * SM (fun i => h (i : Int) * (t * w ^ j) ^ i) lb
theorem ev_cg {f : Int → Int} {x z : Int} (hx : Cg p x z) (n : Nat) : Cg p (sfx f x n 0 % (p : Int)) (SM (fun i => f (i : Int) * z ^ i) n) := by
  refine (Cg.mod _).trans ?_
  rw [sfx_SM]
  refine Cg.sm n (fun i _ => ?_)
  rw [show (0 : Int) + (i : Int) = (i : Int) by omega]
  exact (Cg.refl _).mul (hx.pow i)
theorem l_spec {m sa sb L : Nat} {la lb t w : Int} {f h sp0 : Int → Int} (h0 : S.1 m = some (cO 4 [.ref (m + 1)])) (hf : S.1 q = some (cO 1 [vi (p : Int), v1, v2, v3])) (hA : SeqAt S sa la f) (hB : SeqAt S sb lb h) (hne : q ≠ m + 1 ∧ sa ≠ m + 1 ∧ sa + 1 ≠ m + 1 ∧ sb ≠ m + 1 ∧ sb + 1 ≠ m + 1) (hla : 0 ≤ la ∧ la ≤ 32) (hlb : 0 ≤ lb ∧ lb ≤ 32) (oA : TermsOk la f) (oB : TermsOk lb h) (hp : 3 ≤ p ∧ p ≤ 100003) (hL : 1 ≤ L ∧ L ≤ 64) (hw : 0 ≤ w ∧ w < p) (hq : ∀ sp : Int → Int, (∀ j : Nat, j < L → (0 ≤ sp (j : Int) ∧ sp (j : Int) < p) ∧ Cg p (sp (j : Int)) (AB f h la.toNat lb.toNat t w j)) → Q (.inl none) (ps_put S (m + 1) (cI 64 sp))) : ∀ (r k : Nat), k + r = L → ∀ (x : Int) (sp : Int → Int), (0 ≤ x ∧ x < p) → Cg p x (t * w ^ k) → (∀ j : Nat, j < k → (0 ≤ sp (j : Int) ∧ sp (j : Int) < p) ∧ Cg p (sp (j : Int)) (AB f h la.toNat lb.toNat t w j)) →
    PW g cX4_multiplySpectra (iX4_multiplySpectra mc ms) 15 [(0, some (.ref m)), (1, some (.ref q)), (2, some (.ref sa)), (3, some (.ref sb)), (4, some (vi (L : Int))), (5, some (vi t)), (6, some (vi w)), (7, some (vi x)), (8, some (vi (k : Int)))] [] (ps_put S (m + 1) (cI 64 sp)) kc ks Q := by
  intro r
  induction r with
  | zero =>
    intro k hk x sp hx hxc hsp
    refine r_iload dX4_multiplySpectra_15 rfl (r_iload dX4_multiplySpectra_17 rfl ?_)
    refine r_icmp_ge 92 dX4_multiplySpectra_19 (by decide) (by omega) (by omega) (fun c1 => ?_) (fun c1 => ?_)
    · refine r_vret dX4_multiplySpectra_92 rfl ?_
      have e : k = L := by omega
      subst e
      exact hq sp hsp
    · omega
  | succ r ih =>
    intro k hk x sp hx hxc hsp
    have g0 : (ps_put S (m + 1) (cI 64 sp)).1 m = some (cO 4 [.ref (m + 1)]) := ps_ne (by omega) h0
    have g1 : (ps_put S (m + 1) (cI 64 sp)).1 q = some (cO 1 [vi (p : Int), v1, v2, v3]) := ps_ne hne.1 hf
    have gA : SeqAt (ps_put S (m + 1) (cI 64 sp)) sa la f := ⟨ps_ne (by omega) hA.1, ps_ne (by omega) hA.2⟩
    have gB : SeqAt (ps_put S (m + 1) (cI 64 sp)) sb lb h := ⟨ps_ne (by omega) hB.1, ps_ne (by omega) hB.2⟩
    have hbA : ∀ j : Int, 0 ≤ j → j < la → -100003 ≤ f j ∧ f j ≤ 100003 := fun j j0 j1 => by have := oA j j0 j1; omega
    have hbB : ∀ j : Int, 0 ≤ j → j < lb → -100003 ≤ h j ∧ h j ≤ 100003 := fun j j0 j1 => by have := oB j j0 j1; omega
    have mA1 := Int.emod_nonneg (sfx f x la.toNat 0) (show (p : Int) ≠ 0 by omega)
    have mA2 := Int.emod_lt_of_pos (sfx f x la.toNat 0) (show (0 : Int) < p by omega)
    have mB1 := Int.emod_nonneg (sfx h x lb.toNat 0) (show (p : Int) ≠ 0 by omega)
    have mB2 := Int.emod_lt_of_pos (sfx h x lb.toNat 0) (show (0 : Int) < p by omega)
    have mP1 := Int.emod_nonneg ((sfx f x la.toNat 0 % (p : Int)) * (sfx h x lb.toNat 0 % (p : Int))) (show (p : Int) ≠ 0 by omega)
    have mP2 := Int.emod_lt_of_pos ((sfx f x la.toNat 0 % (p : Int)) * (sfx h x lb.toNat 0 % (p : Int))) (show (0 : Int) < p by omega)
    have mX1 := Int.emod_nonneg (x * w) (show (p : Int) ≠ 0 by omega)
    have mX2 := Int.emod_lt_of_pos (x * w) (show (0 : Int) < p by omega)
    refine r_iload dX4_multiplySpectra_15 rfl (r_iload dX4_multiplySpectra_17 rfl ?_)
    refine r_icmp_ge 92 dX4_multiplySpectra_19 (by decide) (by omega) (by omega) (fun c1 => ?_) (fun c1 => ?_)
    · omega
    · refine r_iload dX4_multiplySpectra_22 rfl (r_bipush dX4_multiplySpectra_24 (by decide) ?_)
      refine r_icmp_ge 92 dX4_multiplySpectra_26 (by decide) (by omega) (by omega) (fun c2 => ?_) (fun c2 => ?_)
      · omega
      · refine r_aload_n dX4_multiplySpectra_29 (i := 1) rfl rfl (r_aload_n dX4_multiplySpectra_30 (i := 2) rfl rfl (r_get dX4_multiplySpectra_31 fl_X4_51 gA.1 rfl (r_aload_n dX4_multiplySpectra_34 (i := 2) rfl rfl (r_get dX4_multiplySpectra_35 fl_X4_56 gA.1 rfl ?_))))
        refine r_iload dX4_multiplySpectra_38 rfl (c_vr dX4_multiplySpectra_40 (c_X1_evaluate (len := 32) g1 hp gA.2 (by omega) hla hx hbA) rfl rfl mq_X1_evaluate ml_X4_59 ⟨Nat.le_of_ble_eq_true rfl, Nat.le_of_ble_eq_true rfl⟩ g1 rfl rfl rfl (Nat.le_of_ble_eq_true rfl) (r_istore dX4_multiplySpectra_43 rfl (Nat.le_of_ble_eq_true rfl) (r_aload_n dX4_multiplySpectra_45 (i := 1) rfl rfl (r_aload_n dX4_multiplySpectra_46 (i := 3) rfl rfl ?_))))
        refine r_get dX4_multiplySpectra_47 fl_X4_51 gB.1 rfl (r_aload_n dX4_multiplySpectra_50 (i := 3) rfl rfl (r_get dX4_multiplySpectra_51 fl_X4_56 gB.1 rfl (r_iload dX4_multiplySpectra_54 rfl (c_vr dX4_multiplySpectra_56 (c_X1_evaluate (len := 32) g1 hp gB.2 (by omega) hlb hx hbB) rfl rfl mq_X1_evaluate ml_X4_59 ⟨Nat.le_of_ble_eq_true rfl, Nat.le_of_ble_eq_true rfl⟩ g1 rfl rfl rfl (Nat.le_of_ble_eq_true rfl) ?_))))
        refine r_istore dX4_multiplySpectra_59 rfl (Nat.le_of_ble_eq_true rfl) ?_
        refine r_aload_n dX4_multiplySpectra_61 (i := 0) rfl rfl (r_get dX4_multiplySpectra_62 fl_X4_9 g0 rfl (r_iload dX4_multiplySpectra_65 rfl (r_aload_n dX4_multiplySpectra_67 (i := 1) rfl rfl (r_iload dX4_multiplySpectra_68 rfl ?_))))
        refine r_iload dX4_multiplySpectra_70 rfl (c_vr dX4_multiplySpectra_72 (c_X1_timesI g1 hp ⟨mA1, mA2⟩ ⟨mB1, mB2⟩) rfl rfl mq_X1_times ml_X4_63 ⟨Nat.le_of_ble_eq_true rfl, Nat.le_of_ble_eq_true rfl⟩ g1 rfl rfl rfl (Nat.le_of_ble_eq_true rfl) (r_iast dX4_multiplySpectra_75 ps_same (by omega) (by omega) (by omega) ?_))
        rw [ps_put_put]
        refine r_aload_n dX4_multiplySpectra_76 (i := 1) rfl rfl (r_iload dX4_multiplySpectra_77 rfl (r_iload dX4_multiplySpectra_79 rfl (c_vr dX4_multiplySpectra_81 (c_X1_timesI (ps_ne hne.1 hf) hp hx hw) rfl rfl mq_X1_times ml_X4_63 ⟨Nat.le_of_ble_eq_true rfl, Nat.le_of_ble_eq_true rfl⟩ (ps_ne hne.1 hf) rfl rfl rfl (Nat.le_of_ble_eq_true rfl) (r_istore dX4_multiplySpectra_84 rfl (Nat.le_of_ble_eq_true rfl) ?_))))
        refine r_iinc dX4_multiplySpectra_86 rfl rfl (r_goto 15 dX4_multiplySpectra_89 (by decide) ?_)
        refine r_loc [(0, some (.ref m)), (1, some (.ref q)), (2, some (.ref sa)), (3, some (.ref sb)), (4, some (vi (L : Int))), (5, some (vi t)), (6, some (vi w)), (7, some (vi (x * w % (p : Int)))), (8, some (vi ((k + 1 : Nat) : Int)))] ⟨Or.inl rfl, Or.inl rfl, Or.inl rfl, Or.inl rfl, Or.inl rfl, Or.inl rfl, Or.inl rfl, Or.inl rfl, Or.inl rfl, trivial⟩ (ih (k + 1) (by omega) _ _ ⟨mX1, mX2⟩ ?_ (fun j hj => ?_))
        · rw [Int.pow_succ, ← Int.mul_assoc]
          exact (Cg.mod _).trans (hxc.mul (Cg.refl w))
        · by_cases e : j = k
          · subst e
            rw [upI_eq]
            exact ⟨⟨mP1, mP2⟩, (Cg.mod _).trans ((ev_cg hxc la.toNat).mul (ev_cg hxc lb.toNat))⟩
          · rw [upI_ne (by omega)]
            exact hsp j (by omega)
theorem c_X4_multiplySpectra {m sa sb L : Nat} {la lb t : Int} {f h sp0 : Int → Int} (h0 : S.1 m = some (cO 4 [.ref (m + 1)])) (h1 : S.1 (m + 1) = some (cI 64 sp0)) (hf : S.1 q = some (cO 1 [vi (p : Int), v1, v2, vi (genN p : Int)])) (hA : SeqAt S sa la f) (hB : SeqAt S sb lb h) (hne : q ≠ m + 1 ∧ sa ≠ m + 1 ∧ sa + 1 ≠ m + 1 ∧ sb ≠ m + 1 ∧ sb + 1 ≠ m + 1) (hla : 0 ≤ la ∧ la ≤ 32) (hlb : 0 ≤ lb ∧ lb ≤ 32) (oA : TermsOk la f) (oB : TermsOk lb h) (hp : 3 ≤ p ∧ p ≤ 100003) (hpp : Pr p) (hL : 1 ≤ L ∧ L ≤ 64) (ht : 0 ≤ t ∧ t < p) : PC g yX4_multiplySpectra cX4_multiplySpectra (iX4_multiplySpectra mc ms) [.ref m, .ref q, .ref sa, .ref sb, vi (L : Int), vi t] S (fun o S' => o = .inl none ∧ ∃ sp : Int → Int, (∀ j : Nat, j < L → (0 ≤ sp (j : Int) ∧ sp (j : Int) < p) ∧ Cg p (sp (j : Int)) (AB f h la.toNat lb.toNat t (rtI p L) j)) ∧ S' = ps_put S (m + 1) (cI 64 sp)) := by
  have hrt := rtI_bd (p := p) (n := L) (by omega)
  have hcr : PC g yX1_rootOfOrder cX1_rootOfOrder (iX1_rootOfOrder 0 0) [.ref q, vi (L : Int)] S (Rt (some (vi (rtI p L))) S) := c_X1_rootI (n := (L : Int)) hf hp hpp (by omega)
  refine PC_of pnX4 rfl rfl rfl (Nat.le_of_ble_eq_true rfl) ?_
  refine r_aload_n dX4_multiplySpectra_0 (i := 1) rfl rfl (r_iload dX4_multiplySpectra_1 rfl (c_vr dX4_multiplySpectra_3 (hcr) rfl rfl mq_X1_rootOfOrder ml_X4_31 ⟨Nat.le_of_ble_eq_true rfl, Nat.le_of_ble_eq_true rfl⟩ hf rfl rfl rfl (Nat.le_of_ble_eq_true rfl) (r_istore dX4_multiplySpectra_6 rfl (Nat.le_of_ble_eq_true rfl) (r_iload dX4_multiplySpectra_8 rfl ?_))))
  refine r_istore dX4_multiplySpectra_10 rfl (Nat.le_of_ble_eq_true rfl) (r_iconst dX4_multiplySpectra_12 (r_istore dX4_multiplySpectra_13 rfl (Nat.le_of_ble_eq_true rfl) ?_))
  refine r_ps (ps_put_self h1).symm ?_
  exact r_loc [(0, some (.ref m)), (1, some (.ref q)), (2, some (.ref sa)), (3, some (.ref sb)), (4, some (vi (L : Int))), (5, some (vi t)), (6, some (vi (rtI p L))), (7, some (vi t)), (8, some (vi ((0 : Nat) : Int)))] ⟨Or.inl rfl, Or.inl rfl, Or.inl rfl, Or.inl rfl, Or.inl rfl, Or.inl rfl, Or.inl rfl, Or.inl rfl, Or.inl rfl, trivial⟩ (l_spec (sp0 := sp0) h0 hf hA hB hne hla hlb oA oB hp hL hrt (fun sp hsp => ⟨rfl, sp, hsp, rfl⟩) L 0 (by omega) t sp0 ht (by rw [Int.pow_zero, Int.mul_one]; exact Cg.refl t) (fun j hj => by omega))
/-- the next mixed digit -/
theorem l_widen {m pr L : Nat} {c kd st md fc t rad r0 tb rb li : Int} {sp vf cf : Int → Int} (h0 : S.1 m = some (cO 4 [.ref (m + 1)])) (h1 : S.1 (m + 1) = some (cI 64 sp)) (hpr : S.1 pr = some (cO 6 [.ref (pr + 1), .ref (pr + 2), vi fc, vi c, vi kd, vi st, vi (L : Int), vl md])) (hf : S.1 q = some (cO 1 [vi (p : Int), v1, v2, v3])) (hne : m ≠ pr + 1 ∧ m + 1 ≠ pr + 1 ∧ q ≠ pr + 1) (hp : 3 ≤ p ∧ p ≤ 100003) (hL : 1 ≤ L ∧ L ≤ 64) (hc : 0 ≤ c ∧ c ≤ 64) (hr0 : 0 ≤ r0 ∧ r0 < p) (htb : 0 ≤ tb ∧ tb < p) (hrb : 0 ≤ rb ∧ rb < p) (hrad : 1 ≤ rad ∧ rad * (p : Int) ≤ 4000000000000000000) (hrr : Cg p (rad * rb) 1) (hsp : ∀ j : Int, 0 ≤ j → j < L → 0 ≤ sp j ∧ sp j < p) (hvf : ∀ k : Int, 0 ≤ k → k < c → 0 ≤ vf k ∧ vf k < rad) (hcf : ∀ k : Nat, (k : Int) < c → ∀ x y : Int, Cg p x (li * tb ^ k) → Cg p y (r0 ^ k) → Cg p (x * SM (fun j => sp (j : Int) * y ^ j) L) (cf (k : Int))) (hq : ∀ vf' : Int → Int, (∀ k : Int, 0 ≤ k → k < c → (0 ≤ vf' k ∧ vf' k < rad * (p : Int)) ∧ Cg p (vf' k) (cf k) ∧ ∃ d, vf' k = vf k + rad * d) → Q (.inl none) (ps_put S (pr + 1) (cJ 64 vf'))) : ∀ (r k : Nat), (k : Int) + r = c → ∀ (x y : Int) (vk : Int → Int), (0 ≤ x ∧ x < p) → (0 ≤ y ∧ y < p) → Cg p x (li * tb ^ k) → Cg p y (r0 ^ k) → (∀ j : Int, 0 ≤ j → j < k → (0 ≤ vk j ∧ vk j < rad * (p : Int)) ∧ Cg p (vk j) (cf j) ∧ ∃ d, vk j = vf j + rad * d) → (∀ j : Int, (k : Int) ≤ j → j < c → vk j = vf j) →
    PW g cX4_widen (iX4_widen mc ms) 54 [(0, some (.ref m)), (1, some (.ref pr)), (2, some (.ref q)), (3, some (vi t)), (4, some (vl rad)), (6, some (vi r0)), (7, some (vi tb)), (8, some (vi rb)), (9, some (vi x)), (10, some (vi y)), (11, some (vi (k : Int)))] [] (ps_put S (pr + 1) (cJ 64 vk)) kc ks Q := by
  intro r
  induction r with
  | zero =>
    intro k hk x y vk hx hy hxc hyc hd hs
    have gp : (ps_put S (pr + 1) (cJ 64 vk)).1 pr = some (cO 6 [.ref (pr + 1), .ref (pr + 2), vi fc, vi c, vi kd, vi st, vi (L : Int), vl md]) := ps_ne (by omega) hpr
    refine r_iload dX4_widen_54 rfl (r_aload_n dX4_widen_56 (i := 1) rfl rfl (r_get dX4_widen_57 fl_X4_74 gp rfl ?_))
    refine r_icmp_ge 155 dX4_widen_60 (by decide) (by omega) (by omega) (fun c1 => ?_) (fun c1 => ?_)
    · refine r_vret dX4_widen_155 rfl ?_
      exact hq vk (fun j j0 j1 => hd j j0 (by omega))
    · omega
  | succ r ih =>
    intro k hk x y vk hx hy hxc hyc hd hs
    have g0 : (ps_put S (pr + 1) (cJ 64 vk)).1 m = some (cO 4 [.ref (m + 1)]) := ps_ne hne.1 h0
    have g1 : (ps_put S (pr + 1) (cJ 64 vk)).1 (m + 1) = some (cI 64 sp) := ps_ne hne.2.1 h1
    have gp : (ps_put S (pr + 1) (cJ 64 vk)).1 pr = some (cO 6 [.ref (pr + 1), .ref (pr + 2), vi fc, vi c, vi kd, vi st, vi (L : Int), vl md]) := ps_ne (by omega) hpr
    have gf : (ps_put S (pr + 1) (cJ 64 vk)).1 q = some (cO 1 [vi (p : Int), v1, v2, v3]) := ps_ne hne.2.2 hf
    have hbS : ∀ j : Int, 0 ≤ j → j < (L : Int) → -100003 ≤ sp j ∧ sp j ≤ 100003 := fun j j0 j1 => by have := hsp j j0 j1; omega
    have hv0 := hvf k (by omega) (by omega)
    have hvk : vk (k : Int) = vf (k : Int) := hs k (by omega) (by omega)
    have hradM : rad ≤ rad * (p : Int) := by
      have := Int.mul_le_mul_of_nonneg_left (show (1 : Int) ≤ p by omega) (show 0 ≤ rad by omega)
      omega
    have mE1 := Int.emod_nonneg (sfx sp y L 0) (show (p : Int) ≠ 0 by omega)
    have mE2 := Int.emod_lt_of_pos (sfx sp y L 0) (show (0 : Int) < p by omega)
    have mR1 := Int.emod_nonneg (x * (sfx sp y L 0 % (p : Int))) (show (p : Int) ≠ 0 by omega)
    have mR2 := Int.emod_lt_of_pos (x * (sfx sp y L 0 % (p : Int))) (show (0 : Int) < p by omega)
    have mV1 := Int.emod_nonneg (vk (k : Int)) (show (p : Int) ≠ 0 by omega)
    have mV2 := Int.emod_lt_of_pos (vk (k : Int)) (show (0 : Int) < p by omega)
    have mM1 := Int.emod_nonneg (x * (sfx sp y L 0 % (p : Int)) % (p : Int) - vk (k : Int) % (p : Int)) (show (p : Int) ≠ 0 by omega)
    have mM2 := Int.emod_lt_of_pos (x * (sfx sp y L 0 % (p : Int)) % (p : Int) - vk (k : Int) % (p : Int)) (show (0 : Int) < p by omega)
    have mD1 := Int.emod_nonneg ((x * (sfx sp y L 0 % (p : Int)) % (p : Int) - vk (k : Int) % (p : Int)) % (p : Int) * rb) (show (p : Int) ≠ 0 by omega)
    have mD2 := Int.emod_lt_of_pos ((x * (sfx sp y L 0 % (p : Int)) % (p : Int) - vk (k : Int) % (p : Int)) % (p : Int) * rb) (show (0 : Int) < p by omega)
    have mY1 := Int.emod_nonneg (y * r0) (show (p : Int) ≠ 0 by omega)
    have mY2 := Int.emod_lt_of_pos (y * r0) (show (0 : Int) < p by omega)
    have mX1 := Int.emod_nonneg (x * tb) (show (p : Int) ≠ 0 by omega)
    have mX2 := Int.emod_lt_of_pos (x * tb) (show (0 : Int) < p by omega)
    refine r_iload dX4_widen_54 rfl (r_aload_n dX4_widen_56 (i := 1) rfl rfl (r_get dX4_widen_57 fl_X4_74 gp rfl ?_))
    refine r_icmp_ge 155 dX4_widen_60 (by decide) (by omega) (by omega) (fun c1 => ?_) (fun c1 => ?_)
    · omega
    · refine r_aload_n dX4_widen_63 (i := 2) rfl rfl (r_iload dX4_widen_64 rfl (r_aload_n dX4_widen_66 (i := 2) rfl rfl (r_aload_n dX4_widen_67 (i := 0) rfl rfl (r_get dX4_widen_68 fl_X4_9 g0 rfl ?_))))
      refine r_aload_n dX4_widen_71 (i := 1) rfl rfl (r_get dX4_widen_72 fl_X4_28 gp rfl (r_iload dX4_widen_75 rfl (c_vr dX4_widen_77 (c_X1_evaluate (len := 64) gf hp g1 (by omega) (by omega) hy hbS) rfl rfl mq_X1_evaluate ml_X4_59 ⟨Nat.le_of_ble_eq_true rfl, Nat.le_of_ble_eq_true rfl⟩ gf rfl rfl rfl (Nat.le_of_ble_eq_true rfl) (c_vr dX4_widen_80 (c_X1_timesI gf hp hx ⟨mE1, mE2⟩) rfl rfl mq_X1_times ml_X4_63 ⟨Nat.le_of_ble_eq_true rfl, Nat.le_of_ble_eq_true rfl⟩ gf rfl rfl rfl (Nat.le_of_ble_eq_true rfl) ?_))))
      refine r_istore dX4_widen_83 rfl (Nat.le_of_ble_eq_true rfl) ?_
      refine r_aload_n dX4_widen_85 (i := 2) rfl rfl (r_iload dX4_widen_86 rfl (r_i2l dX4_widen_88 (by omega) (r_aload_n dX4_widen_89 (i := 2) rfl rfl (r_aload_n dX4_widen_90 (i := 1) rfl rfl ?_))))
      refine r_get dX4_widen_91 fl_X4_75 gp rfl (r_iload dX4_widen_94 rfl (r_lald dX4_widen_96 (ps_same) (by omega) (by omega) (by omega) (c_vr dX4_widen_97 (c_X1_residueOf gf hp (by omega)) rfl rfl mq_X1_residueOf ml_X4_70 ⟨Nat.le_of_ble_eq_true rfl, Nat.le_of_ble_eq_true rfl⟩ gf rfl rfl rfl (Nat.le_of_ble_eq_true rfl) (r_i2l dX4_widen_100 (by omega) ?_))))
      refine r_lsub dX4_widen_101 (c_vr dX4_widen_102 (c_X1_residueOf gf hp (by omega)) rfl rfl mq_X1_residueOf ml_X4_70 ⟨Nat.le_of_ble_eq_true rfl, Nat.le_of_ble_eq_true rfl⟩ gf rfl rfl rfl (Nat.le_of_ble_eq_true rfl) (r_istore dX4_widen_105 rfl (Nat.le_of_ble_eq_true rfl) ?_))
      refine r_aload_n dX4_widen_107 (i := 1) rfl rfl (r_get dX4_widen_108 fl_X4_75 gp rfl (r_iload dX4_widen_111 rfl ?_))
      refine r_dup2_11 dX4_widen_113 rfl rfl ?_
      refine r_lald dX4_widen_114 (ps_same) (by omega) (by omega) (by omega) (r_lload dX4_widen_115 rfl (r_aload_n dX4_widen_117 (i := 2) rfl rfl (r_iload dX4_widen_118 rfl (r_iload dX4_widen_120 rfl ?_))))
      refine c_vr dX4_widen_122 (c_X1_timesI gf hp ⟨mM1, mM2⟩ hrb) rfl rfl mq_X1_times ml_X4_63 ⟨Nat.le_of_ble_eq_true rfl, Nat.le_of_ble_eq_true rfl⟩ gf rfl rfl rfl (Nat.le_of_ble_eq_true rfl) (r_i2l dX4_widen_125 (by omega) (r_lmul dX4_widen_126 (r_ladd dX4_widen_127 (r_last dX4_widen_128 (ps_same) (by omega) (by omega) (by omega) ?_))))
      rw [ps_put_put]
      refine r_aload_n dX4_widen_129 (i := 2) rfl rfl (r_iload dX4_widen_130 rfl (r_iload dX4_widen_132 rfl (c_vr dX4_widen_134 (c_X1_timesI (ps_ne hne.2.2 hf) hp hy hr0) rfl rfl mq_X1_times ml_X4_63 ⟨Nat.le_of_ble_eq_true rfl, Nat.le_of_ble_eq_true rfl⟩ (ps_ne hne.2.2 hf) rfl rfl rfl (Nat.le_of_ble_eq_true rfl) (r_istore dX4_widen_137 rfl (Nat.le_of_ble_eq_true rfl) ?_))))
      refine r_aload_n dX4_widen_139 (i := 2) rfl rfl (r_iload dX4_widen_140 rfl (r_iload dX4_widen_142 rfl (c_vr dX4_widen_144 (c_X1_timesI (ps_ne hne.2.2 hf) hp hx htb) rfl rfl mq_X1_times ml_X4_63 ⟨Nat.le_of_ble_eq_true rfl, Nat.le_of_ble_eq_true rfl⟩ (ps_ne hne.2.2 hf) rfl rfl rfl (Nat.le_of_ble_eq_true rfl) (r_istore dX4_widen_147 rfl (Nat.le_of_ble_eq_true rfl) ?_))))
      refine r_iinc dX4_widen_149 rfl rfl (r_goto 54 dX4_widen_152 (by decide) ?_)
      refine r_loc [(0, some (.ref m)), (1, some (.ref pr)), (2, some (.ref q)), (3, some (vi t)), (4, some (vl rad)), (6, some (vi r0)), (7, some (vi tb)), (8, some (vi rb)), (9, some (vi (x * tb % (p : Int)))), (10, some (vi (y * r0 % (p : Int)))), (11, some (vi ((k + 1 : Nat) : Int)))] ⟨Or.inl rfl, Or.inl rfl, Or.inl rfl, Or.inl rfl, Or.inl rfl, Or.inl rfl, Or.inl rfl, Or.inl rfl, Or.inl rfl, Or.inl rfl, Or.inl rfl, trivial⟩ (ih (k + 1) (by omega) _ _ _ ⟨mX1, mX2⟩ ⟨mY1, mY2⟩ ?_ ?_ (fun j j0 j1 => ?_) (fun j j0 j1 => ?_))
      · rw [Int.pow_succ, ← Int.mul_assoc]
        exact (Cg.mod _).trans (hxc.mul (Cg.refl tb))
      · rw [Int.pow_succ]
        exact (Cg.mod _).trans (hyc.mul (Cg.refl r0))
      · by_cases e : j = k
        · subst e
          rw [upI_eq]
          have hdl := Int.mul_le_mul_of_nonneg_left (show (x * (sfx sp y L 0 % (p : Int)) % (p : Int) - vk (k : Int) % (p : Int)) % (p : Int) * rb % (p : Int) ≤ (p : Int) - 1 by omega) (show 0 ≤ rad by omega)
          have hdn := Int.mul_nonneg (show 0 ≤ rad by omega) mD1
          rw [Int.mul_sub, Int.mul_one] at hdl
          refine ⟨⟨by omega, by omega⟩, ?_, _, by rw [hvk]⟩
          have q1 : Cg p (x * (sfx sp y L 0 % (p : Int)) % (p : Int)) (cf (k : Int)) := by
            refine (Cg.mod _).trans (((Cg.refl x).mul (ev_cg (Cg.refl y) L)).trans ?_)
            exact hcf k (by omega) x y hxc hyc
          have q2 : Cg p (rad * ((x * (sfx sp y L 0 % (p : Int)) % (p : Int) - vk (k : Int) % (p : Int)) % (p : Int) * rb % (p : Int))) ((rad * rb) * (cf (k : Int) - vk (k : Int))) := by
            have a1 : Cg p ((x * (sfx sp y L 0 % (p : Int)) % (p : Int) - vk (k : Int) % (p : Int)) % (p : Int)) (cf (k : Int) - vk (k : Int)) := by
              refine (Cg.mod _).trans ?_
              have b1 := (Cg.refl (p := p) (-1)).mul (Cg.mod (p := p) (vk (k : Int)))
              have b2 := q1.add b1
              refine (Cg.of (by omega)).trans (b2.trans (Cg.of (by omega)))
            have a2 := (Cg.refl (p := p) rad).mul ((Cg.mod _).trans (a1.mul (Cg.refl rb)))
            exact a2.trans (Cg.of (by grind))
          have q3 := hrr.mul (Cg.refl (cf (k : Int) - vk (k : Int)))
          have q4 := (Cg.refl (p := p) (vk (k : Int))).add (q2.trans q3)
          exact q4.trans (Cg.of (by omega))
        · rw [upI_ne e]
          exact hd j j0 (by omega)
      · rw [upI_ne (by omega)]
        exact hs j (by omega) j1
end SPEC

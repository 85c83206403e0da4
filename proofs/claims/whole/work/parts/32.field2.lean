theorem tmod_emod (a : Int) (p : Int) : Int.tmod a p % p = a % p := by
  have h := Int.tmod_add_mul_tdiv a p
  conv => rhs; rw [← h]
  rw [Int.add_mul_emod_self_left]
theorem tmod_bd (a : Int) {p : Int} (hp : 0 < p) : -p < Int.tmod a p ∧ Int.tmod a p < p := ⟨Int.lt_tmod_of_pos a hp, Int.tmod_lt_of_pos a hp⟩
/-- m terms from the place j on: f j + f (j + 1) * x + .. -/
def sfx (f : Int → Int) (x : Int) : Nat → Int → Int
  | 0, _ => 0
  | m + 1, j => f j + x * sfx f x m (j + 1)
theorem mul_bd {a x : Int} {p : Nat} (h1 : -p ≤ a) (h2 : a ≤ p) (h3 : 0 ≤ x) (h4 : x ≤ p) (hp : p ≤ 100003) : -10000600009 ≤ a * x ∧ a * x ≤ 10000600009 := by
  have e1 : a * x ≤ 100003 * x := Int.mul_le_mul_of_nonneg_right (by omega) h3
  have e2 : (-100003) * x ≤ a * x := Int.mul_le_mul_of_nonneg_right (by omega) h3
  omega
section FIELD2
variable {g : GT} {S : PS} {mc ms : Nat} {q p fc gn : Nat} {ff : Int → Int} {v1 v2 v3 : Value}
theorem l_eval {t len : Nat} {f : Int → Int} {x cnt : Int} (h : S.1 q = some (cO 1 [vi (p : Int), v1, v2, v3])) (hp : 3 ≤ p ∧ p ≤ 100003) (ha : S.1 t = some (cI len f)) (hl : len < 100000) (hc : cnt ≤ len) (hx : 0 ≤ x ∧ x < p) (hf : ∀ k : Int, 0 ≤ k → k < cnt → -100003 ≤ f k ∧ f k ≤ 100003) {Q : PO → PS → Prop} {kc ks : Nat} (hq : Q (.inl (some (vi (sfx f x cnt.toNat 0 % p)))) S) : ∀ (n m : Nat) (s : Int), (m : Int) + n = cnt → -(p : Int) < s → s < p → s % p = sfx f x m (n : Int) % p →
    PW g cX1_evaluate (iX1_evaluate mc ms) 13 [(0, some (.ref q)), (1, some (.ref t)), (3, some (vi x)), (4, some (vl s)), (6, some (vi ((n : Int) - 1)))] [] S kc ks Q := by
  intro n
  induction n with
  | zero =>
    intro m s hn h1 h2 he
    refine r_iload dX1_evaluate_13 rfl ?_
    refine r_if_lt 43 dX1_evaluate_15 (by decide) (by omega) (fun h3 => ?_) (fun h3 => ?_)
    · refine r_aload_n dX1_evaluate_43 (i := 0) rfl rfl (r_lload dX1_evaluate_44 rfl (c_vr dX1_evaluate_46 (c_X1_residueOf h hp (by omega)) rfl rfl mq_X1_residueOf ml_X1_52 ⟨Nat.le_of_ble_eq_true rfl, Nat.le_of_ble_eq_true rfl⟩ h rfl rfl rfl (Nat.le_of_ble_eq_true rfl) (r_iret dX1_evaluate_49 rfl rfl ?_)))
      rw [he, show m = cnt.toNat by omega]
      exact hq
    · omega
  | succ n ih =>
    intro m s hn h1 h2 he
    have hfn := hf n (by omega) (by omega)
    have hb := mul_bd (a := s) (x := x) (p := p) (by omega) (by omega) hx.1 (by omega) hp.2
    refine r_iload dX1_evaluate_13 rfl ?_
    refine r_if_lt 43 dX1_evaluate_15 (by decide) (by omega) (fun h3 => ?_) (fun h3 => ?_)
    · omega
    · rw [show (((n + 1 : Nat) : Int) - 1) = (n : Int) by omega]
      have hd := tmod_bd (s * x + f n) (p := (p : Int)) (by omega)
      refine r_lload dX1_evaluate_18 rfl (r_iload_n dX1_evaluate_20 (i := 3) rfl rfl (r_i2l dX1_evaluate_21 (by omega) (r_lmul dX1_evaluate_22 (r_aload_n dX1_evaluate_23 (i := 1) rfl rfl ?_))))
      refine r_iload dX1_evaluate_24 rfl (r_iald dX1_evaluate_26 ha (by omega) (by omega) (by omega) (r_i2l dX1_evaluate_27 (by omega) (r_ladd dX1_evaluate_28 (r_aload_n dX1_evaluate_29 (i := 0) rfl rfl ?_))))
      refine r_get dX1_evaluate_30 fl_X1_21 h rfl (r_i2l dX1_evaluate_33 (by omega) (r_lrem dX1_evaluate_34 (by omega) (by omega) (by omega) (r_lstore dX1_evaluate_35 rfl (Nat.le_of_ble_eq_true rfl) (r_iinc dX1_evaluate_37 rfl rfl ?_))))
      refine r_goto 13 dX1_evaluate_40 (by decide) ?_
      refine r_loc [(0, some (.ref q)), (1, some (.ref t)), (3, some (vi x)), (4, some (vl (Int.tmod (s * x + f n) p))), (6, some (vi ((n : Int) - 1)))] ⟨Or.inl rfl, Or.inl rfl, Or.inl rfl, Or.inl rfl, Or.inl rfl, trivial⟩ ?_
      refine ih (m + 1) _ (by omega) hd.1 hd.2 ?_
      rw [tmod_emod]
      show _ = (f n + x * sfx f x m ((n : Int) + 1)) % p
      have e : ((n + 1 : Nat) : Int) = (n : Int) + 1 := rfl
      rw [e] at he
      rw [Int.add_comm (f n), Int.add_emod, Int.mul_emod, he, ← Int.mul_emod, ← Int.add_emod, Int.mul_comm]
/-- a polynomial's value modulo p -/
theorem c_X1_evaluate {t len : Nat} {f : Int → Int} {x cnt : Int} (h : S.1 q = some (cO 1 [vi (p : Int), v1, v2, v3])) (hp : 3 ≤ p ∧ p ≤ 100003) (ha : S.1 t = some (cI len f)) (hl : len < 100000) (hc : 0 ≤ cnt ∧ cnt ≤ len) (hx : 0 ≤ x ∧ x < p) (hf : ∀ k : Int, 0 ≤ k → k < cnt → -100003 ≤ f k ∧ f k ≤ 100003) : PC g yX1_evaluate cX1_evaluate (iX1_evaluate mc ms) [.ref q, .ref t, vi cnt, vi x] S (Rt (some (vi (sfx f x cnt.toNat 0 % p))) S) := by
  refine PC_of pnX1 rfl rfl rfl (Nat.le_of_ble_eq_true rfl) ?_
  refine r_lconst (z := 0) dX1_evaluate_0 (by decide) (r_lstore dX1_evaluate_1 rfl (Nat.le_of_ble_eq_true rfl) (r_iload_n dX1_evaluate_3 (i := 2) rfl rfl (r_aload_n dX1_evaluate_4 (i := 1) rfl rfl (r_alen (z := (len : Int)) dX1_evaluate_5 ha rfl ?_))))
  refine r_mmin dX1_evaluate_6 mw_X1_49 (by omega) (by omega) (Nat.le_of_ble_eq_true rfl) (Nat.le_of_ble_eq_true rfl) (r_iconst dX1_evaluate_9 (r_isub dX1_evaluate_10 (r_istore dX1_evaluate_11 rfl (Nat.le_of_ble_eq_true rfl) ?_)))
  rw [Int.min_eq_left (by omega)]
  refine r_loc [(0, some (.ref q)), (1, some (.ref t)), (3, some (vi x)), (4, some (vl 0)), (6, some (vi (((cnt.toNat : Nat) : Int) - 1)))] ⟨Or.inl rfl, Or.inl rfl, Or.inl rfl, Or.inl rfl, Or.inl (by rw [Int.toNat_of_nonneg hc.1]; rfl), trivial⟩ ?_
  exact l_eval h hp ha hl hc.2 hx hf ⟨rfl, rfl⟩ cnt.toNat 0 0 (by omega) (by omega) (by omega) rfl
/-- how many n from 1 to k divide p - 1 -/
def ndiv (m : Int) : Nat → Int
  | 0 => 0
  | k + 1 => ndiv m k + b2i (m % ((k + 1 : Nat) : Int) = 0)
theorem ndiv_bd (m : Int) : ∀ k, 0 ≤ ndiv m k ∧ ndiv m k ≤ k
  | 0 => ⟨Int.le_refl _, Int.le_refl _⟩
  | k + 1 => by
    have h1 := ndiv_bd m k
    have h2 := b2i_01 (p := m % ((k + 1 : Nat) : Int) = 0)
    show 0 ≤ _ + _ ∧ _ + _ ≤ _
    omega
theorem l_lengths (h : S.1 q = some (cO 1 [vi (p : Int), v1, v2, v3])) (hp : 3 ≤ p ∧ p ≤ 100003) {Q : PO → PS → Prop} {kc ks : Nat} (hq : Q (.inl (some (vi (ndiv ((p : Int) - 1) 64)))) S) : ∀ (n k : Nat), k + n = 64 →
    PW g cX1_transformLengths (iX1_transformLengths mc ms) 4 [(0, some (.ref q)), (1, some (vi (ndiv ((p : Int) - 1) k))), (2, some (vi ((k + 1 : Nat) : Int)))] [] S kc ks Q := by
  intro n
  induction n with
  | zero =>
    intro k hk
    have : k = 64 := by omega
    subst this
    refine r_iload_n dX1_transformLengths_4 (i := 2) rfl rfl (r_bipush dX1_transformLengths_5 (by decide) ?_)
    refine r_icmp_gt 27 dX1_transformLengths_7 (by decide) (by omega) (by omega) (fun h1 => ?_) (fun h1 => ?_)
    · refine r_iload_n dX1_transformLengths_27 (i := 1) rfl rfl (r_iret dX1_transformLengths_28 rfl rfl ?_)
      exact hq
    · omega
  | succ n ih =>
    intro k hk
    have hb := ndiv_bd ((p : Int) - 1) k
    have e : ndiv ((p : Int) - 1) (k + 1) = ndiv ((p : Int) - 1) k + b2i (((p : Int) - 1) % ((k + 1 : Nat) : Int) = 0) := rfl
    have e2 : b2i (0 < ((k + 1 : Nat) : Int) ∧ ((p : Int) - 1) % ((k + 1 : Nat) : Int) = 0) = b2i (((p : Int) - 1) % ((k + 1 : Nat) : Int) = 0) := b2i_iff ⟨fun h => h.2, fun h => ⟨by omega, h⟩⟩
    refine r_iload_n dX1_transformLengths_4 (i := 2) rfl rfl (r_bipush dX1_transformLengths_5 (by decide) ?_)
    refine r_icmp_gt 27 dX1_transformLengths_7 (by decide) (by omega) (by omega) (fun h1 => ?_) (fun h1 => ?_)
    · omega
    · refine r_aload_n dX1_transformLengths_10 (i := 0) rfl rfl (r_iload_n dX1_transformLengths_11 (i := 2) rfl rfl (c_vr dX1_transformLengths_12 (c_X1_hasRoot h hp (by omega)) rfl rfl mq_X1_hasRoot ml_X1_45 ⟨Nat.le_of_ble_eq_true rfl, Nat.le_of_ble_eq_true rfl⟩ h rfl rfl rfl (Nat.le_of_ble_eq_true rfl) ?_))
      refine r_if_eq 21 dX1_transformLengths_15 (by decide) b2i_RI (fun h2 => ?_) (fun h2 => ?_)
      · refine r_iinc dX1_transformLengths_21 rfl rfl (r_goto 4 dX1_transformLengths_24 (by decide) ?_)
        rw [e2] at h2
        rw [h2, Int.add_zero] at e
        refine r_loc [(0, some (.ref q)), (1, some (vi (ndiv ((p : Int) - 1) (k + 1)))), (2, some (vi ((k + 1 + 1 : Nat) : Int)))] ⟨Or.inl rfl, Or.inl (by rw [e]; rfl), Or.inl rfl, trivial⟩ ?_
        exact ih (k + 1) (by omega)
      · refine r_iinc dX1_transformLengths_18 rfl rfl (r_iinc dX1_transformLengths_21 rfl rfl (r_goto 4 dX1_transformLengths_24 (by decide) ?_))
        rw [e2] at h2
        have h3 : b2i (((p : Int) - 1) % ((k + 1 : Nat) : Int) = 0) = 1 := b2i_t (b2i_ne h2)
        rw [h3] at e
        refine r_loc [(0, some (.ref q)), (1, some (vi (ndiv ((p : Int) - 1) (k + 1)))), (2, some (vi ((k + 1 + 1 : Nat) : Int)))] ⟨Or.inl rfl, Or.inl (by rw [e]; rfl), Or.inl rfl, trivial⟩ ?_
        exact ih (k + 1) (by omega)
theorem c_X1_transformLengths (h : S.1 q = some (cO 1 [vi (p : Int), v1, v2, v3])) (hp : 3 ≤ p ∧ p ≤ 100003) : PC g yX1_transformLengths cX1_transformLengths (iX1_transformLengths mc ms) [.ref q] S (Rt (some (vi (ndiv ((p : Int) - 1) 64))) S) := by
  refine PC_of pnX1 rfl rfl rfl (Nat.le_of_ble_eq_true rfl) ?_
  refine r_iconst dX1_transformLengths_0 (r_istore_n dX1_transformLengths_1 (i := 1) rfl rfl (Nat.le_of_ble_eq_true rfl) (r_iconst dX1_transformLengths_2 (r_istore_n dX1_transformLengths_3 (i := 2) rfl rfl (Nat.le_of_ble_eq_true rfl) ?_)))
  refine r_loc [(0, some (.ref q)), (1, some (vi (ndiv ((p : Int) - 1) 0))), (2, some (vi ((0 + 1 : Nat) : Int)))] ⟨Or.inl rfl, Or.inl rfl, Or.inl rfl, trivial⟩ ?_
  exact l_lengths h hp ⟨rfl, rfl⟩ 64 0 rfl
end FIELD2

/-! the class: Product's questions -/
section PROD
variable {g : GT} {S : PS} {mc ms : Nat} {Q : PO → PS → Prop} {kc ks : Nat} {b F : Nat} {a : Int → Int} {fc c kd st ln md : Int} {vf : Int → Int} {pf : Int → Option Nat}
theorem c_X6_isPresent (h : S.1 (b + 3) = some (pO b fc c kd st ln md)) (hc : 0 ≤ c ∧ c ≤ 64) : PC g yX6_isPresent cX6_isPresent (iX6_isPresent mc ms) [.ref (b + 3)] S (Rt (some (vi (b2i (0 < c)))) S) := by
  refine PC_of pnX6 rfl rfl rfl (Nat.le_of_ble_eq_true rfl) ?_
  refine r_aload_n dX6_isPresent_0 (i := 0) rfl rfl (r_get dX6_isPresent_1 fl_X6_25 h rfl ?_)
  refine r_if_le 11 dX6_isPresent_4 (by decide) (by omega) (fun c1 => ?_) (fun c1 => ?_)
  · refine r_iconst dX6_isPresent_11 ?_
    refine r_iret dX6_isPresent_12 rfl (q_narZ (by first | exact Or.inl rfl | exact Or.inr rfl)) ?_
    first | omega | exact ⟨rfl, rfl⟩ | exact ⟨by rw [b2i_t (by omega)], rfl⟩ | exact ⟨by rw [b2i_f (by omega)], rfl⟩
  · refine r_iconst dX6_isPresent_7 (r_goto 12 dX6_isPresent_8 (by decide) ?_)
    refine r_iret dX6_isPresent_12 rfl (q_narZ (by first | exact Or.inl rfl | exact Or.inr rfl)) ?_
    first | omega | exact ⟨rfl, rfl⟩ | exact ⟨by rw [b2i_t (by omega)], rfl⟩ | exact ⟨by rw [b2i_f (by omega)], rfl⟩
theorem c_X6_hasCoefficient {k : Int} (h : S.1 (b + 3) = some (pO b fc c kd st ln md)) (hc : 0 ≤ c ∧ c ≤ 64) (hk : RI k) : PC g yX6_hasCoefficient cX6_hasCoefficient (iX6_hasCoefficient mc ms) [.ref (b + 3), vi k] S (Rt (some (vi (b2i (0 ≤ k ∧ k < c)))) S) := by
  refine PC_of pnX6 rfl rfl rfl (Nat.le_of_ble_eq_true rfl) ?_
  refine r_iload_n dX6_hasCoefficient_0 (i := 1) rfl rfl ?_
  refine r_if_lt 16 dX6_hasCoefficient_1 (by decide) (by omega) (fun c1 => ?_) (fun c1 => ?_)
  · refine r_iconst dX6_hasCoefficient_16 ?_
    refine r_iret dX6_hasCoefficient_17 rfl (q_narZ (by first | exact Or.inl rfl | exact Or.inr rfl)) ?_
    first | omega | exact ⟨rfl, rfl⟩ | exact ⟨by rw [b2i_t (by omega)], rfl⟩ | exact ⟨by rw [b2i_f (by omega)], rfl⟩
  · refine r_iload_n dX6_hasCoefficient_4 (i := 1) rfl rfl (r_aload_n dX6_hasCoefficient_5 (i := 0) rfl rfl (r_get dX6_hasCoefficient_6 fl_X6_25 h rfl ?_))
    refine r_icmp_ge 16 dX6_hasCoefficient_9 (by decide) (by omega) (by omega) (fun c2 => ?_) (fun c2 => ?_)
    · refine r_iconst dX6_hasCoefficient_16 ?_
      refine r_iret dX6_hasCoefficient_17 rfl (q_narZ (by first | exact Or.inl rfl | exact Or.inr rfl)) ?_
      first | omega | exact ⟨rfl, rfl⟩ | exact ⟨by rw [b2i_t (by omega)], rfl⟩ | exact ⟨by rw [b2i_f (by omega)], rfl⟩
    · refine r_iconst dX6_hasCoefficient_12 (r_goto 17 dX6_hasCoefficient_13 (by decide) ?_)
      refine r_iret dX6_hasCoefficient_17 rfl (q_narZ (by first | exact Or.inl rfl | exact Or.inr rfl)) ?_
      first | omega | exact ⟨rfl, rfl⟩ | exact ⟨by rw [b2i_t (by omega)], rfl⟩ | exact ⟨by rw [b2i_f (by omega)], rfl⟩
theorem c_X6_clear (h : S.1 (b + 3) = some (pO b fc c kd st ln md)) : PC g yX6_clear cX6_clear (iX6_clear mc ms) [.ref (b + 3)] S (Rt none (ps_put S (b + 3) (pO b fc 0 kd st ln md))) := by
  refine PC_of pnX6 rfl rfl rfl (Nat.le_of_ble_eq_true rfl) ?_
  refine r_aload_n dX6_clear_0 (i := 0) rfl rfl (r_iconst dX6_clear_1 (r_put dX6_clear_2 fl_X6_25 h rfl rfl (Nat.le_of_ble_eq_true rfl) ?_))
  refine r_vret dX6_clear_5 rfl ?_
  first | omega | exact ⟨rfl, rfl⟩ | exact ⟨by rw [b2i_t (by omega)], rfl⟩ | exact ⟨by rw [b2i_f (by omega)], rfl⟩
def VOk (vf : Int → Int) (c : Int) : Prop := ∀ k : Int, 0 ≤ k → k < c → -2000000000000000000 ≤ vf k ∧ vf k ≤ 2000000000000000000
theorem l_pEv {x : Int} (h : S.1 (b + 3) = some (pO b fc c kd st ln md)) (h4 : S.1 (b + 4) = some (cJ 64 vf)) (hv : VOk vf c) (hc : 0 ≤ c ∧ c ≤ 64) (hx : RI x) (hq : Q (.inl (some (vi (sfx vf x c.toNat 0 % 1000003)))) S) : ∀ (r m : Nat) (sum : Int), (m : Int) + r = c → 0 ≤ sum → sum < 1000003 → sum % 1000003 = sfx vf x m (r : Int) % 1000003 →
    PW g cX6_evaluate (iX6_evaluate mc ms) 10 [(0, some (.ref (b + 3))), (1, some (vi x)), (2, some (vl sum)), (4, some (vi ((r : Int) - 1)))] [] S kc ks Q := by
  intro r
  induction r with
  | zero =>
    intro m sum hm h1 h2 he
    refine r_iload dX6_evaluate_10 rfl ?_
    refine r_if_lt 50 dX6_evaluate_12 (by decide) (by omega) (fun c1 => ?_) (fun c1 => ?_)
    · refine r_lload_n dX6_evaluate_50 (i := 2) rfl rfl (r_l2i dX6_evaluate_51 ?_)
      refine r_iret dX6_evaluate_52 rfl rfl ?_
      have e2 : sum % 1000003 = sum := Int.emod_eq_of_lt h1 h2
      rw [show c.toNat = m by omega] at hq
      rw [e2] at he
      rw [he]
      exact hq
    · omega
  | succ r ih =>
    intro m sum hm h1 h2 he
    have hf := hv (r : Int) (by omega) (by omega)
    have er : ((r + 1 : Nat) : Int) - 1 = (r : Int) := by omega
    have hxx := hx
    have hmb := mul_bd2 (M := 1000003) (N := 2147483648) (by omega) (by omega) (x := sum) (y := x) (by omega) ⟨hx.1, by have := hx.2; omega⟩
    have hsum := horn (P := 1000003) (by' := x) (fj := vf r) he
    rw [er]
    refine r_iload dX6_evaluate_10 rfl ?_
    refine r_if_lt 50 dX6_evaluate_12 (by decide) (by omega) (fun c1 => ?_) (fun c1 => ?_)
    · omega
    · refine r_aload_n dX6_evaluate_15 (i := 0) rfl rfl (r_get dX6_evaluate_16 fl_X6_9 h rfl (r_iload dX6_evaluate_19 rfl (r_lald dX6_evaluate_21 h4 (by omega) (by omega) (by omega) (r_ldc2 dX6_evaluate_22 csj_X6_62 ?_))))
      refine c_sr dX6_evaluate_25 (c_floorMod ⟨by omega, by omega⟩ ⟨by omega, by omega⟩ (by omega)) rfl rfl mq_J9_floorMod_f86c9 ml_X6_64 ⟨Nat.le_of_ble_eq_true rfl, Nat.le_of_ble_eq_true rfl⟩ rfl rfl (Nat.le_of_ble_eq_true rfl) (r_lstore dX6_evaluate_28 rfl (Nat.le_of_ble_eq_true rfl) (r_lload_n dX6_evaluate_30 (i := 2) rfl rfl (r_iload_n dX6_evaluate_31 (i := 1) rfl rfl (r_i2l dX6_evaluate_32 (by omega) ?_))))
      refine r_lmul dX6_evaluate_33 (r_lload dX6_evaluate_34 rfl (r_ladd dX6_evaluate_36 (r_ldc2 dX6_evaluate_37 csj_X6_62 (c_sr dX6_evaluate_40 (c_floorMod ⟨by omega, by omega⟩ ⟨by omega, by omega⟩ (by omega)) rfl rfl mq_J9_floorMod_f86c9 ml_X6_64 ⟨Nat.le_of_ble_eq_true rfl, Nat.le_of_ble_eq_true rfl⟩ rfl rfl (Nat.le_of_ble_eq_true rfl) ?_))))
      refine r_lstore_n dX6_evaluate_43 (i := 2) rfl rfl (Nat.le_of_ble_eq_true rfl) (r_iinc dX6_evaluate_44 rfl rfl (r_goto 10 dX6_evaluate_47 (by decide) ?_))
      refine r_loc [(0, some (.ref (b + 3))), (1, some (vi x)), (2, some (vl ((sum * x + vf r % 1000003) % 1000003))), (4, some (vi ((r : Int) - 1)))] ⟨Or.inl rfl, Or.inl rfl, Or.inl rfl, Or.inl rfl, trivial⟩ (ih (m + 1) _ (by omega) (by omega) (by omega) ?_)
      rw [Int.emod_emod_of_dvd _ (Int.dvd_refl _), hsum]
      rfl
theorem c_X6_evaluate {x : Int} (h : S.1 (b + 3) = some (pO b fc c kd st ln md)) (h4 : S.1 (b + 4) = some (cJ 64 vf)) (hv : VOk vf c) (hc : 0 ≤ c ∧ c ≤ 64) (hx : RI x) : PC g yX6_evaluate cX6_evaluate (iX6_evaluate mc ms) [.ref (b + 3), vi x] S (Rt (some (vi (sfx vf x c.toNat 0 % 1000003))) S) := by
  refine PC_of pnX6 rfl rfl rfl (Nat.le_of_ble_eq_true rfl) ?_
  refine r_lconst (z := 0) dX6_evaluate_0 (by decide) (r_lstore_n dX6_evaluate_1 (i := 2) rfl rfl (Nat.le_of_ble_eq_true rfl) (r_aload_n dX6_evaluate_2 (i := 0) rfl rfl (r_get dX6_evaluate_3 fl_X6_25 h rfl (r_iconst dX6_evaluate_6 ?_))))
  refine r_isub dX6_evaluate_7 (r_istore dX6_evaluate_8 rfl (Nat.le_of_ble_eq_true rfl) ?_)
  refine r_loc [(0, some (.ref (b + 3))), (1, some (vi x)), (2, some (vl 0)), (4, some (vi ((c.toNat : Int) - 1)))] ⟨Or.inl rfl, Or.inl rfl, Or.inl rfl, Or.inl (lvi_eq (by omega)), trivial⟩ ?_
  exact l_pEv h h4 hv hc hx ⟨rfl, rfl⟩ c.toNat 0 0 (by omega) (by omega) (by omega) rfl
def SqOk (vf : Int → Int) (c : Int) : Prop := c ≤ 32 ∧ ∀ k : Int, 0 ≤ k → k < c → -9999 ≤ vf k ∧ vf k ≤ 9999
theorem l_isSq (h : S.1 (b + 3) = some (pO b fc c kd st ln md)) (h4 : S.1 (b + 4) = some (cJ 64 vf)) (hv : VOk vf c) (hc : 0 ≤ c ∧ c ≤ 32) (hq : ∀ z, z = b2c (SqOk vf c) → Q (.inl (some (vi z))) S) : ∀ (n k : Nat), (k : Int) + n = c → (∀ j : Int, 0 ≤ j → j < k → -9999 ≤ vf j ∧ vf j ≤ 9999) →
    PW g cX6_isSequence (iX6_isSequence mc ms) 13 [(0, some (.ref (b + 3))), (1, some (vi (k : Int)))] [] S kc ks Q := by
  intro n
  induction n with
  | zero =>
    intro k hk hj
    refine r_iload_n dX6_isSequence_13 (i := 1) rfl rfl (r_aload_n dX6_isSequence_14 (i := 0) rfl rfl (r_get dX6_isSequence_15 fl_X6_25 h rfl ?_))
    refine r_icmp_ge 41 dX6_isSequence_18 (by decide) (by omega) (by omega) (fun c1 => ?_) (fun c1 => ?_)
    · refine r_iconst dX6_isSequence_41 ?_
      refine r_iret dX6_isSequence_42 rfl (q_narZ (by first | exact Or.inl rfl | exact Or.inr rfl)) ?_
      exact hq 1 (b2c_t ⟨hc.2, fun j j1 j2 => hj j j1 (by omega)⟩).symm
    · omega
  | succ n ih =>
    intro k hk hj
    have hvk := hv k (by omega) (by omega)
    refine r_iload_n dX6_isSequence_13 (i := 1) rfl rfl (r_aload_n dX6_isSequence_14 (i := 0) rfl rfl (r_get dX6_isSequence_15 fl_X6_25 h rfl ?_))
    refine r_icmp_ge 41 dX6_isSequence_18 (by decide) (by omega) (by omega) (fun c1 => ?_) (fun c1 => ?_)
    · omega
    · refine r_aload_n dX6_isSequence_21 (i := 0) rfl rfl (r_get dX6_isSequence_22 fl_X6_9 h rfl (r_iload_n dX6_isSequence_25 (i := 1) rfl rfl (r_lald dX6_isSequence_26 h4 (by omega) (by omega) (by omega) (c_srN dX6_isSequence_27 (c_X9_isTerm ⟨by omega, by omega⟩) rfl rfl mq_X9_isTerm ml_X6_68 ⟨Nat.le_of_ble_eq_true rfl, Nat.le_of_ble_eq_true rfl⟩ rfl rfl (Nat.le_of_ble_eq_true rfl) ?_))))
      refine r_if_ne 35 dX6_isSequence_30 (by decide) b2i_RI (fun c2 => ?_) (fun c2 => ?_)
      · replace c2 := b2i_ne c2
        refine r_iinc dX6_isSequence_35 rfl rfl (r_goto 13 dX6_isSequence_38 (by decide) ?_)
        refine r_loc [(0, some (.ref (b + 3))), (1, some (vi ((k + 1 : Nat) : Int)))] ⟨Or.inl rfl, Or.inl rfl, trivial⟩ (ih (k + 1) (by omega) (fun j j1 j2 => ?_))
        by_cases z : j = k
        · subst z
          assumption
        · exact hj j j1 (by omega)
      · replace c2 := b2i_eq c2
        refine r_iconst dX6_isSequence_33 ?_
        refine r_iret dX6_isSequence_34 rfl (q_narZ (by first | exact Or.inl rfl | exact Or.inr rfl)) ?_
        exact hq 0 (b2c_f (fun z => by have := z.2 k (by omega) (by omega); omega)).symm
theorem c_X6_isSequence (h : S.1 (b + 3) = some (pO b fc c kd st ln md)) (h4 : S.1 (b + 4) = some (cJ 64 vf)) (hv : VOk vf c) (hc : 0 ≤ c ∧ c ≤ 64) : PC g yX6_isSequence cX6_isSequence (iX6_isSequence mc ms) [.ref (b + 3)] S (Rt (some (vi (b2c (SqOk vf c)))) S) := by
  refine PC_of pnX6 rfl rfl rfl (Nat.le_of_ble_eq_true rfl) ?_
  refine r_aload_n dX6_isSequence_0 (i := 0) rfl rfl (r_get dX6_isSequence_1 fl_X6_25 h rfl (r_bipush dX6_isSequence_4 (by decide) ?_))
  refine r_icmp_le 11 dX6_isSequence_6 (by decide) (by omega) (by omega) (fun c1 => ?_) (fun c1 => ?_)
  · refine r_iconst dX6_isSequence_11 (r_istore_n dX6_isSequence_12 (i := 1) rfl rfl (Nat.le_of_ble_eq_true rfl) ?_)
    exact r_loc [(0, some (.ref (b + 3))), (1, some (vi ((0 : Nat) : Int)))] ⟨Or.inl rfl, Or.inl rfl, trivial⟩ (l_isSq h h4 hv (by omega) (fun z hz => ⟨by rw [hz], rfl⟩) c.toNat 0 (by omega) (fun j j1 j2 => by omega))
  · refine r_iconst dX6_isSequence_9 ?_
    refine r_iret dX6_isSequence_10 rfl (q_narZ (by first | exact Or.inl rfl | exact Or.inr rfl)) ?_
    exact ⟨by rw [b2c_f (fun z : SqOk vf c => by have := z.1; omega)], rfl⟩
/-- what is left of a coefficient behind i primes -/
def lfC (x : Int) (pr : Int → Int) : Nat → Int
  | 0 => x
  | i + 1 => lfC x pr i / pr (i : Int)
theorem lfC_bd {x : Int} {pr : Int → Int} {n : Int} (hx : 0 ≤ x ∧ x ≤ 6000000000000000000) (hp : ∀ i : Int, 0 ≤ i → i < n → 3 ≤ pr i) : ∀ i : Nat, (i : Int) ≤ n → 0 ≤ lfC x pr i ∧ lfC x pr i ≤ 6000000000000000000
  | 0, _ => hx
  | i + 1, hi => by
    have ih := lfC_bd hx hp i (by omega)
    have h3 := hp i (by omega) (by omega)
    have h4 := Int.ediv_nonneg ih.1 (show 0 ≤ pr (i : Int) by omega)
    have h5 := Int.ediv_le_self (pr (i : Int)) ih.1
    show 0 ≤ lfC x pr i / pr (i : Int) ∧ lfC x pr i / pr (i : Int) ≤ _
    omega
/-- the Fields of a product -/
def PfOk (S : PS) (pf : Int → Option Nat) (n : Int) (pr : Int → Int) : Prop := ∀ i : Int, 0 ≤ i → i < n → ∃ q, pf i = some q ∧ 3 ≤ pr i ∧ pr i ≤ 100003 ∧ FldAt S q (pr i).toNat (genN (pr i).toNat)
theorem l_mixD {k d x : Int} {pr : Int → Int} (h : S.1 (b + 3) = some (pO b fc c kd st ln md)) (h5 : S.1 (b + 5) = some (cR 6 6 pf)) (hn : fc ≤ 6) (hpf : PfOk S pf fc pr) (hd : 0 ≤ d ∧ d < fc) (hx : 0 ≤ x ∧ x ≤ 6000000000000000000) (hq : Q (.inl (some (vi (lfC x pr d.toNat % pr d)))) S) : ∀ (r i : Nat), (i : Int) + r = d →
    PW g cX6_mixedDigit (iX6_mixedDigit mc ms) 35 [(0, some (.ref (b + 3))), (1, some (vi k)), (2, some (vi d)), (3, some (vl (lfC x pr i))), (5, some (vi (i : Int)))] [] S kc ks Q := by
  intro r
  induction r with
  | zero =>
    intro i hi
    obtain ⟨q, q1, q2, q3, ff, fcc, hf1, hf2, hf3⟩ := hpf d hd.1 hd.2
    have hb := lfC_bd hx (fun j j1 j2 => by obtain ⟨_, _, z, _⟩ := hpf j j1 j2; exact z) i (show (i : Int) ≤ fc by omega)
    have ep : ((pr d).toNat : Int) = pr d := by omega
    rw [ep] at hf1
    have hres := c_X1_residueOf (g := g) (mc := 0) (ms := 0) (S := S) (q := q) (p := (pr d).toNat) (x := lfC x pr i) (by rw [ep]; exact hf1) (by omega) ⟨by omega, by omega⟩
    rw [ep] at hres
    refine r_iload dX6_mixedDigit_35 rfl (r_iload_n dX6_mixedDigit_37 (i := 2) rfl rfl ?_)
    refine r_icmp_ge 61 dX6_mixedDigit_38 (by decide) (by omega) (by omega) (fun c1 => ?_) (fun c1 => ?_)
    · refine r_aload_n dX6_mixedDigit_61 (i := 0) rfl rfl (r_get dX6_mixedDigit_62 fl_X6_17 h rfl (r_iload_n dX6_mixedDigit_65 (i := 2) rfl rfl (r_aald dX6_mixedDigit_66 h5 rfl (by omega) (by omega) (by omega) q1 (r_lload_n dX6_mixedDigit_67 (i := 3) rfl rfl ?_))))
      refine c_vr dX6_mixedDigit_68 (hres) rfl rfl mq_X1_residueOf ml_X6_58 ⟨Nat.le_of_ble_eq_true rfl, Nat.le_of_ble_eq_true rfl⟩ hf1 rfl rfl rfl (Nat.le_of_ble_eq_true rfl) ?_
      refine r_iret dX6_mixedDigit_71 rfl rfl ?_
      rw [show d.toNat = i by omega] at hq
      exact hq
    · omega
  | succ r ih =>
    intro i hi
    obtain ⟨q, q1, q2, q3, ff, fcc, hf1, hf2, hf3⟩ := hpf i (by omega) (by omega)
    have hb := lfC_bd hx (fun j j1 j2 => by obtain ⟨_, _, z, _⟩ := hpf j j1 j2; exact z) i (show (i : Int) ≤ fc by omega)
    have ep : ((pr (i : Int)).toNat : Int) = pr (i : Int) := by omega
    rw [ep] at hf1
    refine r_iload dX6_mixedDigit_35 rfl (r_iload_n dX6_mixedDigit_37 (i := 2) rfl rfl ?_)
    refine r_icmp_ge 61 dX6_mixedDigit_38 (by decide) (by omega) (by omega) (fun c1 => ?_) (fun c1 => ?_)
    · omega
    · refine r_lload_n dX6_mixedDigit_41 (i := 3) rfl rfl (r_aload_n dX6_mixedDigit_42 (i := 0) rfl rfl (r_get dX6_mixedDigit_43 fl_X6_17 h rfl (r_iload dX6_mixedDigit_46 rfl (r_aald dX6_mixedDigit_48 h5 rfl (by omega) (by omega) (by omega) q1 ?_))))
      refine r_get dX6_mixedDigit_49 fl_X6_53 hf1 rfl (r_i2l dX6_mixedDigit_52 (by omega) (r_ldivN dX6_mixedDigit_53 (by omega) (by omega) (by omega) (by omega) (r_lstore_n dX6_mixedDigit_54 (i := 3) rfl rfl (Nat.le_of_ble_eq_true rfl) (r_iinc dX6_mixedDigit_55 rfl rfl ?_))))
      refine r_goto 35 dX6_mixedDigit_58 (by decide) ?_
      exact r_loc [(0, some (.ref (b + 3))), (1, some (vi k)), (2, some (vi d)), (3, some (vl (lfC x pr (i + 1)))), (5, some (vi ((i + 1 : Nat) : Int)))] ⟨Or.inl rfl, Or.inl rfl, Or.inl rfl, Or.inl rfl, Or.inl rfl, trivial⟩ (ih (i + 1) (by omega))
theorem c_X6_mixedDigit {k d : Int} {pr : Int → Int} (h : S.1 (b + 3) = some (pO b fc c kd st ln md)) (h4 : S.1 (b + 4) = some (cJ 64 vf)) (h5 : S.1 (b + 5) = some (cR 6 6 pf)) (hn : fc ≤ 6) (hpf : PfOk S pf fc pr) (hk : 0 ≤ k ∧ k < c) (hc : c ≤ 64) (hd : 0 ≤ d ∧ d < fc) (hmd : 1 ≤ md ∧ md ≤ 4000000000000000000) (hv : -md ≤ 2 * vf k ∧ 2 * vf k ≤ md) : PC g yX6_mixedDigit cX6_mixedDigit (iX6_mixedDigit mc ms) [.ref (b + 3), vi k, vi d] S (Rt (some (vi (lfC (if vf k < 0 then vf k + md else vf k) pr d.toNat % pr d))) S) := by
  refine PC_of pnX6 rfl rfl rfl (Nat.le_of_ble_eq_true rfl) ?_
  have hx : 0 ≤ (if vf k < 0 then vf k + md else vf k) ∧ (if vf k < 0 then vf k + md else vf k) ≤ 6000000000000000000 := by split <;> omega
  refine r_aload_n dX6_mixedDigit_0 (i := 0) rfl rfl (r_get dX6_mixedDigit_1 fl_X6_9 h rfl (r_iload_n dX6_mixedDigit_4 (i := 1) rfl rfl (r_lald dX6_mixedDigit_5 h4 (by omega) (by omega) (by omega) (r_lconst (z := 0) dX6_mixedDigit_6 (by decide) ?_))))
  refine r_lcmp_ge 25 dX6_mixedDigit_7 dX6_mixedDigit_8 (by decide) (by omega) (by omega) (fun c1 => ?_) (fun c1 => ?_)
  · refine r_aload_n dX6_mixedDigit_25 (i := 0) rfl rfl (r_get dX6_mixedDigit_26 fl_X6_9 h rfl (r_iload_n dX6_mixedDigit_29 (i := 1) rfl rfl (r_lald dX6_mixedDigit_30 h4 (by omega) (by omega) (by omega) (r_lstore_n dX6_mixedDigit_31 (i := 3) rfl rfl (Nat.le_of_ble_eq_true rfl) ?_))))
    refine r_iconst dX6_mixedDigit_32 (r_istore dX6_mixedDigit_33 rfl (Nat.le_of_ble_eq_true rfl) ?_)
    refine r_loc [(0, some (.ref (b + 3))), (1, some (vi k)), (2, some (vi d)), (3, some (vl (lfC (if vf k < 0 then vf k + md else vf k) pr (0 : Nat)))), (5, some (vi ((0 : Nat) : Int)))] ⟨Or.inl rfl, Or.inl rfl, Or.inl rfl, Or.inl (lv_eq (by show (if _ then _ else _) = _; first | rw [if_pos (by omega)] | rw [if_neg (by omega)])), Or.inl rfl, trivial⟩ ?_
    exact l_mixD h h5 hn hpf hd hx ⟨rfl, rfl⟩ d.toNat 0 (by omega)
  · refine r_aload_n dX6_mixedDigit_11 (i := 0) rfl rfl (r_get dX6_mixedDigit_12 fl_X6_9 h rfl (r_iload_n dX6_mixedDigit_15 (i := 1) rfl rfl (r_lald dX6_mixedDigit_16 h4 (by omega) (by omega) (by omega) (r_aload_n dX6_mixedDigit_17 (i := 0) rfl rfl ?_))))
    refine r_get dX6_mixedDigit_18 fl_X6_21 h rfl (r_ladd dX6_mixedDigit_21 (r_goto 31 dX6_mixedDigit_22 (by decide) (r_lstore_n dX6_mixedDigit_31 (i := 3) rfl rfl (Nat.le_of_ble_eq_true rfl) (r_iconst dX6_mixedDigit_32 ?_))))
    refine r_istore dX6_mixedDigit_33 rfl (Nat.le_of_ble_eq_true rfl) ?_
    refine r_loc [(0, some (.ref (b + 3))), (1, some (vi k)), (2, some (vi d)), (3, some (vl (lfC (if vf k < 0 then vf k + md else vf k) pr (0 : Nat)))), (5, some (vi ((0 : Nat) : Int)))] ⟨Or.inl rfl, Or.inl rfl, Or.inl rfl, Or.inl (lv_eq (by show (if _ then _ else _) = _; first | rw [if_pos (by omega)] | rw [if_neg (by omega)])), Or.inl rfl, trivial⟩ ?_
    exact l_mixD h h5 hn hpf hd hx ⟨rfl, rfl⟩ d.toNat 0 (by omega)
end PROD

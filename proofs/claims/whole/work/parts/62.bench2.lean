/-! the class: which primes of a bench are usable; the longest transform -/
def dif (s u : Int) : Int := ((s.toNat &&& (63 - u.toNat) : Nat) : Int)
theorem q_not : ∀ u : Nat, u < 64 → Int32.ofInt (u : Int) ^^^ Int32.ofInt (-1) = Int32.ofInt (-1 - (u : Int)) := by decide +kernel
theorem q_dif0 : ∀ s : Nat, s < 64 → ∀ u : Nat, u < 64 → Int32.ofInt (s : Int) &&& Int32.ofInt (-1 - (u : Int)) = Int32.ofInt ((s &&& (63 - u) : Nat) : Int) := by decide +kernel
theorem dif_bits : ∀ s : Nat, s < 64 → ∀ u : Nat, u < 64 → ((s &&& (63 - u)) = 0 ↔ ∀ k : Nat, k < 6 → (s / 2 ^ k) % 2 = 1 → (u / 2 ^ k) % 2 = 1) := by decide +kernel
theorem q_notI {u : Int} (h : 0 ≤ u ∧ u < 64) : Int32.ofInt u ^^^ Int32.ofInt (-1) = Int32.ofInt (-1 - u) := by
  obtain ⟨k, rfl⟩ := Int.eq_ofNat_of_zero_le h.1
  exact q_not k (by omega)
theorem q_dif {s u : Int} (hs : 0 ≤ s ∧ s < 64) (h : 0 ≤ u ∧ u < 64) : Int32.ofInt s &&& Int32.ofInt (-1 - u) = Int32.ofInt (dif s u) := by
  obtain ⟨k, rfl⟩ := Int.eq_ofNat_of_zero_le h.1
  obtain ⟨j, rfl⟩ := Int.eq_ofNat_of_zero_le hs.1
  exact q_dif0 j (by omega) k (by omega)
theorem dif_bd {s u : Int} (hs : 0 ≤ s ∧ s < 64) : 0 ≤ dif s u ∧ dif s u < 64 := by
  unfold dif
  have : s.toNat &&& (63 - u.toNat) ≤ s.toNat := Nat.and_le_left
  omega
theorem bt_nat {s : Nat} {k : Nat} : bt (s : Int) (k : Int) ↔ (s / 2 ^ k) % 2 = 1 := by
  unfold bt
  rw [Int.toNat_natCast]
  have h2 : ((2 ^ k : Nat) : Int) = (2 : Int) ^ k := Int.natCast_pow 2 k
  have e : (s : Int) / (2 : Int) ^ k = ((s / 2 ^ k : Nat) : Int) := by
    rw [← h2]
    exact (Int.natCast_ediv _ _).symm
  rw [e]
  omega
theorem dif_0 {s u : Int} (hs : 0 ≤ s ∧ s < 64) (h : 0 ≤ u ∧ u < 64) : dif s u = 0 ↔ ∀ k : Int, 0 ≤ k → k < 6 → bt s k → bt u k := by
  obtain ⟨u, rfl⟩ := Int.eq_ofNat_of_zero_le h.1
  obtain ⟨s, rfl⟩ := Int.eq_ofNat_of_zero_le hs.1
  have hb := dif_bits s (by omega) u (by omega)
  have e : dif (s : Int) (u : Int) = ((s &&& (63 - u) : Nat) : Int) := rfl
  rw [e]
  constructor
  · intro z k k0 k1 k2
    obtain ⟨k, rfl⟩ := Int.eq_ofNat_of_zero_le k0
    exact bt_nat.mpr (hb.mp (by omega) k (by omega) (bt_nat.mp k2))
  · intro z
    have := hb.mpr (fun k k1 k2 => bt_nat.mp (z k (by omega) (by omega) (bt_nat.mpr k2)))
    omega
theorem usI_bt {a : Int → Int} {od : Int} {j : Nat} : ∀ n : Nat, j < n → (bt (usI a od n) (j : Int) ↔ (a (1 + (j : Int)) - 1) % od = 0)
  | 0, h => absurd h (by omega)
  | k + 1, h => by
    have hb := usI_bd a od k
    have e : usI a od (k + 1) = usI a od k + (if (a (1 + (k : Int)) - 1) % od = 0 then 2 ^ k else 0) := rfl
    have hp : (0 : Int) < 2 ^ j := Int.pow_pos (by omega)
    rcases Nat.lt_or_ge j k with z | z
    · have ih := usI_bt (a := a) (od := od) (j := j) k z
      rw [← ih, e]
      unfold bt
      rw [Int.toNat_natCast]
      split
      · have e2 : (2 : Int) ^ k = 2 ^ j * (2 * 2 ^ (k - j - 1)) := by
          rw [← Int.pow_succ', ← Int.pow_add, show j + (k - j - 1 + 1) = k by omega]
        rw [e2, Int.add_mul_ediv_left _ _ (by omega), Int.add_mul_emod_self_left]
      · rw [Int.add_zero]
    · have ej : j = k := by omega
      subst ej
      rw [e]
      unfold bt
      rw [Int.toNat_natCast]
      have e0 : usI a od j / 2 ^ j = 0 := Int.ediv_eq_zero_of_lt hb.1 hb.2
      split
      · next h1 =>
        rw [show usI a od j + (2 : Int) ^ j = usI a od j + 2 ^ j * 1 by omega, Int.add_mul_ediv_left _ _ (by omega), e0]
        exact ⟨fun _ => h1, fun _ => rfl⟩
      · next h1 =>
        rw [Int.add_zero, e0]
        exact ⟨fun z => absurd z (by decide), fun z => absurd z h1⟩
theorem have_dif {a : Int → Int} {set od : Int} (hn : 0 ≤ a 0 ∧ a 0 ≤ 6) (hs : 0 ≤ set ∧ set ≤ 2 ^ (a 0).toNat - 1) : HaveAll a set od ↔ dif set (usI a od (a 0).toNat) = 0 := by
  have h2 := p2_bd hn
  have hu := usI_bd a od (a 0).toNat
  have hpm : (2 : Int) ^ (a 0).toNat ≤ 64 := h2.2
  rw [dif_0 (by omega) (by omega)]
  constructor
  · intro h k k0 k1 k2
    obtain ⟨k, rfl⟩ := Int.eq_ofNat_of_zero_le k0
    rcases Int.lt_or_le (k : Int) (a 0) with z | z
    · exact (usI_bt (a 0).toNat (by omega)).mpr (h k k0 z k2)
    · exfalso
      obtain ⟨s, rfl⟩ := Int.eq_ofNat_of_zero_le hs.1
      have h3 := bt_nat.mp k2
      have h4 := Nat.pow_le_pow_right (show 0 < 2 by omega) (show (a 0).toNat ≤ k by omega)
      have h5 : ((2 ^ (a 0).toNat : Nat) : Int) = (2 : Int) ^ (a 0).toNat := Int.natCast_pow 2 _
      rw [Nat.div_eq_of_lt (by omega)] at h3
      omega
  · intro h k k0 k1 k2
    obtain ⟨k, rfl⟩ := Int.eq_ofNat_of_zero_le k0
    exact (usI_bt (a 0).toNat (by omega)).mp (h k k0 (by omega) k2)
section BENCH2
variable {g : GT} {S : PS} {mc ms : Nat} {Q : PO → PS → Prop} {kc ks : Nat} {b F : Nat} {a : Int → Int}
theorem l_usF {kd n od : Int} (hP : PrAt S b F a) (hp : MP a) (hod : 1 ≤ od ∧ od ≤ 128) (hq : Q (.inl (some (vi (usI a od (a 0).toNat)))) S) : ∀ (r k : Nat), (k : Int) + r = a 0 →
    PW g cX0_usableFields (iX0_usableFields mc ms) 19 [(0, some (.ref b)), (1, some (vi kd)), (2, some (vi n)), (3, some (vi od)), (4, some (vi (usI a od k))), (5, some (vi (k : Int)))] [] S kc ks Q := by
  intro r
  have h0 := hp.1
  obtain ⟨hb, rr, hr6, hrk⟩ := hP
  induction r with
  | zero =>
    intro k hk
    refine r_iload dX0_usableFields_19 rfl (r_aload_n dX0_usableFields_21 (i := 0) rfl rfl (r_get dX0_usableFields_22 fl_X0_36 hb rfl ?_))
    refine r_icmp_ge 57 dX0_usableFields_25 (by decide) (by omega) (by omega) (fun c1 => ?_) (fun c1 => ?_)
    · refine r_iload dX0_usableFields_57 rfl ?_
      refine r_iret dX0_usableFields_59 rfl rfl ?_
      rw [show (a 0).toNat = k by omega] at hq
      exact hq
    · omega
  | succ r ih =>
    intro k hk
    obtain ⟨q, hq1, hq2, ff, fc, hf1, hf2, hf3⟩ := hrk k (by omega) (by omega)
    obtain ⟨hpa, hpr, hpp2⟩ := pN_ok hp (q := (k : Int)) (by omega)
    have hub := usI_bd a od k
    have hpp := Nat.pow_le_pow_right (show 0 < 2 by omega) (show k ≤ 6 by omega)
    have hpc : ((2 ^ k : Nat) : Int) = (2 : Int) ^ k := Int.natCast_pow 2 k
    have eu : usI a od (k + 1) = usI a od k + (if (a (1 + (k : Int)) - 1) % od = 0 then 2 ^ k else 0) := rfl
    rw [hpa] at eu
    refine r_iload dX0_usableFields_19 rfl (r_aload_n dX0_usableFields_21 (i := 0) rfl rfl (r_get dX0_usableFields_22 fl_X0_36 hb rfl ?_))
    refine r_icmp_ge 57 dX0_usableFields_25 (by decide) (by omega) (by omega) (fun c1 => ?_) (fun c1 => ?_)
    · omega
    · refine r_aload_n dX0_usableFields_28 (i := 0) rfl rfl (r_get dX0_usableFields_29 fl_X0_11 hb rfl (r_iload dX0_usableFields_32 rfl (r_aald dX0_usableFields_34 hr6 rfl (by omega) (by omega) (by omega) hq1 (r_iload_n dX0_usableFields_35 (i := 3) rfl rfl ?_))))
      refine c_vr dX0_usableFields_36 (c_X1_hasRoot hf1 hpr ⟨by omega, by omega⟩) rfl rfl mq_X1_hasRoot ml_X0_46 ⟨Nat.le_of_ble_eq_true rfl, Nat.le_of_ble_eq_true rfl⟩ hf1 rfl rfl rfl (Nat.le_of_ble_eq_true rfl) ?_
      refine r_if_eq 51 dX0_usableFields_39 (by decide) b2i_RI (fun c2 => ?_) (fun c2 => ?_)
      · replace c2 := b2i_eq c2
        refine r_iinc dX0_usableFields_51 rfl rfl (r_goto 19 dX0_usableFields_54 (by decide) ?_)
        first
          | rw [if_pos (by omega)] at eu
          | (rw [if_neg (by omega)] at eu; rw [Int.add_zero] at eu)
        exact r_loc [(0, some (.ref b)), (1, some (vi kd)), (2, some (vi n)), (3, some (vi od)), (4, some (vi (usI a od (k + 1)))), (5, some (vi ((k + 1 : Nat) : Int)))] ⟨Or.inl rfl, Or.inl rfl, Or.inl rfl, Or.inl rfl, Or.inl (lvi_eq eu), Or.inl rfl, trivial⟩ (ih (k + 1) (by omega))
      · replace c2 := b2i_ne c2
        refine r_iload dX0_usableFields_42 rfl (r_iconst dX0_usableFields_44 (r_iload dX0_usableFields_45 rfl ?_))
        refine r_ishl (2 ^ k) dX0_usableFields_47 (q_shl1 (k := (k : Int)) (by omega)) ?_
        refine r_ior (usI a od k + 2 ^ k) dX0_usableFields_48 (q_orP (by omega) hub) ?_
        refine r_istore dX0_usableFields_49 rfl (Nat.le_of_ble_eq_true rfl) (r_iinc dX0_usableFields_51 rfl rfl (r_goto 19 dX0_usableFields_54 (by decide) ?_))
        first
          | rw [if_pos (by omega)] at eu
          | (rw [if_neg (by omega)] at eu; rw [Int.add_zero] at eu)
        exact r_loc [(0, some (.ref b)), (1, some (vi kd)), (2, some (vi n)), (3, some (vi od)), (4, some (vi (usI a od (k + 1)))), (5, some (vi ((k + 1 : Nat) : Int)))] ⟨Or.inl rfl, Or.inl rfl, Or.inl rfl, Or.inl rfl, Or.inl (lvi_eq eu), Or.inl rfl, trivial⟩ (ih (k + 1) (by omega))
theorem c_X0_usableFields {kd n : Int} (hP : PrAt S b F a) (hp : MP a) (hk : RI kd) (hn : 1 ≤ n ∧ n ≤ 64) : PC g yX0_usableFields cX0_usableFields (iX0_usableFields mc ms) [.ref b, vi kd, vi n] S (Rt (some (vi (usI a (if kd = 2 then 2 * n else n) (a 0).toNat))) S) := by
  refine PC_of pnX0 rfl rfl rfl (Nat.le_of_ble_eq_true rfl) ?_
  have h0 := hp.1
  by_cases hk2 : kd = 2
  · rw [if_pos hk2]
    refine r_iload_n dX0_usableFields_0 (i := 1) rfl rfl (r_iconst dX0_usableFields_1 ?_)
    refine r_icmp_ne 11 dX0_usableFields_2 (by decide) (by omega) (by omega) (fun c1 => ?_) (fun c1 => ?_)
    · refine r_iload_n dX0_usableFields_11 (i := 2) rfl rfl (r_istore_n dX0_usableFields_12 (i := 3) rfl rfl (Nat.le_of_ble_eq_true rfl) (r_iconst dX0_usableFields_13 (r_istore dX0_usableFields_14 rfl (Nat.le_of_ble_eq_true rfl) (r_iconst dX0_usableFields_16 ?_))))
      refine r_istore dX0_usableFields_17 rfl (Nat.le_of_ble_eq_true rfl) ?_
      first
        | omega
        | exact r_loc [(0, some (.ref b)), (1, some (vi kd)), (2, some (vi n)), (3, some (vi (2 * n))), (4, some (vi (usI a (2 * n) (0 : Nat)))), (5, some (vi ((0 : Nat) : Int)))] ⟨Or.inl rfl, Or.inl rfl, Or.inl rfl, Or.inl rfl, Or.inl rfl, Or.inl rfl, trivial⟩ (l_usF hP hp (by omega) ⟨rfl, rfl⟩ (a 0).toNat 0 (by omega))
    · refine r_iconst dX0_usableFields_5 (r_iload_n dX0_usableFields_6 (i := 2) rfl rfl (r_imul dX0_usableFields_7 (r_goto 12 dX0_usableFields_8 (by decide) (r_istore_n dX0_usableFields_12 (i := 3) rfl rfl (Nat.le_of_ble_eq_true rfl) ?_))))
      refine r_iconst dX0_usableFields_13 (r_istore dX0_usableFields_14 rfl (Nat.le_of_ble_eq_true rfl) (r_iconst dX0_usableFields_16 (r_istore dX0_usableFields_17 rfl (Nat.le_of_ble_eq_true rfl) ?_)))
      first
        | omega
        | exact r_loc [(0, some (.ref b)), (1, some (vi kd)), (2, some (vi n)), (3, some (vi (2 * n))), (4, some (vi (usI a (2 * n) (0 : Nat)))), (5, some (vi ((0 : Nat) : Int)))] ⟨Or.inl rfl, Or.inl rfl, Or.inl rfl, Or.inl rfl, Or.inl rfl, Or.inl rfl, trivial⟩ (l_usF hP hp (by omega) ⟨rfl, rfl⟩ (a 0).toNat 0 (by omega))
  · rw [if_neg hk2]
    refine r_iload_n dX0_usableFields_0 (i := 1) rfl rfl (r_iconst dX0_usableFields_1 ?_)
    refine r_icmp_ne 11 dX0_usableFields_2 (by decide) (by omega) (by omega) (fun c1 => ?_) (fun c1 => ?_)
    · refine r_iload_n dX0_usableFields_11 (i := 2) rfl rfl (r_istore_n dX0_usableFields_12 (i := 3) rfl rfl (Nat.le_of_ble_eq_true rfl) (r_iconst dX0_usableFields_13 (r_istore dX0_usableFields_14 rfl (Nat.le_of_ble_eq_true rfl) (r_iconst dX0_usableFields_16 ?_))))
      refine r_istore dX0_usableFields_17 rfl (Nat.le_of_ble_eq_true rfl) ?_
      first
        | omega
        | exact r_loc [(0, some (.ref b)), (1, some (vi kd)), (2, some (vi n)), (3, some (vi n)), (4, some (vi (usI a n (0 : Nat)))), (5, some (vi ((0 : Nat) : Int)))] ⟨Or.inl rfl, Or.inl rfl, Or.inl rfl, Or.inl rfl, Or.inl rfl, Or.inl rfl, trivial⟩ (l_usF hP hp (by omega) ⟨rfl, rfl⟩ (a 0).toNat 0 (by omega))
    · refine r_iconst dX0_usableFields_5 (r_iload_n dX0_usableFields_6 (i := 2) rfl rfl (r_imul dX0_usableFields_7 (r_goto 12 dX0_usableFields_8 (by decide) (r_istore_n dX0_usableFields_12 (i := 3) rfl rfl (Nat.le_of_ble_eq_true rfl) ?_))))
      refine r_iconst dX0_usableFields_13 (r_istore dX0_usableFields_14 rfl (Nat.le_of_ble_eq_true rfl) (r_iconst dX0_usableFields_16 (r_istore dX0_usableFields_17 rfl (Nat.le_of_ble_eq_true rfl) ?_)))
      first
        | omega
        | exact r_loc [(0, some (.ref b)), (1, some (vi kd)), (2, some (vi n)), (3, some (vi n)), (4, some (vi (usI a n (0 : Nat)))), (5, some (vi ((0 : Nat) : Int)))] ⟨Or.inl rfl, Or.inl rfl, Or.inl rfl, Or.inl rfl, Or.inl rfl, Or.inl rfl, trivial⟩ (l_usF hP hp (by omega) ⟨rfl, rfl⟩ (a 0).toNat 0 (by omega))
theorem l_longF {set : Int} (hP : PrAt S b F a) (hp : MP a) (hs : 0 ≤ set ∧ set ≤ 2 ^ (a 0).toNat - 1) (hq : Q (.inl (some (vi (lgS a set 64)))) S) : ∀ n : Nat, 1 ≤ n → n ≤ 64 → lgS a set n = lgS a set 64 →
    PW g cX0_longestTransform (iX0_longestTransform mc ms) 3 [(0, some (.ref b)), (1, some (vi set)), (2, some (vi (n : Int)))] [] S kc ks Q := by
  intro n
  have h0 := hp.1
  have h2 := p2_bd h0
  induction n with
  | zero =>
    intro h1
    omega
  | succ n ih =>
    intro h1 h3 he
    have es : lgS a set (n + 1) = if b2c (HaveAll a set ((n + 1 : Nat) : Int)) = 1 then ((n + 1 : Nat) : Int) else lgS a set n := rfl
    have hu := usI_bd a ((n + 1 : Nat) : Int) (a 0).toNat
    have hdb := dif_bd (s := set) (u := usI a ((n + 1 : Nat) : Int) (a 0).toNat) (by omega)
    have hhd := have_dif (a := a) (set := set) (od := ((n + 1 : Nat) : Int)) h0 hs
    have hus := fun hn => c_X0_usableFields (g := g) (mc := 0) (ms := 0) (kd := 1) (n := ((n + 1 : Nat) : Int)) hP hp ⟨by omega, by omega⟩ hn
    rw [if_neg (by decide)] at hus
    refine r_iload_n dX0_longestTransform_3 (i := 2) rfl rfl (r_iconst dX0_longestTransform_4 ?_)
    refine r_icmp_le 29 dX0_longestTransform_5 (by decide) (by omega) (by omega) (fun c1 => ?_) (fun c1 => ?_)
    · refine r_iconst dX0_longestTransform_29 ?_
      refine r_iret dX0_longestTransform_30 rfl rfl ?_
      first
        | (have hn1 : n = 0 := by omega
           subst hn1
           rw [← he, es, b2c_t (show HaveAll a set ((0 + 1 : Nat) : Int) from fun k _ _ _ => Int.emod_one _), if_pos rfl] at hq
           exact hq)
        | (rw [← he, es, b2c_t (hhd.mpr (by assumption)), if_pos rfl] at hq
           exact hq)
    · refine r_iload_n dX0_longestTransform_8 (i := 1) rfl rfl (r_aload_n dX0_longestTransform_9 (i := 0) rfl rfl (r_iconst dX0_longestTransform_10 (r_iload_n dX0_longestTransform_11 (i := 2) rfl rfl (c_vr dX0_longestTransform_12 (hus (by omega)) rfl rfl mq_X0_usableFields ml_X0_49 ⟨Nat.le_of_ble_eq_true rfl, Nat.le_of_ble_eq_true rfl⟩ hP.1 rfl rfl rfl (Nat.le_of_ble_eq_true rfl) ?_))))
      refine r_iconst dX0_longestTransform_15 ?_
      refine r_ixor (-1 - usI a ((n + 1 : Nat) : Int) (a 0).toNat) dX0_longestTransform_16 (q_notI (by omega)) ?_
      refine r_iand (dif set (usI a ((n + 1 : Nat) : Int) (a 0).toNat)) dX0_longestTransform_17 (q_dif (by omega) (by omega)) ?_
      refine r_if_ne 23 dX0_longestTransform_18 (by decide) (by omega) (fun c2 => ?_) (fun c2 => ?_)
      · refine r_iinc dX0_longestTransform_23 rfl rfl (r_goto 3 dX0_longestTransform_26 (by decide) ?_)
        rw [b2c_f (fun z => absurd (hhd.mp z) (by assumption)), if_neg (by decide)] at es
        exact r_loc [(0, some (.ref b)), (1, some (vi set)), (2, some (vi (n : Int)))] ⟨Or.inl rfl, Or.inl rfl, Or.inl (lvi_eq (by omega)), trivial⟩ (ih (by omega) (by omega) (by rw [← he, es]))
      · refine r_iload_n dX0_longestTransform_21 (i := 2) rfl rfl ?_
        refine r_iret dX0_longestTransform_22 rfl rfl ?_
        first
          | (have hn1 : n = 0 := by omega
             subst hn1
             rw [← he, es, b2c_t (show HaveAll a set ((0 + 1 : Nat) : Int) from fun k _ _ _ => Int.emod_one _), if_pos rfl] at hq
             exact hq)
          | (rw [← he, es, b2c_t (hhd.mpr (by assumption)), if_pos rfl] at hq
             exact hq)
theorem c_X0_longestTransform {set : Int} (hP : PrAt S b F a) (hp : MP a) (hs : 0 ≤ set ∧ set ≤ 2 ^ (a 0).toNat - 1) : PC g yX0_longestTransform cX0_longestTransform (iX0_longestTransform mc ms) [.ref b, vi set] S (Rt (some (vi (lgS a set 64))) S) := by
  refine PC_of pnX0 rfl rfl rfl (Nat.le_of_ble_eq_true rfl) ?_
  refine r_bipush dX0_longestTransform_0 (by decide) (r_istore_n dX0_longestTransform_2 (i := 2) rfl rfl (Nat.le_of_ble_eq_true rfl) ?_)
  exact r_loc [(0, some (.ref b)), (1, some (vi set)), (2, some (vi ((64 : Nat) : Int)))] ⟨Or.inl rfl, Or.inl rfl, Or.inl rfl, trivial⟩ (l_longF hP hp hs ⟨rfl, rfl⟩ 64 (by omega) (by omega) rfl)
end BENCH2

/-! the model's face: questions that change nothing, part 2 -/
theorem inj_surj : ∀ (N : Nat) (f : Nat → Nat), (∀ i, i < N → f i < N) → (∀ i j, i < N → j < N → f i = f j → i = j) → ∀ y, y < N → ∃ i, i < N ∧ f i = y
  | 0, _, _, _, y, hy => absurd hy (by omega)
  | N + 1, f, hf, hi, y, hy => by
    have ih := inj_surj N (fun i => if f i = N then f N else f i) (fun i hiN => by
      show (if f i = N then f N else f i) < N
      have h1 := hf i (by omega)
      have h2 := hf N (by omega)
      split
      · have : f N ≠ N := fun e => by have := hi i N (by omega) (by omega) (by omega); omega
        omega
      · omega) (fun i j hiN hjN he => by
      have he2 : (if f i = N then f N else f i) = (if f j = N then f N else f j) := he
      split at he2
      · split at he2
        · exact hi i j (by omega) (by omega) (by omega)
        · have := hi N j (by omega) (by omega) he2
          omega
      · split at he2
        · have := hi i N (by omega) (by omega) he2
          omega
        · exact hi i j (by omega) (by omega) he2)
    have hN := hf N (by omega)
    by_cases e1 : y = f N
    · exact ⟨N, by omega, e1.symm⟩
    · by_cases e2 : y = N
      · by_cases e3 : f N = N
        · exact ⟨N, by omega, by omega⟩
        · obtain ⟨i, i1, i2⟩ := ih (f N) (by omega)
          have i3 : (if f i = N then f N else f i) = f N := i2
          split at i3
          · exact ⟨i, by omega, by omega⟩
          · have := hi i N (by omega) (by omega) i3
            omega
      · obtain ⟨i, i1, i2⟩ := ih y (by omega)
        have i3 : (if f i = N then f N else f i) = y := i2
        split at i3
        · omega
        · exact ⟨i, by omega, i3⟩
theorem logOf_ex {p e u : Nat} (hp : Pr p) (h3 : 3 ≤ p) (he : GenOf p e) (hu : 0 < u ∧ u < p) : ∃ n, n < p - 1 ∧ LogOf p e u n := by
  have hnd : ¬ p ∣ e := fun hd => by have := Nat.le_of_dvd (by have := he.1; omega) hd; have := he.2.1; omega
  have hlo := gen_ord hp h3 hnd he.2.2.1
  have hpos : ∀ i, 0 < e ^ i % p := fun i => by
    rcases Nat.eq_zero_or_pos (e ^ i % p) with z | z
    · exact absurd (pr_pow hp i (Nat.dvd_of_mod_eq_zero z)) hnd
    · exact z
  have inj : ∀ i j, i < j → j < p - 1 → e ^ i % p ≠ e ^ j % p := fun i j h1 h2 h => by
    have e1 : j = i + (j - i) := by omega
    rw [e1, Nat.pow_add] at h
    have h4 : e ^ i * 1 % p = e ^ i * e ^ (j - i) % p := by rw [Nat.mul_one]; exact h
    have h5 := cancel hp (fun hd => hnd (pr_pow hp i hd)) h4
    rw [Nat.mod_eq_of_lt (show 1 < p by omega)] at h5
    exact hlo.2.2 (j - i) (by omega) (by omega) h5.symm
  obtain ⟨i, i1, i2⟩ := inj_surj (p - 1) (fun i => e ^ i % p - 1) (fun i _ => by have := Nat.mod_lt (e ^ i) (show 0 < p by omega); have := hpos i; show e ^ i % p - 1 < p - 1; omega) (fun i j hi hj h => by
    have h' : e ^ i % p - 1 = e ^ j % p - 1 := h
    have h1 := hpos i
    have h2 := hpos j
    rcases Nat.lt_trichotomy i j with z | z | z
    · exact absurd (show e ^ i % p = e ^ j % p by omega) (inj i j z hj)
    · exact z
    · exact absurd (show e ^ j % p = e ^ i % p by omega) (inj j i z hi)) (u - 1) (by omega)
  have i3 : e ^ i % p - 1 = u - 1 := i2
  have i4 := hpos i
  refine ⟨i, i1, by omega, fun d hd hc => inj d i hd i1 (by omega)⟩
theorem LogOf.uniq {p g u n d : Nat} (h : LogOf p g u n) (h' : LogOf p g u d) : n = d := by
  rcases Nat.lt_trichotomy n d with z | z | z
  · exact absurd h.1 (h'.2 n z)
  · exact z
  · exact absurd h'.1 (h.2 d z)
theorem logN_ok {p e u : Nat} (hp : Pr p) (h3 : 3 ≤ p) (he : GenOf p e) (hu : 0 < u ∧ u < p) : LogOf p e u (logN p e u) ∧ logN p e u < p - 1 := by
  obtain ⟨n, h1, h2⟩ := logOf_ex hp h3 he hu
  have h4 : LogOf p e u (logN p e u) := Classical.epsilon_spec (p := LogOf p e u) ⟨n, h2⟩
  exact ⟨h4, by rw [← h2.uniq h4]; exact h1⟩
theorem ordN_bd {p u : Nat} (hp : Pr p) (hu : 0 < u ∧ u < p) : ordN p u ≤ p - 1 := by
  have h := ordN_ok hp hu
  have hf := fermat hp (show ¬ p ∣ u from fun hd => by have := Nat.le_of_dvd hu.1 hd; omega)
  exact Nat.le_of_dvd (by have := hp.1; omega) (ord_dvd hp.1 h hf)
noncomputable def pf : Nat → Nat → Nat → Int
  | 0, _, _ => -1
  | u + 1, n, p => if 100003 < p then -1 else if prI p = 1 then (p : Int) else pf u n (p + n)
noncomputable def pfF (n above : Int) : Int := pf 100010 n.toNat (((above - 1) / n + 1) * n + 1).toNat
noncomputable def kPrimeFor (n above : Int) : Int := if (1 ≤ n ∧ n ≤ 128) ∧ 2 ≤ above ∧ above ≤ 100002 then (if pfF n above = -1 then 2 else 0) else 1
def uN (a : Int → Int) (q v : Int) : Nat := (v % a (1 + q)).toNat
noncomputable def usI (a : Int → Int) (od : Int) : Nat → Int
  | 0 => 0
  | k + 1 => usI a od k + (if (a (1 + (k : Int)) - 1) % od = 0 then 2 ^ k else 0)
theorem usI_bd (a : Int → Int) (od : Int) : ∀ k : Nat, 0 ≤ usI a od k ∧ usI a od k < 2 ^ k
  | 0 => ⟨Int.le_refl _, by show (0 : Int) < 1; decide⟩
  | k + 1 => by
    have h := usI_bd a od k
    have e : (2 : Int) ^ (k + 1) = 2 ^ k * 2 := Int.pow_succ 2 k
    show 0 ≤ _ + _ ∧ _ + _ < _
    split <;> omega
theorem q_orN {x y : Nat} (hx : x < 2147483648) (hy : y < 2147483648) : Int32.ofInt (x : Int) ||| Int32.ofInt (y : Int) = Int32.ofInt ((x ||| y : Nat) : Int) := by
  have hl : x ||| y < 2 ^ 31 := Nat.or_lt_two_pow (by omega) (by omega)
  refine Int32.toBitVec_inj.mp ?_
  rw [Int32.toBitVec_or]
  show BitVec.ofInt 32 _ ||| BitVec.ofInt 32 _ = BitVec.ofInt 32 _
  refine BitVec.eq_of_toNat_eq ?_
  rw [BitVec.toNat_or, BitVec.toNat_ofInt, BitVec.toNat_ofInt, BitVec.toNat_ofInt]
  have e1 : ((x : Int) % ((2 ^ 32 : Nat) : Int)).toNat = x := by omega
  have e2 : ((y : Int) % ((2 ^ 32 : Nat) : Int)).toNat = y := by omega
  have e3 : (((x ||| y : Nat) : Int) % ((2 ^ 32 : Nat) : Int)).toNat = (x ||| y) := by omega
  rw [e1, e2, e3]
theorem q_or0 {x : Int} (h : 0 ≤ x ∧ x < 2147483648) : Int32.ofInt x ||| Int32.ofInt 0 = Int32.ofInt x := by
  have e : x = ((x.toNat : Nat) : Int) := by omega
  rw [e]
  have := q_orN (x := x.toNat) (y := 0) (by omega) (by omega)
  rw [Nat.or_zero] at this
  exact this
theorem q_orP {x : Int} {k : Nat} (hk : k ≤ 6) (h : 0 ≤ x ∧ x < 2 ^ k) : Int32.ofInt x ||| Int32.ofInt (2 ^ k) = Int32.ofInt (x + 2 ^ k) := by
  have hp := Nat.pow_le_pow_right (show 0 < 2 by omega) hk
  have hc : ((2 ^ k : Nat) : Int) = (2 : Int) ^ k := Int.natCast_pow 2 k
  rw [← hc] at h ⊢
  have e : x = ((x.toNat : Nat) : Int) := by omega
  rw [e, q_orN (by omega) (by omega)]
  have h2 := Nat.two_pow_add_eq_or_of_lt (i := k) (b := x.toNat) (by omega) 1
  rw [Nat.mul_one, Nat.or_comm] at h2
  rw [← h2]
  congr 1
  omega
def kUsable (kd n : Int) : Int := if (0 ≤ kd ∧ kd ≤ 2) ∧ 1 ≤ n ∧ n ≤ 64 then 0 else 1
noncomputable def lgS (a : Int → Int) (set : Int) : Nat → Int
  | 0 => 0
  | n + 1 => if b2c (HaveAll a set ((n + 1 : Nat) : Int)) = 1 then ((n + 1 : Nat) : Int) else lgS a set n
noncomputable def kCoef (a : Int → Int) (kd s t n k : Int) : Int := if refI a kd s t n = 0 then (if 0 ≤ k ∧ k ≤ sizI a kd s t n - 1 then 0 else 3) else refI a kd s t n
noncomputable def kEnough (a : Int → Int) (set s t : Int) : Int := if 0 ≤ set ∧ set ≤ 2 ^ (a 0).toNat - 1 then lacksI a s t else 1
theorem refI_bd (a : Int → Int) (kd s t n : Int) : 0 ≤ refI a kd s t n ∧ refI a kd s t n ≤ 3 := by
  have h1 := lacksI_bd a s t
  have h2 := b2c_01 (p := kindOk a kd s t n)
  unfold refI
  split <;> omega
theorem refI_0 {a : Int → Int} {kd s t n : Int} (h : refI a kd s t n = 0) : (((0 ≤ s ∧ s ≤ 3) ∧ 0 ≤ t ∧ t ≤ 3) ∧ a (7 + s) ≠ 0 ∧ a (7 + t) ≠ 0) ∧ kindOk a kd s t n := by
  have h1 := lacksI_bd a s t
  have h2 := b2c_01 (p := kindOk a kd s t n)
  unfold refI at h
  split at h
  · omega
  · exact ⟨lacksI_0 (by omega), b2c_ne (by omega)⟩
section MFACE2
variable {g : GT} {S : PS} {mc ms : Nat} {Q : PO → PS → Prop} {kc ks : Nat} {m : Nat} {a : Int → Int} {km th bu sz at' be ki wr wa ea nu bs bw bt' : Int}
theorem noU_0 (hp : MP a) {q v : Int} (h : noUnitI a q v ≤ 0) : (0 ≤ q ∧ q ≤ a 0 - 1) ∧ v % a (1 + q) ≠ 0 ∧ noUnitI a q v = 0 := by
  unfold noUnitI at h ⊢
  split at h
  · split at h
    · omega
    · next h1 h2 => exact ⟨h1, h2, by rw [if_pos h1, if_neg h2]⟩
  · omega
theorem uN_ok (hp : MP a) {q v : Int} (h : 0 ≤ q ∧ q ≤ a 0 - 1) (h2 : v % a (1 + q) ≠ 0) : v % (pN a q : Int) = (uN a q v : Int) ∧ 0 < uN a q v ∧ uN a q v < pN a q := by
  obtain ⟨hpa, hpr, hpp⟩ := pN_ok hp h
  unfold uN
  rw [hpa] at h2 ⊢
  have e1 := Int.emod_nonneg v (show (pN a q : Int) ≠ 0 by omega)
  have e2 := Int.emod_lt_of_pos v (show (0 : Int) < pN a q by omega)
  omega
theorem c_X10_inverse {q v : Int} (h : S.1 m = some (mO m km th bu sz at' be ki wr wa ea nu bs bw bt')) (ha : S.1 (m + 1) = some (cJ 215 a)) (hp : MP a) (hq : RI q) (hv : RI v) : PC g yX10_inverse cX10_inverse (iX10_inverse mc ms) [.ref m, vi q, vi v] S (mR S m (fun k => mO m km k bu sz at' be ki wr wa ea nu bs bw bt') (noUnitI a q v) (vi (pwI v (pN a q - 2) (pN a q)))) := by
  refine PC_of pnX10 rfl rfl rfl (Nat.le_of_ble_eq_true rfl) ?_
  have h0 := hp.1
  have hnb : 0 ≤ noUnitI a q v ∧ noUnitI a q v ≤ 2 := by unfold noUnitI; repeat' split; all_goals omega
  refine r_aload_n dX10_inverse_0 (i := 0) rfl rfl (r_aload_n dX10_inverse_1 (i := 0) rfl rfl (r_iload_n dX10_inverse_2 (i := 1) rfl rfl (r_iload_n dX10_inverse_3 (i := 2) rfl rfl (c_vr dX10_inverse_4 (c_X10_noUnit h ha hp hq hv) rfl rfl mq_X10_noUnit ml_X10_184 ⟨Nat.le_of_ble_eq_true rfl, Nat.le_of_ble_eq_true rfl⟩ h rfl rfl rfl (Nat.le_of_ble_eq_true rfl) ?_))))
  refine r_put dX10_inverse_7 fl_X10_30 h rfl rfl (Nat.le_of_ble_eq_true rfl) (r_aload_n dX10_inverse_10 (i := 0) rfl rfl (r_get dX10_inverse_11 fl_X10_30 ps_same rfl ?_))
  refine r_if_le 21 dX10_inverse_14 (by decide) (by omega) (fun c1 => ?_) (fun c1 => ?_)
  · obtain ⟨hth, hz, hk0⟩ := noU_0 hp (q := q) (v := v) (by omega)
    obtain ⟨hpa, hpr, hpp⟩ := pN_ok hp hth
    refine r_iload_n dX10_inverse_21 (i := 2) rfl rfl (r_i2l dX10_inverse_22 (by omega) (r_aload_n dX10_inverse_23 (i := 0) rfl rfl (r_iload_n dX10_inverse_24 (i := 1) rfl rfl (c_vr dX10_inverse_25 (c_X10_primeAt ps_same (ps_ne (by omega) ha) (by omega)) rfl rfl mq_X10_primeAt ml_X10_165 ⟨Nat.le_of_ble_eq_true rfl, Nat.le_of_ble_eq_true rfl⟩ ps_same rfl rfl rfl (Nat.le_of_ble_eq_true rfl) ?_))))
    rw [hpa]
    refine r_iconst dX10_inverse_28 (r_isub dX10_inverse_29 ?_)
    rw [show ((pN a q : Int) - 2) = ((pN a q - 2 : Nat) : Int) by omega]
    refine r_i2l dX10_inverse_30 (by omega) (r_aload_n dX10_inverse_31 (i := 0) rfl rfl (r_iload_n dX10_inverse_32 (i := 1) rfl rfl (c_vr dX10_inverse_33 (c_X10_primeAt ps_same (ps_ne (by omega) ha) (by omega)) rfl rfl mq_X10_primeAt ml_X10_165 ⟨Nat.le_of_ble_eq_true rfl, Nat.le_of_ble_eq_true rfl⟩ ps_same rfl rfl rfl (Nat.le_of_ble_eq_true rfl) ?_)))
    rw [hpa]
    refine r_i2l dX10_inverse_36 (by omega) (c_sr dX10_inverse_37 (c_X10_powerOf ⟨by omega, by omega⟩ hpr (by omega)) rfl rfl mq_X10_powerOf ml_X10_155 ⟨Nat.le_of_ble_eq_true rfl, Nat.le_of_ble_eq_true rfl⟩ rfl rfl (Nat.le_of_ble_eq_true rfl) (r_l2i dX10_inverse_40 ?_))
    refine r_iret dX10_inverse_41 rfl rfl ?_
    exact mR_0 rfl rfl
  · refine r_iconst dX10_inverse_17 (r_goto 41 dX10_inverse_18 (by decide) ?_)
    refine r_iret dX10_inverse_41 rfl rfl ?_
    exact mR_t rfl (by omega)
theorem l_order {p u e : Nat} {q v : Int} (hp : 3 ≤ p ∧ p ≤ 100003) (hu : 0 < u ∧ u < p) (he : LeastOrd p u e) (hep : e < p) (hq : Q (.inl (some (vi (e : Int)))) S) : ∀ (r n : Nat), n + r = e → 0 < n →
    PW g cX10_order (iX10_order mc ms) 41 [(0, some (.ref m)), (1, some (vi q)), (2, some (vi v)), (3, some (vi (p : Int))), (4, some (vl (u : Int))), (6, some (vi (n : Int))), (7, some (vl ((u ^ n % p : Nat) : Int)))] [] S kc ks Q := by
  intro r
  induction r with
  | zero =>
    intro n hn h0
    have e1 : n = e := by omega
    subst e1
    rw [he.2.1]
    refine r_lload dX10_order_41 rfl (r_lconst (z := 1) dX10_order_43 (by decide) ?_)
    refine r_lcmp_eq 64 dX10_order_44 dX10_order_45 (by decide) (by omega) (by omega) (fun c1 => ?_) (fun c1 => ?_)
    · refine r_iload dX10_order_64 rfl ?_
      refine r_iret dX10_order_66 rfl rfl ?_
      exact hq
    · omega
  | succ r ih =>
    intro n hn h0
    have h1 := he.2.2 n h0 (by omega)
    have h2 := Nat.mod_lt (u ^ n) (show 0 < p by omega)
    have h3 := mul_lt_sq h2 hu.2 hp.2
    have e1 : (((u ^ n % p : Nat) : Int) * (u : Int)) = ((u ^ n % p * u : Nat) : Int) := (Int.natCast_mul _ _).symm
    have e2 : u ^ n % p * u % p = u ^ (n + 1) % p := by rw [Nat.pow_succ, Nat.mod_mul_mod]
    have e3 : ((u ^ n % p * u : Nat) : Int) % (p : Int) = ((u ^ n % p * u % p : Nat) : Int) := (Int.natCast_emod _ _).symm
    refine r_lload dX10_order_41 rfl (r_lconst (z := 1) dX10_order_43 (by decide) ?_)
    refine r_lcmp_eq 64 dX10_order_44 dX10_order_45 (by decide) (by omega) (by omega) (fun c1 => ?_) (fun c1 => ?_)
    · omega
    · refine r_iinc dX10_order_48 rfl rfl (r_lload dX10_order_51 rfl (r_lload dX10_order_53 rfl (r_lmul dX10_order_55 ?_)))
      rw [e1]
      refine r_iload_n dX10_order_56 (i := 3) rfl rfl (r_i2l dX10_order_57 (by omega) (r_lremN dX10_order_58 (by omega) (by omega) (by omega) (by omega) ?_))
      rw [e3, e2]
      refine r_lstore dX10_order_59 rfl (Nat.le_of_ble_eq_true rfl) (r_goto 41 dX10_order_61 (by decide) ?_)
      exact r_loc [(0, some (.ref m)), (1, some (vi q)), (2, some (vi v)), (3, some (vi (p : Int))), (4, some (vl (u : Int))), (6, some (vi ((n + 1 : Nat) : Int))), (7, some (vl ((u ^ (n + 1) % p : Nat) : Int)))] ⟨Or.inl rfl, Or.inl rfl, Or.inl rfl, Or.inl rfl, Or.inl rfl, Or.inl rfl, Or.inl rfl, trivial⟩ (ih (n + 1) (by omega) (by omega))
theorem c_X10_order {q v : Int} (h : S.1 m = some (mO m km th bu sz at' be ki wr wa ea nu bs bw bt')) (ha : S.1 (m + 1) = some (cJ 215 a)) (hp : MP a) (hq : RI q) (hv : RI v) : PC g yX10_order cX10_order (iX10_order mc ms) [.ref m, vi q, vi v] S (mR S m (fun k => mO m km k bu sz at' be ki wr wa ea nu bs bw bt') (noUnitI a q v) (vi (ordN (pN a q) (uN a q v) : Int))) := by
  refine PC_of pnX10 rfl rfl rfl (Nat.le_of_ble_eq_true rfl) ?_
  have h0 := hp.1
  have hnb : 0 ≤ noUnitI a q v ∧ noUnitI a q v ≤ 2 := by unfold noUnitI; repeat' split; all_goals omega
  refine r_aload_n dX10_order_0 (i := 0) rfl rfl (r_aload_n dX10_order_1 (i := 0) rfl rfl (r_iload_n dX10_order_2 (i := 1) rfl rfl (r_iload_n dX10_order_3 (i := 2) rfl rfl (c_vr dX10_order_4 (c_X10_noUnit h ha hp hq hv) rfl rfl mq_X10_noUnit ml_X10_184 ⟨Nat.le_of_ble_eq_true rfl, Nat.le_of_ble_eq_true rfl⟩ h rfl rfl rfl (Nat.le_of_ble_eq_true rfl) ?_))))
  refine r_put dX10_order_7 fl_X10_30 h rfl rfl (Nat.le_of_ble_eq_true rfl) (r_aload_n dX10_order_10 (i := 0) rfl rfl (r_get dX10_order_11 fl_X10_30 ps_same rfl ?_))
  refine r_if_le 19 dX10_order_14 (by decide) (by omega) (fun c1 => ?_) (fun c1 => ?_)
  · obtain ⟨hth, hz, hk0⟩ := noU_0 hp (q := q) (v := v) (by omega)
    obtain ⟨hpa, hpr, hpp⟩ := pN_ok hp hth
    obtain ⟨hu1, hu2⟩ := uN_ok hp hth hz
    have hor := ordN_ok hpp hu2
    have hob := ordN_bd hpp hu2
    refine r_aload_n dX10_order_19 (i := 0) rfl rfl (r_iload_n dX10_order_20 (i := 1) rfl rfl (c_vr dX10_order_21 (c_X10_primeAt ps_same (ps_ne (by omega) ha) (by omega)) rfl rfl mq_X10_primeAt ml_X10_165 ⟨Nat.le_of_ble_eq_true rfl, Nat.le_of_ble_eq_true rfl⟩ ps_same rfl rfl rfl (Nat.le_of_ble_eq_true rfl) ?_))
    rw [hpa]
    refine r_istore_n dX10_order_24 (i := 3) rfl rfl (Nat.le_of_ble_eq_true rfl) (r_iload_n dX10_order_25 (i := 2) rfl rfl (r_i2l dX10_order_26 (by omega) (r_iload_n dX10_order_27 (i := 3) rfl rfl (c_sr dX10_order_28 (c_X10_modulo ⟨by omega, by omega⟩ (by omega)) rfl rfl mq_X10_modulo ml_X10_187 ⟨Nat.le_of_ble_eq_true rfl, Nat.le_of_ble_eq_true rfl⟩ rfl rfl (Nat.le_of_ble_eq_true rfl) ?_))))
    rw [hu1]
    refine r_i2l dX10_order_31 (by omega) (r_lstore dX10_order_32 rfl (Nat.le_of_ble_eq_true rfl) (r_iconst dX10_order_34 (r_istore dX10_order_35 rfl (Nat.le_of_ble_eq_true rfl) (r_lload dX10_order_37 rfl ?_))))
    refine r_lstore dX10_order_39 rfl (Nat.le_of_ble_eq_true rfl) ?_
    refine r_loc [(0, some (.ref m)), (1, some (vi q)), (2, some (vi v)), (3, some (vi (pN a q : Int))), (4, some (vl (uN a q v : Int))), (6, some (vi ((1 : Nat) : Int))), (7, some (vl ((uN a q v ^ 1 % pN a q : Nat) : Int)))] ⟨Or.inl rfl, Or.inl rfl, Or.inl rfl, Or.inl rfl, Or.inl rfl, Or.inl rfl, Or.inl (lv_eq (by rw [Nat.pow_one, Nat.mod_eq_of_lt hu2.2])), trivial⟩ ?_
    refine l_order hpr hu2 hor (by omega) ?_ (ordN (pN a q) (uN a q v) - 1) 1 (by have := hor.1; omega) (by omega)
    exact mR_0 rfl rfl
  · refine r_iconst dX10_order_17 ?_
    refine r_iret dX10_order_18 rfl rfl ?_
    exact mR_t rfl (by omega)
theorem l_log {p u e n0 : Nat} {q v : Int} (hp : 3 ≤ p ∧ p ≤ 100003) (he : e < p) (hvr : RI v) (hmod : v % (p : Int) = (u : Int)) (hlo : LogOf p e u n0) (hq : Q (.inl (some (vi (n0 : Int)))) S) : ∀ (r n : Nat), n + r = n0 →
    PW g cX10_logarithm (iX10_logarithm mc ms) 37 [(0, some (.ref m)), (1, some (vi q)), (2, some (vi v)), (3, some (vi (p : Int))), (4, some (vi (e : Int))), (5, some (vi (n : Int))), (6, some (vl ((e ^ n % p : Nat) : Int)))] [] S kc ks Q := by
  intro r
  induction r with
  | zero =>
    intro n hn
    have e1 : n = n0 := by omega
    subst e1
    rw [hlo.1]
    have h2 := Nat.mod_lt (e ^ n) (show 0 < p by omega)
    rw [hlo.1] at h2
    refine r_lload dX10_logarithm_37 rfl (r_iload_n dX10_logarithm_39 (i := 2) rfl rfl (r_i2l dX10_logarithm_40 (by omega) (r_iload_n dX10_logarithm_41 (i := 3) rfl rfl (c_sr dX10_logarithm_42 (c_X10_modulo ⟨by omega, by omega⟩ (by omega)) rfl rfl mq_X10_modulo ml_X10_187 ⟨Nat.le_of_ble_eq_true rfl, Nat.le_of_ble_eq_true rfl⟩ rfl rfl (Nat.le_of_ble_eq_true rfl) ?_))))
    rw [hmod]
    refine r_i2l dX10_logarithm_45 (by omega) ?_
    refine r_lcmp_eq 67 dX10_logarithm_46 dX10_logarithm_47 (by decide) (by omega) (by omega) (fun c1 => ?_) (fun c1 => ?_)
    · refine r_iload dX10_logarithm_67 rfl ?_
      refine r_iret dX10_logarithm_69 rfl rfl ?_
      exact hq
    · omega
  | succ r ih =>
    intro n hn
    have h1 := hlo.2 n (by omega)
    have h2 := Nat.mod_lt (e ^ n) (show 0 < p by omega)
    have h4 := Nat.mod_lt (e ^ n0) (show 0 < p by omega)
    rw [hlo.1] at h4
    have h3 := mul_lt_sq h2 he hp.2
    have e1 : (((e ^ n % p : Nat) : Int) * (e : Int)) = ((e ^ n % p * e : Nat) : Int) := (Int.natCast_mul _ _).symm
    have e2 : e ^ n % p * e % p = e ^ (n + 1) % p := by rw [Nat.pow_succ, Nat.mod_mul_mod]
    have e3 : ((e ^ n % p * e : Nat) : Int) % (p : Int) = ((e ^ n % p * e % p : Nat) : Int) := (Int.natCast_emod _ _).symm
    refine r_lload dX10_logarithm_37 rfl (r_iload_n dX10_logarithm_39 (i := 2) rfl rfl (r_i2l dX10_logarithm_40 (by omega) (r_iload_n dX10_logarithm_41 (i := 3) rfl rfl (c_sr dX10_logarithm_42 (c_X10_modulo ⟨by omega, by omega⟩ (by omega)) rfl rfl mq_X10_modulo ml_X10_187 ⟨Nat.le_of_ble_eq_true rfl, Nat.le_of_ble_eq_true rfl⟩ rfl rfl (Nat.le_of_ble_eq_true rfl) ?_))))
    rw [hmod]
    refine r_i2l dX10_logarithm_45 (by omega) ?_
    refine r_lcmp_eq 67 dX10_logarithm_46 dX10_logarithm_47 (by decide) (by omega) (by omega) (fun c1 => ?_) (fun c1 => ?_)
    · omega
    · refine r_iinc dX10_logarithm_50 rfl rfl (r_lload dX10_logarithm_53 rfl (r_iload dX10_logarithm_55 rfl (r_i2l dX10_logarithm_57 (by omega) (r_lmul dX10_logarithm_58 ?_))))
      rw [e1]
      refine r_iload_n dX10_logarithm_59 (i := 3) rfl rfl (r_i2l dX10_logarithm_60 (by omega) (r_lremN dX10_logarithm_61 (by omega) (by omega) (by omega) (by omega) ?_))
      rw [e3, e2]
      refine r_lstore dX10_logarithm_62 rfl (Nat.le_of_ble_eq_true rfl) (r_goto 37 dX10_logarithm_64 (by decide) ?_)
      exact r_loc [(0, some (.ref m)), (1, some (vi q)), (2, some (vi v)), (3, some (vi (p : Int))), (4, some (vi (e : Int))), (5, some (vi ((n + 1 : Nat) : Int))), (6, some (vl ((e ^ (n + 1) % p : Nat) : Int)))] ⟨Or.inl rfl, Or.inl rfl, Or.inl rfl, Or.inl rfl, Or.inl rfl, Or.inl rfl, Or.inl rfl, trivial⟩ (ih (n + 1) (by omega))
theorem c_X10_logarithm {q v : Int} (h : S.1 m = some (mO m km th bu sz at' be ki wr wa ea nu bs bw bt')) (ha : S.1 (m + 1) = some (cJ 215 a)) (hp : MP a) (hq : RI q) (hv : RI v) : PC g yX10_logarithm cX10_logarithm (iX10_logarithm mc ms) [.ref m, vi q, vi v] S (mR S m (fun k => mO m km k bu sz at' be ki wr wa ea nu bs bw bt') (noUnitI a q v) (vi (logN (pN a q) (genN (pN a q)) (uN a q v) : Int))) := by
  refine PC_of pnX10 rfl rfl rfl (Nat.le_of_ble_eq_true rfl) ?_
  have h0 := hp.1
  have hnb : 0 ≤ noUnitI a q v ∧ noUnitI a q v ≤ 2 := by unfold noUnitI; repeat' split; all_goals omega
  refine r_aload_n dX10_logarithm_0 (i := 0) rfl rfl (r_aload_n dX10_logarithm_1 (i := 0) rfl rfl (r_iload_n dX10_logarithm_2 (i := 1) rfl rfl (r_iload_n dX10_logarithm_3 (i := 2) rfl rfl (c_vr dX10_logarithm_4 (c_X10_noUnit h ha hp hq hv) rfl rfl mq_X10_noUnit ml_X10_184 ⟨Nat.le_of_ble_eq_true rfl, Nat.le_of_ble_eq_true rfl⟩ h rfl rfl rfl (Nat.le_of_ble_eq_true rfl) ?_))))
  refine r_put dX10_logarithm_7 fl_X10_30 h rfl rfl (Nat.le_of_ble_eq_true rfl) (r_aload_n dX10_logarithm_10 (i := 0) rfl rfl (r_get dX10_logarithm_11 fl_X10_30 ps_same rfl ?_))
  refine r_if_le 19 dX10_logarithm_14 (by decide) (by omega) (fun c1 => ?_) (fun c1 => ?_)
  · obtain ⟨hth, hz, hk0⟩ := noU_0 hp (q := q) (v := v) (by omega)
    obtain ⟨hpa, hpr, hpp⟩ := pN_ok hp hth
    obtain ⟨hu1, hu2⟩ := uN_ok hp hth hz
    have hge := genN_ok hpp hpr.1
    have hlo := logN_ok hpp hpr.1 hge hu2
    refine r_aload_n dX10_logarithm_19 (i := 0) rfl rfl (r_iload_n dX10_logarithm_20 (i := 1) rfl rfl (c_vr dX10_logarithm_21 (c_X10_primeAt ps_same (ps_ne (by omega) ha) (by omega)) rfl rfl mq_X10_primeAt ml_X10_165 ⟨Nat.le_of_ble_eq_true rfl, Nat.le_of_ble_eq_true rfl⟩ ps_same rfl rfl rfl (Nat.le_of_ble_eq_true rfl) ?_))
    rw [hpa]
    refine r_istore_n dX10_logarithm_24 (i := 3) rfl rfl (Nat.le_of_ble_eq_true rfl) (r_iload_n dX10_logarithm_25 (i := 3) rfl rfl (c_sr dX10_logarithm_26 (c_X10_generator hpr hge) rfl rfl mq_X10_generator ml_X10_168 ⟨Nat.le_of_ble_eq_true rfl, Nat.le_of_ble_eq_true rfl⟩ rfl rfl (Nat.le_of_ble_eq_true rfl) (r_istore dX10_logarithm_29 rfl (Nat.le_of_ble_eq_true rfl) (r_iconst dX10_logarithm_31 ?_))))
    refine r_istore dX10_logarithm_32 rfl (Nat.le_of_ble_eq_true rfl) (r_lconst (z := 1) dX10_logarithm_34 (by decide) (r_lstore dX10_logarithm_35 rfl (Nat.le_of_ble_eq_true rfl) ?_))
    refine r_loc [(0, some (.ref m)), (1, some (vi q)), (2, some (vi v)), (3, some (vi (pN a q : Int))), (4, some (vi (genN (pN a q) : Int))), (5, some (vi ((0 : Nat) : Int))), (6, some (vl ((genN (pN a q) ^ 0 % pN a q : Nat) : Int)))] ⟨Or.inl rfl, Or.inl rfl, Or.inl rfl, Or.inl rfl, Or.inl rfl, Or.inl rfl, Or.inl (lv_eq (by rw [Nat.pow_zero, Nat.mod_eq_of_lt (by omega)]; rfl)), trivial⟩ ?_
    refine l_log hpr hge.2.1 hv hu1 hlo.1 ?_ _ 0 (Nat.zero_add _)
    exact mR_0 rfl rfl
  · refine r_iconst dX10_logarithm_17 ?_
    refine r_iret dX10_logarithm_18 rfl rfl ?_
    exact mR_t rfl (by omega)
end MFACE2

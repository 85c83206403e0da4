/-! the class's face: multiply -/
/-- the primes are different -/
def MD (a : Int → Int) : Prop := ∀ i j : Int, 0 ≤ i → i < j → j < a 0 → a (1 + i) ≠ a (1 + j)
section MUR
variable {a : Int → Int} {kd s t len set : Int}
theorem muB_hi {i : Int} (h : 151 ≤ i) : ∀ k : Nat, k ≤ 6 → muB a kd s t len set k i = mu2 a kd s t len set i
  | 0, _ => upI_ne (by omega)
  | k + 1, hk => by
    have hb := muB_bd (a := a) (kd := kd) (s := s) (t := t) (len := len) (set := set) k
    have ih := muB_hi h k (by omega)
    have e : muB a kd s t len set (k + 1) = if b2c (bt set (k : Int)) = 1 then upI (upI (muB a kd s t len set k) (145 + muB a kd s t len set k 144) (a (1 + (k : Int)))) 144 (muB a kd s t len set k 144 + 1) else muB a kd s t len set k := rfl
    rw [e]
    split
    · rw [upI_ne (by omega), upI_ne (by omega)]
      exact ih
    · exact ih
theorem muA_ne {i : Int} (h : i < 139 ∨ 144 ≤ i) : muA a kd s t len set i = muB a kd s t len set (a 0).toNat i := by
  unfold muA
  rw [upI_ne (by omega), upI_ne (by omega), upI_ne (by omega), upI_ne (by omega), upI_ne (by omega)]
theorem muA_139 : muA a kd s t len set 139 = 1 := by
  unfold muA
  rw [upI_ne (by omega), upI_ne (by omega), upI_ne (by omega), upI_ne (by omega), upI_eq]
theorem muA_140 : muA a kd s t len set 140 = kd := by
  unfold muA
  rw [upI_ne (by omega), upI_ne (by omega), upI_ne (by omega), upI_eq]
theorem muA_141 : muA a kd s t len set 141 = len := by
  unfold muA
  rw [upI_ne (by omega), upI_ne (by omega), upI_eq]
theorem muA_142 : muA a kd s t len set 142 = set := by
  unfold muA
  rw [upI_ne (by omega), upI_eq]
theorem muA_143 : muA a kd s t len set 143 = sizI a kd s t len := by
  unfold muA
  rw [upI_eq]
theorem muA_lo : Lo a (muA a kd s t len set) := fun i i0 i1 => by
  rw [muA_ne (by omega)]
  exact muB_lo i i0 (by omega) _
theorem muA_val (hn : 0 ≤ a 0 ∧ a 0 ≤ 6) {k : Int} (h : 0 ≤ k ∧ k < sizI a kd s t len) : muA a kd s t len set (151 + k) = ctr (cfI kd len k (tmF a s) (tmF a t) (a (7 + t)).toNat (a (7 + s)).toNat) (prC a set) := by
  rw [muA_ne (by omega), muB_hi (by omega) _ (by omega)]
  unfold mu2 muV
  rw [mix_in (by omega), show 151 + k - 151 = k by omega]
theorem muA_bp : bpS (muA a kd s t len set) (muA a kd s t len set 144).toNat = prS a set (a 0).toNat := by
  have h := muB_ok (a := a) (kd := kd) (s := s) (t := t) (len := len) (set := set) (a 0).toNat
  rw [← h.2.2.1, muA_ne (by omega)]
  exact bpS_cong _ (fun i i0 i1 => muA_ne (by omega))
/-- some prime is in the set: the product is greater than 1 -/
theorem muA_cnt (hp : MP a) (hs : 0 < set ∧ set ≤ 2 ^ (a 0).toNat - 1) : 1 ≤ muA a kd s t len set 144 ∧ muA a kd s t len set 144 ≤ 6 := by
  have hn := hp.1
  have h := muB_ok (a := a) (kd := kd) (s := s) (t := t) (len := len) (set := set) (a 0).toNat
  rw [muA_ne (by omega)]
  refine ⟨?_, by have := h.1; omega⟩
  obtain ⟨k, k0, k1, k2⟩ := (bit_ex hn ⟨by omega, hs.2⟩).mpr hs.1
  obtain ⟨i, rfl⟩ := Int.eq_ofNat_of_zero_le k0
  rcases Int.lt_or_le (muB a kd s t len set (a 0).toNat 144) 1 with z | z
  · exfalso
    have h3 := h.2.2.1
    have h1 := h.1
    rw [show (muB a kd s t len set (a 0).toNat 144).toNat = 0 by omega] at h3
    have h4 : (1 : Int) = prS a set (a 0).toNat := h3
    have h5 := prS_mono (set := set) hp (k := i + 1) ((a 0).toNat - (i + 1)) (by omega)
    rw [show i + 1 + ((a 0).toNat - (i + 1)) = (a 0).toNat by omega, prS_t k2] at h5
    have h6 := prS_pos (set := set) hp i (by omega)
    have h7 := hp.2 (i : Int) (by omega) (by omega)
    have h8 := Int.mul_le_mul_of_nonneg_left h7.1 (show 0 ≤ prS a set i by omega)
    omega
  · exact z
theorem muA_pr (hp : MP a) {i : Int} (h0 : 0 ≤ i) (h1 : i < muA a kd s t len set 144) : 3 ≤ muA a kd s t len set (145 + i) ∧ muA a kd s t len set (145 + i) ≤ 100003 ∧ Pr (muA a kd s t len set (145 + i)).toNat := by
  have h := muB_ok (a := a) (kd := kd) (s := s) (t := t) (len := len) (set := set) (a 0).toNat
  rw [muA_ne (by omega)] at h1 ⊢
  obtain ⟨j, j0, j1, -, j3⟩ := h.2.1 i h0 h1
  rw [j3]
  exact hp.2 j j0 (by omega)
theorem ctr_bd {v W : Int} (hW : 0 < W) : -W ≤ 2 * ctr v W ∧ 2 * ctr v W ≤ W := by
  have h1 := Int.emod_nonneg v (show W ≠ 0 by omega)
  have h2 := Int.emod_lt_of_pos v hW
  unfold ctr
  split <;> omega
theorem prC_S (h : prC a set ≤ 4000000000000000000) : prC a set = prS a set (a 0).toNat := by
  unfold prC at h ⊢
  split at h
  · rw [if_pos (by assumption)]
  · omega
theorem mu_mv (hp : MP a) (hl : ML a) (hs : 0 < set ∧ set ≤ 2 ^ (a 0).toNat - 1) (n0 : lacksI a s t = 0) (hz : kindOk a kd s t len) (hlen : 1 ≤ len ∧ len ≤ 64) (hW : prC a set ≤ 4000000000000000000) : MV (muA a kd s t len set) := by
  have hsz := siz_bd2 hl n0 hz
  have h64 := pow_le64 hp.1
  unfold MV
  rw [muA_139, muA_140, muA_141, muA_142, muA_143, muA_bp, ← prC_S hW]
  refine ⟨Or.inr rfl, by omega, fun z => by omega, fun _ => ⟨by rcases hz with z | z <;> omega, hlen, hsz.1, muA_cnt hp hs, by omega, fun i i0 i1 => muA_pr hp i0 i1, hW, fun k k0 k1 => ?_⟩⟩
  rw [muA_val hp.1 ⟨k0, k1⟩]
  exact ctr_bd (by have := prC_bd hp set; omega)
end MUR
theorem PmAt.frame {S S' : PS} {b F : Nat} {a : Int → Int} (h : PmAt S b F a) (he : Ext F S S') (h0 : S'.1 b = S.1 b) (h1 : S'.1 (b + 1) = S.1 (b + 1)) : PmAt S' b F a := by
  obtain ⟨g1, r, g2, g3, g4⟩ := h
  refine ⟨by rw [h0]; exact g1, r, by rw [h1]; exact g2, he.fra g3, fun k k0 k1 => ?_⟩
  obtain ⟨q, q1, q2, q3⟩ := g4 k k0 k1
  exact ⟨q, q1, q2, he.fld q2 q3⟩
theorem Lo.pm {a a' : Int → Int} (h : Lo a a') (hp : 0 ≤ a 0 ∧ a 0 ≤ 6) {S : PS} {b F : Nat} (hb : PmAt S b F a) : PmAt S b F a' := by
  obtain ⟨h1, r, h2, h3, h4⟩ := hb
  have e0 := h 0 (by omega) (by omega)
  refine ⟨by rw [e0]; exact h1, r, h2, h3, fun k k0 k1 => ?_⟩
  rw [e0] at k1
  unfold pN
  rw [h (1 + k) (by omega) (by omega)]
  exact h4 k k0 k1
theorem Lo.md {a a' : Int → Int} (h : Lo a a') : Md a a' := fun i i0 i1 => h i (by omega) i1
section MULT
variable {g : GT} {S : PS} {mc ms : Nat} {x F : Nat} {a : Int → Int} {H : Int → Int → Int} {nx ct fd ea : Int} {tx : Int → Int}
theorem c_X9_multiply {kd s t len set : Int} (hC : CX S x F a H nx ct fd ea tx) (hp : MP a) (hd : MD a) (hl : ML a) (hk : RI kd) (hs : RI s) (ht : RI t) (hn : RI len) (hset : RI set) (hm : 1 ≤ mc) (hm2 : 6 ≤ ms) : PC g yX9_multiply cX9_multiply (iX9_multiply mc ms) [.ref x, vi kd, vi s, vi t, vi len, vi set] S (Out ["java/lang/IndexOutOfBoundsException", "java/lang/IllegalStateException", "java/lang/IllegalArgumentException", "java/util/NoSuchElementException"] (kMul a kd s t len set) (vi (sizI a kd s t len)) S (Chg x F S (muA a kd s t len set) a H nx ct fd ea tx)) := by
  have h0 := hp.1
  have hx := hC.2.1
  have hb := hC.2.2.1
  have hF := hC.1
  have hq := hb.2.1
  have hlb := lacksI_bd a s t
  have h64 := pow_le64 h0
  obtain ⟨w, hw⟩ : ∃ w, SqW S (x + 1) a w := hb.2.1
  obtain ⟨w1, w2, w3, w4⟩ := hw
  refine PC_of pnX9 rfl rfl rfl (Nat.le_of_ble_eq_true rfl) ?_
  refine r_bud (kc' := 1) (ks' := 6) hm hm2 ?_
  refine r_aload_n dX9_multiply_0 (i := 0) rfl rfl (r_iload dX9_multiply_1 rfl ?_)
  by_cases hst : 0 ≤ set ∧ set ≤ 2 ^ (a 0).toNat - 1
  rotate_left
  · exact c_vx (E := "") dX9_multiply_3 (c_X9_requireSet0 (mc := 1) (ms := 6) hx hb.1.1 h0 hset hst (by omega) (by omega)) rfl mq_X9_requireSet ml_X9_237 ⟨Nat.le_of_ble_eq_true rfl, Nat.le_of_ble_eq_true rfl⟩ hx rfl rfl rfl (Nat.le_of_ble_eq_true rfl) (by show 1 ≤ 1; omega) (by show 6 ≤ 6; omega) (fun o S' ho => ⟨_, ho.1, Out.th 0 (by unfold kMul; rw [if_neg hst]; rfl) rfl ⟨rfl, ho.2⟩⟩)
  refine c_vn dX9_multiply_3 (c_X9_requireSet1 hx hb.1.1 h0 hset hst) rfl rfl mq_X9_requireSet ml_X9_237 ⟨Nat.le_of_ble_eq_true rfl, Nat.le_of_ble_eq_true rfl⟩ hx rfl rfl rfl (Nat.le_of_ble_eq_true rfl) (r_aload_n dX9_multiply_6 (i := 0) rfl rfl (r_iload_n dX9_multiply_7 (i := 2) rfl rfl (r_iload_n dX9_multiply_8 (i := 3) rfl rfl ?_)))
  by_cases n1 : lacksI a s t ≠ 1
  rotate_left
  · exact c_vx (E := "") dX9_multiply_9 (c_X9_requireTerms0 (mc := 1) (ms := 6) hx hb.1.1 hq hl hs ht (by omega) (by omega) (by omega)) rfl mq_X9_requireTerms ml_X9_243 ⟨Nat.le_of_ble_eq_true rfl, Nat.le_of_ble_eq_true rfl⟩ hx rfl rfl rfl (Nat.le_of_ble_eq_true rfl) (by show 1 ≤ 1; omega) (by show 6 ≤ 6; omega) (fun o S' ho => ⟨_, ho.1, Out.th 0 (by unfold kMul; rw [if_pos hst, if_neg (by omega)]; omega) rfl ⟨rfl, ho.2⟩⟩)
  by_cases n2 : lacksI a s t ≠ 2
  rotate_left
  · exact c_vx (E := "") dX9_multiply_9 (c_X9_requireTerms2 (mc := 1) (ms := 6) hx hb.1.1 hq hl hs ht (by omega) (by omega) (by omega)) rfl mq_X9_requireTerms ml_X9_243 ⟨Nat.le_of_ble_eq_true rfl, Nat.le_of_ble_eq_true rfl⟩ hx rfl rfl rfl (Nat.le_of_ble_eq_true rfl) (by show 1 ≤ 1; omega) (by show 6 ≤ 6; omega) (fun o S' ho => ⟨_, ho.1, Out.th 1 (by unfold kMul; rw [if_pos hst, if_neg (by omega)]; omega) rfl ⟨rfl, ho.2⟩⟩)
  have n0 : lacksI a s t = 0 := by omega
  obtain ⟨⟨hs4, ht4⟩, ns, nt⟩ := lacks_0.mp n0
  obtain ⟨f1, s1, l1, o1, e1⟩ := two_sq (s := s) (t := t) hl w4 hs4
  obtain ⟨f2, s2, l2, o2, e2⟩ := two_sq (s := t) (t := t) hl w4 ht4
  refine c_vn dX9_multiply_9 (c_X9_requireTerms1 hx hb.1.1 hq hl hs ht n0) rfl rfl mq_X9_requireTerms ml_X9_243 ⟨Nat.le_of_ble_eq_true rfl, Nat.le_of_ble_eq_true rfl⟩ hx rfl rfl rfl (Nat.le_of_ble_eq_true rfl) (r_aload_n dX9_multiply_12 (i := 0) rfl rfl (r_iload_n dX9_multiply_13 (i := 2) rfl rfl (c_vr dX9_multiply_14 (c_X9_sequenceAt1 hx hb.1.1 w3 hs hs4) rfl rfl mq_X9_sequenceAt ml_X9_177 ⟨Nat.le_of_ble_eq_true rfl, Nat.le_of_ble_eq_true rfl⟩ hx rfl rfl rfl (Nat.le_of_ble_eq_true rfl) (r_astore dX9_multiply_17 rfl (Nat.le_of_ble_eq_true rfl) ?_))))
  refine r_aload_n dX9_multiply_19 (i := 0) rfl rfl (r_iload_n dX9_multiply_20 (i := 3) rfl rfl (c_vr dX9_multiply_21 (c_X9_sequenceAt1 hx hb.1.1 w3 ht ht4) rfl rfl mq_X9_sequenceAt ml_X9_177 ⟨Nat.le_of_ble_eq_true rfl, Nat.le_of_ble_eq_true rfl⟩ hx rfl rfl rfl (Nat.le_of_ble_eq_true rfl) (r_astore dX9_multiply_24 rfl (Nat.le_of_ble_eq_true rfl) (r_iload_n dX9_multiply_26 (i := 1) rfl rfl ?_))))
  refine r_aload dX9_multiply_27 rfl (r_aload dX9_multiply_29 rfl (r_iload dX9_multiply_31 rfl ?_))
  by_cases hz : kindOk a kd s t len
  rotate_left
  · exact c_sx dX9_multiply_33 (c_X9_sizeOf0 (mc := 1) (ms := 6) s1 s2 l1 l2 hk hn hz (by omega) (by omega)) rfl mq_X9_sizeOf ml_X9_246 ⟨Nat.le_of_ble_eq_true rfl, Nat.le_of_ble_eq_true rfl⟩ rfl rfl (Nat.le_of_ble_eq_true rfl) (by show 1 ≤ 1; omega) (by show 6 ≤ 6; omega) (fun o S' ho => ⟨_, ho.1, Out.th 2 (by unfold kMul; rw [if_pos hst, if_pos n0, b2c_f (fun z : canMul a kd s t len set (prC a set) => hz (by rcases z.2.2 with y | y; exact Or.inl y.1; exact Or.inr ⟨by have := z.1.1; omega, z.1.2, y.2.1, y.2.2⟩)), if_neg (by decide)]; rfl) rfl ⟨rfl, ho.2⟩⟩)
  have hsz := siz_bd2 hl n0 hz
  have hcz : PC g yX9_sizeOf cX9_sizeOf (iX9_sizeOf 0 0) [vi kd, .ref (x + 1 + 6 + 2 * w s), .ref (x + 1 + 6 + 2 * w t), vi len] S (Rt (some (vi (sizI a kd s t len))) S) := c_X9_sizeOf1 s1 s2 l1 l2 hk hn hz
  have hse : sizI a kd s t len = if kd = 0 then a (7 + s) + a (7 + t) - 1 else len := rfl
  have hkd2 : 0 ≤ kd ∧ kd ≤ 2 := by rcases hz with z9 | z9 <;> omega
  have hcmn : ∀ h9 : ¬ (1 ≤ len ∧ len ≤ 64 ∧ sizI a kd s t len ≤ len), kMul a kd s t len set = 3 := fun h9 => by unfold kMul; rw [if_pos hst, if_pos n0, b2c_f (fun z : canMul a kd s t len set (prC a set) => h9 ⟨z.1.2.1, z.1.2.2, by rw [hse]; rcases z.2.2 with y | y <;> split <;> omega⟩), if_neg (by decide)]
  refine c_sr dX9_multiply_33 (hcz) rfl rfl mq_X9_sizeOf ml_X9_246 ⟨Nat.le_of_ble_eq_true rfl, Nat.le_of_ble_eq_true rfl⟩ rfl rfl (Nat.le_of_ble_eq_true rfl) (r_istore dX9_multiply_36 rfl (Nat.le_of_ble_eq_true rfl) (r_iload dX9_multiply_38 rfl (c_sr dX9_multiply_40 (c_X9_isLength hn) rfl rfl mq_X9_isLength ml_X9_171 ⟨Nat.le_of_ble_eq_true rfl, Nat.le_of_ble_eq_true rfl⟩ rfl rfl (Nat.le_of_ble_eq_true rfl) ?_)))
  refine r_if_eq 57 dX9_multiply_43 (by decide) b2i_RI (fun c1 => ?_) (fun c1 => ?_)
  · replace c1 := b2i_eq c1
    refine r_iconst dX9_multiply_57 ?_
    exact c_sx dX9_multiply_58 (c_X9_require0 (mc := 1) (ms := 6) rfl (by omega) (by omega)) rfl mq_X9_require ml_X9_70 ⟨Nat.le_of_ble_eq_true rfl, Nat.le_of_ble_eq_true rfl⟩ rfl rfl (Nat.le_of_ble_eq_true rfl) (by show 1 ≤ 1; omega) (by show 6 ≤ 6; omega) (fun o S' ho => ⟨_, ho.1, Out.th 2 (by rw [hcmn (by omega)]; rfl) rfl ⟨rfl, ho.2⟩⟩)
  · replace c1 := b2i_ne c1
    refine r_iload dX9_multiply_46 rfl (r_iload dX9_multiply_48 rfl ?_)
    refine r_icmp_lt 57 dX9_multiply_50 (by decide) (by omega) (by omega) (fun c2 => ?_) (fun c2 => ?_)
    · refine r_iconst dX9_multiply_57 ?_
      exact c_sx dX9_multiply_58 (c_X9_require0 (mc := 1) (ms := 6) rfl (by omega) (by omega)) rfl mq_X9_require ml_X9_70 ⟨Nat.le_of_ble_eq_true rfl, Nat.le_of_ble_eq_true rfl⟩ rfl rfl (Nat.le_of_ble_eq_true rfl) (by show 1 ≤ 1; omega) (by show 6 ≤ 6; omega) (fun o S' ho => ⟨_, ho.1, Out.th 2 (by rw [hcmn (by omega)]; rfl) rfl ⟨rfl, ho.2⟩⟩)
    · refine r_iconst dX9_multiply_53 (r_goto 58 dX9_multiply_54 (by decide) (c_sn dX9_multiply_58 (c_X9_require1 (by decide) ⟨by omega, by omega⟩) rfl rfl mq_X9_require ml_X9_70 ⟨Nat.le_of_ble_eq_true rfl, Nat.le_of_ble_eq_true rfl⟩ rfl rfl (Nat.le_of_ble_eq_true rfl) ?_))
      have hlen : 1 ≤ len ∧ len ≤ 64 ∧ sizI a kd s t len ≤ len := by omega
      have hcm : canMul a kd s t len set (prC a set) ↔ (set ≠ 0 ∧ prC a set ≤ 4000000000000000000) := by
        constructor
        · exact fun z => z.2.1
        · intro z
          refine ⟨⟨hkd2, hlen.1, hlen.2.1⟩, z, ?_⟩
          rw [hse] at hlen
          by_cases k0 : kd = 0
          · rw [if_pos k0] at hlen
            exact Or.inl ⟨k0, hlen.2.2⟩
          · rcases hz with z9 | z9
            · exact absurd z9 k0
            · exact Or.inr ⟨k0, z9.2.2.1, z9.2.2.2⟩
      have hpg := prGr_iff (a := a) (set := set) (lim := 4000000000000000000) h0 hst (Int.le_refl _)
      have hmd : (set = 0 ∨ PrGr a set 4000000000000000000) → kMul a kd s t len set = 3 := fun h9 => by
        unfold kMul
        rw [if_pos hst, if_pos n0, b2c_f (fun z => by
          have z2 := hcm.mp z
          rcases h9 with y | y
          · exact z2.1 y
          · have := (hpg.mp y).2
            omega), if_neg (by decide)]
      have hub := usI_bd a (if kd = 2 then 2 * len else len) (a 0).toNat
      have hdb := dif_bd (s := set) (u := usI a (if kd = 2 then 2 * len else len) (a 0).toNat) (by omega)
      have hhd := have_dif (a := a) (set := set) (od := if kd = 2 then 2 * len else len) h0 hst
      refine r_iload dX9_multiply_61 rfl ?_
      refine r_if_eq 85 dX9_multiply_63 (by decide) (by omega) (fun c1 => ?_) (fun c1 => ?_)
      · refine r_iconst dX9_multiply_85 ?_
        exact c_sx dX9_multiply_86 (c_X9_require0 (mc := 1) (ms := 6) rfl (by omega) (by omega)) rfl mq_X9_require ml_X9_70 ⟨Nat.le_of_ble_eq_true rfl, Nat.le_of_ble_eq_true rfl⟩ rfl rfl (Nat.le_of_ble_eq_true rfl) (by show 1 ≤ 1; omega) (by show 6 ≤ 6; omega) (fun o S' ho => ⟨_, ho.1, Out.th 2 (by rw [hmd (by first | exact Or.inl (by omega) | exact Or.inr (by assumption))]; rfl) rfl ⟨rfl, ho.2⟩⟩)
      · refine r_aload_n dX9_multiply_66 (i := 0) rfl rfl (r_get dX9_multiply_67 fl_X9_10 hx rfl (r_iload dX9_multiply_70 rfl (r_ldc2 dX9_multiply_72 csj_X9_276 (c_vr dX9_multiply_75 (c_X0_isProductGreater hb.1.pr hp hset ⟨by omega, by omega⟩) rfl rfl mq_X0_isProductGreater ml_X9_278 ⟨Nat.le_of_ble_eq_true rfl, Nat.le_of_ble_eq_true rfl⟩ hb.1.1 rfl rfl rfl (Nat.le_of_ble_eq_true rfl) ?_))))
        refine r_if_ne 85 dX9_multiply_78 (by decide) b2c_RI (fun c2 => ?_) (fun c2 => ?_)
        · replace c2 := b2c_ne c2
          refine r_iconst dX9_multiply_85 ?_
          exact c_sx dX9_multiply_86 (c_X9_require0 (mc := 1) (ms := 6) rfl (by omega) (by omega)) rfl mq_X9_require ml_X9_70 ⟨Nat.le_of_ble_eq_true rfl, Nat.le_of_ble_eq_true rfl⟩ rfl rfl (Nat.le_of_ble_eq_true rfl) (by show 1 ≤ 1; omega) (by show 6 ≤ 6; omega) (fun o S' ho => ⟨_, ho.1, Out.th 2 (by rw [hmd (by first | exact Or.inl (by omega) | exact Or.inr (by assumption))]; rfl) rfl ⟨rfl, ho.2⟩⟩)
        · replace c2 := b2c_eq c2
          refine r_iconst dX9_multiply_81 (r_goto 86 dX9_multiply_82 (by decide) (c_sn dX9_multiply_86 (c_X9_require1 (by decide) ⟨by omega, by omega⟩) rfl rfl mq_X9_require ml_X9_70 ⟨Nat.le_of_ble_eq_true rfl, Nat.le_of_ble_eq_true rfl⟩ rfl rfl (Nat.le_of_ble_eq_true rfl) (r_iload dX9_multiply_89 rfl (r_aload_n dX9_multiply_91 (i := 0) rfl rfl ?_))))
          refine r_get dX9_multiply_92 fl_X9_10 hx rfl (r_iload_n dX9_multiply_95 (i := 1) rfl rfl (r_iload dX9_multiply_96 rfl (c_vr dX9_multiply_98 (c_X0_usableFields hb.1.pr hp hk ⟨by omega, by omega⟩) rfl rfl mq_X0_usableFields ml_X9_174 ⟨Nat.le_of_ble_eq_true rfl, Nat.le_of_ble_eq_true rfl⟩ hb.1.1 rfl rfl rfl (Nat.le_of_ble_eq_true rfl) (r_iconst dX9_multiply_101 ?_))))
          refine r_ixor (-1 - usI a (if kd = 2 then 2 * len else len) (a 0).toNat) dX9_multiply_102 (q_notI (by omega)) ?_
          refine r_iand (dif set (usI a (if kd = 2 then 2 * len else len) (a 0).toNat)) dX9_multiply_103 (q_dif (by omega) (by omega)) ?_
          refine r_if_eq 118 dX9_multiply_104 (by decide) (by omega) (fun c3 => ?_) (fun c3 => ?_)
          · have hst0 : set ≠ 0 := by omega
            have hW : prC a set ≤ 4000000000000000000 := by
              by_cases y : prC a set ≤ 4000000000000000000
              · exact y
              · exact absurd (hpg.mpr ⟨by omega, by omega⟩) (by assumption)
            have hha : HaveAll a set (if kd = 2 then 2 * len else len) := hhd.mpr (by omega)
            have hk0 : kMul a kd s t len set = 0 := by
              unfold kMul
              rw [if_pos hst, if_pos n0, b2c_t (hcm.mpr ⟨hst0, hW⟩), if_pos rfl, b2c_t hha, if_pos rfl]
            refine r_aload_n dX9_multiply_118 (i := 0) rfl rfl (r_get dX9_multiply_119 fl_X9_19 hx rfl (r_aload_n dX9_multiply_122 (i := 0) rfl rfl (r_get dX9_multiply_123 fl_X9_10 hx rfl ?_)))
            refine c_vq dX9_multiply_126 (keepC hC) rfl rfl mq_X2_keep ml_X9_78 ⟨Nat.le_of_ble_eq_true rfl, Nat.le_of_ble_eq_true rfl⟩ hC.2.2.2.1.1.1 rfl rfl rfl (Nat.le_of_ble_eq_true rfl) (fun E S' h => by simp at h) (fun v S1 hkk => ?_)
            obtain ⟨d1, g1, g2⟩ := hkk
            cases d1
            have hC1 := keepR hC g1 g2
            obtain ⟨fc, c, kd0, st0, ln0, md0, vf0, pf0, p1, p2, p3, p4, p5, p6⟩ := hC1.2.2.1.2.2
            obtain ⟨mu1, msp, mu2'⟩ := hC1.2.2.2.2.2.2.1
            have hq1 : SqW S1 (x + 1) a w := (show SqW S (x + 1) a w from ⟨w1, w2, w3, w4⟩).frame (fun z z1 z2 => g1.1 z (by omega))
            show PW _ _ _ 129 _ [] _ _ _ _
            refine r_aload_n dX9_multiply_129 (i := 0) rfl rfl (r_get dX9_multiply_130 fl_X9_10 hC1.2.1 rfl (r_get dX9_multiply_133 fl_X9_283 hC1.2.2.1.1.1 rfl (r_iload_n dX9_multiply_136 (i := 1) rfl rfl (r_iload dX9_multiply_137 rfl ?_))))
            refine r_iload dX9_multiply_139 rfl (c_vn dX9_multiply_141 (c_X6_prepare p1 p2 hsz) rfl rfl mq_X6_prepare ml_X9_287 ⟨Nat.le_of_ble_eq_true rfl, Nat.le_of_ble_eq_true rfl⟩ p1 rfl rfl rfl (Nat.le_of_ble_eq_true rfl) ?_)
            obtain ⟨S2, e9⟩ : ∃ S2, S2 = ps_put (ps_put S1 (x + 1 + 3) (pO (x + 1) fc (sizI a kd s t len) kd st0 len md0)) (x + 1 + 4) (cJ 64 (mix 0 (sizI a kd s t len) (fun _ => 0) vf0)) := ⟨_, rfl⟩
            refine r_ps e9.symm ?_
            have b3 : S2.1 (x + 1 + 3) = some (pO (x + 1) fc (sizI a kd s t len) kd st0 len md0) := by rw [e9]; exact ps_ne (by omega) ps_same
            have b4 : S2.1 (x + 1 + 4) = some (cJ 64 (mix 0 (sizI a kd s t len) (fun _ => 0) vf0)) := by rw [e9]; exact ps_same
            have bE : ∀ z : Nat, z ≠ x + 4 → z ≠ x + 5 → S2.1 z = S1.1 z := fun z z1 z2 => by rw [e9]; exact ps_ne (by omega) (ps_ne (by omega) rfl)
            have bZ : S2.2 = S1.2 := by rw [e9]; rfl
            have bX : Ext F S1 S2 := fun z hz c0 hc0 => by rw [bE z (by omega) (by omega)]; exact hc0
            have hx2 : S2.1 x = some (xO x) := by rw [bE x (by omega) (by omega)]; exact hC1.2.1
            have hb2 : PmAt S2 (x + 1) F a := hC1.2.2.1.1.frame bX (bE _ (by omega) (by omega)) (bE _ (by omega) (by omega))
            have b5 : S2.1 (x + 1 + 5) = some (cR 6 6 pf0) := by rw [bE _ (by omega) (by omega)]; exact p3
            refine r_aload_n dX9_multiply_144 (i := 0) rfl rfl (r_get dX9_multiply_145 fl_X9_10 hx2 rfl (r_get dX9_multiply_148 fl_X9_283 hb2.1 rfl (r_aload_n dX9_multiply_151 (i := 0) rfl rfl (r_get dX9_multiply_152 fl_X9_10 hx2 rfl ?_))))
            refine r_iload dX9_multiply_155 rfl ?_
            refine c_vq dX9_multiply_157 (c_X6_takeFields (k0 := kd) (s := s) (t := t) (len := len) hb2 (by omega) hp ⟨hst.1, by omega⟩ b3 b5 (bX.fra p4)) rfl rfl mq_X6_takeFields ml_X9_292 ⟨Nat.le_of_ble_eq_true rfl, Nat.le_of_ble_eq_true rfl⟩ b3 rfl rfl rfl (Nat.le_of_ble_eq_true rfl) (fun E S' h => by simp at h) (fun v S3 htk => ?_)
            obtain ⟨d1, pf1, ⟨t3, t5, tE, tZ⟩, tB, tA⟩ := htk
            cases d1
            have hBo := muB_ok (a := a) (kd := kd) (s := s) (t := t) (len := len) (set := set) (a 0).toNat
            have hBp : ∀ i : Int, 0 ≤ i → i < muB a kd s t len set (a 0).toNat 144 → 3 ≤ muB a kd s t len set (a 0).toNat (145 + i) ∧ muB a kd s t len set (a 0).toNat (145 + i) ≤ 100003 ∧ Pr (muB a kd s t len set (a 0).toNat (145 + i)).toNat := fun i i0 i1 => by
              obtain ⟨j, j0, j1, -, j3⟩ := hBo.2.1 i i0 i1
              rw [j3]
              exact hp.2 j j0 (by omega)
            obtain ⟨L, rfl⟩ := Int.eq_ofNat_of_zero_le (show 0 ≤ len by omega)
            have hx3 : S3.1 x = some (xO x) := by rw [tE x (by omega) (by omega)]; exact hx2
            have hb3 : S3.1 (x + 1) = some (bO (x + 1) (a 0)) := by rw [tE _ (by omega) (by omega)]; exact hb2.1
            have hm3 : S3.1 (x + 148) = some (cO 4 [.ref (x + 148 + 1)]) := by rw [tE _ (by omega) (by omega), bE _ (by omega) (by omega)]; exact mu1
            have hms : S3.1 (x + 148 + 1) = some (cI 64 msp) := by rw [tE _ (by omega) (by omega), bE _ (by omega) (by omega)]; exact mu2'
            have hv3 : S3.1 (x + 1 + 4) = some (cJ 64 (mix 0 (sizI a kd s t L) (fun _ => 0) vf0)) := by rw [tE _ (by omega) (by omega)]; exact b4
            have ws := w1 s hs4.1 (by omega)
            have wt := w1 t ht4.1 (by omega)
            have sA : SeqAt S3 (x + 1 + 6 + 2 * w s) (a (7 + s)) f1 := ⟨by rw [tE _ (by omega) (by omega), bE _ (by omega) (by omega), g1.1 _ (by omega)]; exact s1.1, by rw [tE _ (by omega) (by omega), bE _ (by omega) (by omega), g1.1 _ (by omega)]; exact s1.2⟩
            have sB : SeqAt S3 (x + 1 + 6 + 2 * w t) (a (7 + t)) f2 := ⟨by rw [tE _ (by omega) (by omega), bE _ (by omega) (by omega), g1.1 _ (by omega)]; exact s2.1, by rw [tE _ (by omega) (by omega), bE _ (by omega) (by omega), g1.1 _ (by omega)]; exact s2.2⟩
            have tX : Ext F S2 S3 := fun z hz c0 hc0 => by rw [tE z (by omega) (by omega)]; exact hc0
            have hFl : ∀ j : Int, 0 ≤ j → j < muB a kd s t L set (a 0).toNat 144 → ∃ q, pf1 j = some q ∧ F ≤ q ∧ FldAt S3 q (muB a kd s t L set (a 0).toNat (145 + j)).toNat (genN (muB a kd s t L set (a 0).toNat (145 + j)).toNat) := fun j j0 j1 => by
              obtain ⟨q, q1, q2, q3⟩ := tB j j0 j1
              exact ⟨q, q1, q2, tX.fld q2 q3⟩
            have hBd : ∀ i j : Int, 0 ≤ i → i < j → j < muB a kd s t L set (a 0).toNat 144 → muB a kd s t L set (a 0).toNat (145 + i) ≠ muB a kd s t L set (a 0).toNat (145 + j) := fun i j i0 ij j1 hc0 => by
              obtain ⟨u, v, u0, uv, v1, v2, v3⟩ := hBo.2.2.2 i j i0 ij j1
              exact hd u v u0 uv (by omega) (by omega)
            have hBr : ∀ i : Int, 0 ≤ i → i < muB a kd s t L set (a 0).toNat 144 → (muB a kd s t L set (a 0).toNat (145 + i) - 1) % (if kd = 2 then 2 * (L : Int) else (L : Int)) = 0 := fun i i0 i1 => by
              obtain ⟨j, j0, j1, j2, j3⟩ := hBo.2.1 i i0 i1
              rw [j3]
              exact hha j j0 (by omega) j2
            have hszk : (kd = 0 ∧ a (7 + s) + a (7 + t) ≤ (L : Int) + 1) ∨ (kd ≠ 0 ∧ a (7 + s) ≤ (L : Int) ∧ a (7 + t) ≤ (L : Int)) := by
              rcases (hcm.mpr ⟨hst0, hW⟩).2.2 with y | y
              · exact Or.inl ⟨y.1, by omega⟩
              · exact Or.inr y
            have hbp3 : prS a set (a 0).toNat = bpS (muB a kd s t L set (a 0).toNat) (muB a kd s t L set (a 0).toNat 144).toNat := hBo.2.2.1.symm
            show PW _ _ _ 160 _ [] _ _ _ _
            refine r_aload_n dX9_multiply_160 (i := 0) rfl rfl (r_get dX9_multiply_161 fl_X9_40 hx3 rfl (r_aload dX9_multiply_164 rfl (r_aload dX9_multiply_166 rfl (r_aload_n dX9_multiply_168 (i := 0) rfl rfl ?_))))
            refine r_get dX9_multiply_169 fl_X9_10 hx3 rfl (r_get dX9_multiply_172 fl_X9_283 hb3 rfl ?_)
            refine c_vq dX9_multiply_175 (c_X4_convolve (L := L) (F := F) (B := muB a kd s t L set (a 0).toNat) hm3 hms t3 hv3 t5 sA sB hFl ⟨by omega, by omega⟩ (by omega) ⟨by omega, by omega⟩ ⟨by omega, by omega⟩ l1 l2 o1 o2 (by omega) (by omega) hkd2 hszk (by have := hBo.1; omega) hBp hBd hBr hbp3 (by rw [← prC_S hW]; exact hW) (fun k k0 k1 => mix_in ⟨k0, k1⟩)) rfl rfl mq_X4_convolve ml_X9_296 ⟨Nat.le_of_ble_eq_true rfl, Nat.le_of_ble_eq_true rfl⟩ hm3 rfl rfl rfl (Nat.le_of_ble_eq_true rfl) (fun E S' h => by simp at h) (fun v S4 hcv => ?_)
            obtain ⟨d1, vf4, sp4, ⟨v4, w5, cE, cZ⟩, hval⟩ := hcv
            cases d1
            have hE4 : ∀ z : Nat, z ≠ x + 4 → z ≠ x + 5 → z ≠ x + 6 → z ≠ x + 149 → S4.1 z = S1.1 z := fun z z1 z2 z3 z4 => by
              rw [cE z (by omega) (by omega), tE z (by omega) (by omega), bE z (by omega) (by omega)]
            have hX4 : Ext F S1 S4 := fun z hz c0 hc0 => by rw [hE4 z (by omega) (by omega) (by omega) (by omega)]; exact hc0
            have cX : Ext F S3 S4 := fun z hz c0 hc0 => by rw [cE z (by omega) (by omega)]; exact hc0
            have hPd : PdAt S4 (x + 1) F (muA a kd s t L set) := by
              refine ⟨muB a kd s t L set (a 0).toNat 144, sizI a kd s t L, kd, set, (L : Int), prS a set (a 0).toNat, vf4, pf1, by rw [cE _ (by omega) (by omega)]; exact t3, v4, by rw [cE _ (by omega) (by omega)]; exact t5, cX.fra (tX.fra tA), muA_143.symm, fun _ => ?_⟩
              rw [muA_ne (i := 144) (by omega), muA_140, muA_141, muA_142]
              refine ⟨rfl, rfl, rfl, rfl, ?_, fun k k0 k1 => ?_, fun i i0 i1 => ?_⟩
              · rw [hbp3]
                exact bpS_cong _ (fun i i0 i1 => (muA_ne (by omega)).symm)
              · rw [muA_val h0 ⟨k0, k1⟩, hval k k0 k1, cfI_cong e2 _ e1, ← prC_S hW]
              · rw [muA_ne (i := 145 + i) (by omega)]
                obtain ⟨q, q1, q2, q3⟩ := hFl i i0 i1
                exact ⟨q, q1, q2, cX.fld q2 q3⟩
            have hPm : PmAt S4 (x + 1) F (muA a kd s t L set) := muA_lo.pm h0 (hC1.2.2.1.1.frame hX4 (hE4 _ (by omega) (by omega) (by omega) (by omega)) (hE4 _ (by omega) (by omega) (by omega) (by omega)))
            have hSq : SqAt S4 (x + 1) (muA a kd s t L set) := by
              refine muA_lo.md.sq hl ?_
              obtain ⟨a1, a2, a3, a4⟩ := hq1
              refine ⟨w, a1, a2, by rw [hE4 _ (by omega) (by omega) (by omega) (by omega)]; exact a3, fun z z0 z1 => ?_⟩
              have := a1 z z0 z1
              obtain ⟨f, ⟨u1, u2⟩, u3⟩ := a4 z z0 z1
              exact ⟨f, ⟨by rw [hE4 _ (by omega) (by omega) (by omega) (by omega)]; exact u1, by rw [hE4 _ (by omega) (by omega) (by omega) (by omega)]; exact u2⟩, u3⟩
            show PW _ _ _ 178 _ [] _ _ _ _
            refine r_iload dX9_multiply_178 rfl (r_iret dX9_multiply_180 rfl rfl ?_)
            obtain ⟨c0, c1, c2, ⟨c3, c4⟩, c5, c6, c7, c8⟩ := hC1
            refine Out.ok hk0 rfl ⟨⟨c0, by rw [hE4 x (by omega) (by omega) (by omega) (by omega)]; exact c1, ⟨hPm, hSq, hPd⟩, ⟨c3.frame hX4 (fun z z1 z2 => hE4 z (by omega) (by omega) (by omega) (by omega)), c4⟩, c5.frame hX4 (fun z z1 z2 => hE4 z (by omega) (by omega) (by omega) (by omega)), c6.frame (fun z z1 z2 => hE4 z (by omega) (by omega) (by omega) (by omega)), ⟨by rw [cE _ (by omega) (by omega)]; exact hm3, sp4, w5⟩, c8.frame (fun z z1 z2 => hE4 z (by omega) (by omega) (by omega) (by omega))⟩, (FrC.ofX g1 (by omega) (by omega)).trans ⟨fun z cc hz hcc => by rw [hE4 z (by omega) (by omega) (by omega) (by omega)]; exact hcc, by rw [cZ, tZ, bZ]; exact Nat.le_refl _⟩⟩
          · refine r_throwN (w := 3) rfl (List.mem_of_getElem? (i := 12) rfl) rfl dX9_multiply_107 dX9_multiply_110 (Or.inr ⟨rfl, dX9_multiply_111⟩) dX9_multiply_114 dX9_multiply_117 (Nat.le_of_ble_eq_true rfl) (Nat.le_of_ble_eq_true rfl) (by omega) (by omega) (fun z hz => ?_)
            exact Out.th 3 (by unfold kMul; rw [if_pos hst, if_pos n0, b2c_t (hcm.mpr ⟨by omega, by by_cases y : prC a set ≤ 4000000000000000000; exact y; exact absurd (hpg.mpr ⟨by omega, by omega⟩) (by assumption)⟩), if_pos rfl, b2c_f (fun z => by have := hhd.mp z; omega), if_neg (by decide)]; rfl) rfl ⟨rfl, rfl, hz⟩
end MULT

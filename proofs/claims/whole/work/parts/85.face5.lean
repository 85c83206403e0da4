/-! the class's face: the questions of sequences and of the product -/
theorem imax_cong {f h : Int → Int} : ∀ n : Nat, (∀ k : Int, 0 ≤ k → k < n → f k = h k) → imax f n = imax h n
  | 0, _ => rfl
  | n + 1, e => by
    show max (imax f n) (iabs (f n)) = max (imax h n) (iabs (h n))
    rw [e n (by omega) (by omega), imax_cong n (fun k k0 k1 => e k k0 (by omega))]
theorem cfJ_cong {kd n k x i : Int} {h h' : Int → Int} : ∀ j : Nat, (∀ z : Int, 0 ≤ z → z < j → h z = h' z) → cfJ kd n k x h i j = cfJ kd n k x h' i j
  | 0, _ => rfl
  | j + 1, e => by
    show cfJ kd n k x h i j + wgt kd n (i + j - k) * (x * h j) = cfJ kd n k x h' i j + wgt kd n (i + j - k) * (x * h' j)
    rw [e j (by omega) (by omega), cfJ_cong j (fun z z0 z1 => e z z0 (by omega))]
theorem cfI_cong {kd n k : Int} {f f' h h' : Int → Int} {lb : Nat} (eh : ∀ z : Int, 0 ≤ z → z < lb → h z = h' z) : ∀ i : Nat, (∀ z : Int, 0 ≤ z → z < i → f z = f' z) → cfI kd n k f h lb i = cfI kd n k f' h' lb i
  | 0, _ => rfl
  | i + 1, e => by
    show cfI kd n k f h lb i + cfJ kd n k (f i) h i lb = cfI kd n k f' h' lb i + cfJ kd n k (f' i) h' i lb
    rw [e i (by omega) (by omega), cfJ_cong lb eh, cfI_cong eh i (fun z z0 z1 => e z z0 (by omega))]
theorem cfJ_n0 {n m k x i : Int} {h : Int → Int} : ∀ j : Nat, cfJ 0 n k x h i j = cfJ 0 m k x h i j
  | 0 => rfl
  | j + 1 => by
    show cfJ 0 n k x h i j + wgt 0 n (i + j - k) * (x * h j) = cfJ 0 m k x h i j + wgt 0 m (i + j - k) * (x * h j)
    rw [cfJ_n0 (n := n) (m := m) j]
    rfl
theorem cfI_n0 (n m : Int) {k : Int} {f h : Int → Int} {lb : Nat} : ∀ i : Nat, cfI 0 n k f h lb i = cfI 0 m k f h lb i
  | 0 => rfl
  | i + 1 => by
    show cfI 0 n k f h lb i + cfJ 0 n k (f i) h i lb = cfI 0 m k f h lb i + cfJ 0 m k (f i) h i lb
    rw [cfI_n0 n m i, cfJ_n0 (n := n) (m := m) lb]
/-- both sequences of a pair -/
theorem two_sq {S : PS} {b : Nat} {a : Int → Int} {w : Int → Nat} {s t : Int} (hl : ML a) (w4 : ∀ s : Int, 0 ≤ s → s < 4 → ∃ f : Int → Int, SeqAt S (b + 6 + 2 * w s) (a (7 + s)) f ∧ ∀ k : Int, 0 ≤ k → k < a (7 + s) → f k = a (11 + 32 * s + k)) (hs : 0 ≤ s ∧ s ≤ 3) : ∃ f : Int → Int, SeqAt S (b + 6 + 2 * w s) (a (7 + s)) f ∧ (0 ≤ a (7 + s) ∧ a (7 + s) ≤ 32) ∧ TermsOk (a (7 + s)) f ∧ ∀ k : Int, 0 ≤ k → k < ((a (7 + s)).toNat : Int) → f k = tmF a s k := by
  obtain ⟨f, h1, h2⟩ := w4 s hs.1 (by omega)
  have l1 := hl.1 s hs.1 (by omega)
  refine ⟨f, h1, l1, fun k k0 k1 => ?_, fun k k0 k1 => h2 k k0 (by omega)⟩
  rw [h2 k k0 k1]
  exact hl.2 s k hs.1 (by omega) k0 (by omega)
/-- some prime is in a set that is not empty -/
theorem bit_ex0 : ∀ n : Nat, n < 7 → ∀ s : Nat, s < 2 ^ n → 0 < s → ∃ k, k < n ∧ s / 2 ^ k % 2 = 1 := by decide +kernel
theorem bit_ex {n set : Int} (hn : 0 ≤ n ∧ n ≤ 6) (hs : 0 ≤ set ∧ set ≤ 2 ^ n.toNat - 1) : (∃ k : Int, 0 ≤ k ∧ k < n ∧ bt set k) ↔ 0 < set := by
  obtain ⟨m, rfl⟩ := Int.eq_ofNat_of_zero_le hn.1
  obtain ⟨s, rfl⟩ := Int.eq_ofNat_of_zero_le hs.1
  rw [Int.toNat_natCast] at hs
  have hc : ((2 ^ m : Nat) : Int) = (2 : Int) ^ m := Int.natCast_pow 2 m
  constructor
  · rintro ⟨k, k0, k1, k2⟩
    rcases Nat.eq_zero_or_pos s with z | z
    · subst z
      exfalso
      unfold bt at k2
      rw [show ((0 : Nat) : Int) = 0 from rfl, Int.zero_ediv] at k2
      exact absurd k2 (by decide)
    · omega
  · intro h
    obtain ⟨k, k1, k2⟩ := bit_ex0 m (by omega) s (by omega) (by omega)
    exact ⟨(k : Int), by omega, by omega, bt_nat.mpr k2⟩
theorem prGr_iff {a : Int → Int} {set lim : Int} (hn : 0 ≤ a 0 ∧ a 0 ≤ 6) (hs : 0 ≤ set ∧ set ≤ 2 ^ (a 0).toNat - 1) (hl : lim ≤ 4000000000000000000) : PrGr a set lim ↔ 0 < set ∧ lim < prC a set := by
  unfold PrGr prC
  rw [bit_ex hn hs]
  split
  · exact Iff.rfl
  · constructor
    · exact fun h => ⟨h.1, by omega⟩
    · exact fun h => ⟨h.1, by omega⟩
theorem ref_0 {a : Int → Int} {kd s t n : Int} : refI a kd s t n = 0 ↔ lacksI a s t = 0 ∧ kindOk a kd s t n := by
  have h1 := lacksI_bd a s t
  unfold refI
  by_cases h : kindOk a kd s t n
  · rw [b2c_t h]
    split <;> constructor <;> intro z <;> first | omega | exact ⟨by omega, h⟩ | exact absurd z.1 (by omega)
  · rw [b2c_f h]
    split <;> constructor <;> intro z <;> first | omega | exact absurd z.2 h
theorem ref_l {a : Int → Int} {kd s t n : Int} (h : lacksI a s t ≠ 0) : refI a kd s t n = lacksI a s t := by
  have h1 := lacksI_bd a s t
  unfold refI
  rw [if_pos (by omega)]
theorem ref_3 {a : Int → Int} {kd s t n : Int} (h : lacksI a s t = 0) (hk : ¬ kindOk a kd s t n) : refI a kd s t n = 3 := by
  unfold refI
  rw [if_neg (by omega), b2c_f hk]
  rfl
section FACE5
variable {g : GT} {S : PS} {mc ms : Nat} {x F : Nat} {a : Int → Int}
theorem c_X9_bound {s t : Int} (hx : S.1 x = some (xO x)) (hb : BnAt S (x + 1) F a) (hl : ML a) (hs : RI s) (ht : RI t) (hm : 1 ≤ mc) (hm2 : 6 ≤ ms) : PC g yX9_bound cX9_bound (iX9_bound mc ms) [.ref x, vi s, vi t] S (Out ["java/lang/IndexOutOfBoundsException", "java/lang/IllegalStateException"] (lacksI a s t) (vl (bndI a s t)) S (fun S' => S' = S)) := by
  have hq := hb.2.1
  have hlb := lacksI_bd a s t
  obtain ⟨w, w1, w2, w3, w4⟩ := hb.2.1
  refine PC_of pnX9 rfl rfl rfl (Nat.le_of_ble_eq_true rfl) ?_
  refine r_bud (kc' := 1) (ks' := 6) hm hm2 ?_
  refine r_aload_n dX9_bound_0 (i := 0) rfl rfl (r_iload_n dX9_bound_1 (i := 1) rfl rfl (r_iload_n dX9_bound_2 (i := 2) rfl rfl ?_))
  by_cases n1 : lacksI a s t ≠ 1
  rotate_left
  · exact c_vx (E := "") dX9_bound_3 (c_X9_requireTerms0 (mc := 1) (ms := 6) hx hb.1.1 hq hl hs ht (by omega) (by omega) (by omega)) rfl mq_X9_requireTerms ml_X9_243 ⟨Nat.le_of_ble_eq_true rfl, Nat.le_of_ble_eq_true rfl⟩ hx rfl rfl rfl (Nat.le_of_ble_eq_true rfl) (by show 1 ≤ 1; omega) (by show 6 ≤ 6; omega) (fun o S' ho => ⟨_, ho.1, Out.th 0 (by omega) rfl ⟨rfl, ho.2⟩⟩)
  by_cases n2 : lacksI a s t ≠ 2
  rotate_left
  · exact c_vx (E := "") dX9_bound_3 (c_X9_requireTerms2 (mc := 1) (ms := 6) hx hb.1.1 hq hl hs ht (by omega) (by omega) (by omega)) rfl mq_X9_requireTerms ml_X9_243 ⟨Nat.le_of_ble_eq_true rfl, Nat.le_of_ble_eq_true rfl⟩ hx rfl rfl rfl (Nat.le_of_ble_eq_true rfl) (by show 1 ≤ 1; omega) (by show 6 ≤ 6; omega) (fun o S' ho => ⟨_, ho.1, Out.th 1 (by omega) rfl ⟨rfl, ho.2⟩⟩)
  have n0 : lacksI a s t = 0 := by omega
  obtain ⟨⟨hs4, ht4⟩, ns, nt⟩ := lacks_0.mp n0
  obtain ⟨f1, s1, l1, o1, e1⟩ := two_sq (s := s) (t := t) hl w4 hs4
  obtain ⟨f2, s2, l2, o2, e2⟩ := two_sq (s := t) (t := t) hl w4 ht4
  refine c_vn dX9_bound_3 (c_X9_requireTerms1 hx hb.1.1 hq hl hs ht n0) rfl rfl mq_X9_requireTerms ml_X9_243 ⟨Nat.le_of_ble_eq_true rfl, Nat.le_of_ble_eq_true rfl⟩ hx rfl rfl rfl (Nat.le_of_ble_eq_true rfl) (r_aload_n dX9_bound_6 (i := 0) rfl rfl (r_iload_n dX9_bound_7 (i := 1) rfl rfl (c_vr dX9_bound_8 (c_X9_sequenceAt1 hx hb.1.1 w3 hs hs4) rfl rfl mq_X9_sequenceAt ml_X9_177 ⟨Nat.le_of_ble_eq_true rfl, Nat.le_of_ble_eq_true rfl⟩ hx rfl rfl rfl (Nat.le_of_ble_eq_true rfl) (r_aload_n dX9_bound_11 (i := 0) rfl rfl ?_))))
  refine r_iload_n dX9_bound_12 (i := 2) rfl rfl (c_vr dX9_bound_13 (c_X9_sequenceAt1 hx hb.1.1 w3 ht ht4) rfl rfl mq_X9_sequenceAt ml_X9_177 ⟨Nat.le_of_ble_eq_true rfl, Nat.le_of_ble_eq_true rfl⟩ hx rfl rfl rfl (Nat.le_of_ble_eq_true rfl) (c_sr dX9_bound_16 (c_X9_boundOf s1 s2 l1 l2 o1 o2) rfl rfl mq_X9_boundOf ml_X9_250 ⟨Nat.le_of_ble_eq_true rfl, Nat.le_of_ble_eq_true rfl⟩ rfl rfl (Nat.le_of_ble_eq_true rfl) ?_))
  refine r_lret dX9_bound_19 rfl ?_
  refine Out.ok n0 ?_ rfl
  unfold bndI
  rw [imax_cong _ e1, imax_cong _ e2]
theorem c_X9_size {kd s t n : Int} (hx : S.1 x = some (xO x)) (hb : BnAt S (x + 1) F a) (hl : ML a) (hk : RI kd) (hs : RI s) (ht : RI t) (hn : RI n) (hm : 1 ≤ mc) (hm2 : 6 ≤ ms) : PC g yX9_size cX9_size (iX9_size mc ms) [.ref x, vi kd, vi s, vi t, vi n] S (Out ["java/lang/IndexOutOfBoundsException", "java/lang/IllegalStateException", "java/lang/IllegalArgumentException"] (refI a kd s t n) (vi (sizI a kd s t n)) S (fun S' => S' = S)) := by
  have hq := hb.2.1
  have hlb := lacksI_bd a s t
  obtain ⟨w, w1, w2, w3, w4⟩ := hb.2.1
  refine PC_of pnX9 rfl rfl rfl (Nat.le_of_ble_eq_true rfl) ?_
  refine r_bud (kc' := 1) (ks' := 6) hm hm2 ?_
  refine r_aload_n dX9_size_0 (i := 0) rfl rfl (r_iload_n dX9_size_1 (i := 2) rfl rfl (r_iload_n dX9_size_2 (i := 3) rfl rfl ?_))
  by_cases n1 : lacksI a s t ≠ 1
  rotate_left
  · exact c_vx (E := "") dX9_size_3 (c_X9_requireTerms0 (mc := 1) (ms := 6) hx hb.1.1 hq hl hs ht (by omega) (by omega) (by omega)) rfl mq_X9_requireTerms ml_X9_243 ⟨Nat.le_of_ble_eq_true rfl, Nat.le_of_ble_eq_true rfl⟩ hx rfl rfl rfl (Nat.le_of_ble_eq_true rfl) (by show 1 ≤ 1; omega) (by show 6 ≤ 6; omega) (fun o S' ho => ⟨_, ho.1, Out.th 0 (by rw [ref_l (by omega)]; omega) rfl ⟨rfl, ho.2⟩⟩)
  by_cases n2 : lacksI a s t ≠ 2
  rotate_left
  · exact c_vx (E := "") dX9_size_3 (c_X9_requireTerms2 (mc := 1) (ms := 6) hx hb.1.1 hq hl hs ht (by omega) (by omega) (by omega)) rfl mq_X9_requireTerms ml_X9_243 ⟨Nat.le_of_ble_eq_true rfl, Nat.le_of_ble_eq_true rfl⟩ hx rfl rfl rfl (Nat.le_of_ble_eq_true rfl) (by show 1 ≤ 1; omega) (by show 6 ≤ 6; omega) (fun o S' ho => ⟨_, ho.1, Out.th 1 (by rw [ref_l (by omega)]; omega) rfl ⟨rfl, ho.2⟩⟩)
  have n0 : lacksI a s t = 0 := by omega
  obtain ⟨⟨hs4, ht4⟩, ns, nt⟩ := lacks_0.mp n0
  obtain ⟨f1, s1, l1, o1, e1⟩ := two_sq (s := s) (t := t) hl w4 hs4
  obtain ⟨f2, s2, l2, o2, e2⟩ := two_sq (s := t) (t := t) hl w4 ht4
  refine c_vn dX9_size_3 (c_X9_requireTerms1 hx hb.1.1 hq hl hs ht n0) rfl rfl mq_X9_requireTerms ml_X9_243 ⟨Nat.le_of_ble_eq_true rfl, Nat.le_of_ble_eq_true rfl⟩ hx rfl rfl rfl (Nat.le_of_ble_eq_true rfl) (r_iload_n dX9_size_6 (i := 1) rfl rfl (r_aload_n dX9_size_7 (i := 0) rfl rfl (r_iload_n dX9_size_8 (i := 2) rfl rfl (c_vr dX9_size_9 (c_X9_sequenceAt1 hx hb.1.1 w3 hs hs4) rfl rfl mq_X9_sequenceAt ml_X9_177 ⟨Nat.le_of_ble_eq_true rfl, Nat.le_of_ble_eq_true rfl⟩ hx rfl rfl rfl (Nat.le_of_ble_eq_true rfl) ?_))))
  refine r_aload_n dX9_size_12 (i := 0) rfl rfl (r_iload_n dX9_size_13 (i := 3) rfl rfl (c_vr dX9_size_14 (c_X9_sequenceAt1 hx hb.1.1 w3 ht ht4) rfl rfl mq_X9_sequenceAt ml_X9_177 ⟨Nat.le_of_ble_eq_true rfl, Nat.le_of_ble_eq_true rfl⟩ hx rfl rfl rfl (Nat.le_of_ble_eq_true rfl) (r_iload dX9_size_17 rfl ?_)))
  by_cases hz : kindOk a kd s t n
  rotate_left
  · exact c_sx dX9_size_19 (c_X9_sizeOf0 (mc := 1) (ms := 6) s1 s2 l1 l2 hk hn hz (by omega) (by omega)) rfl mq_X9_sizeOf ml_X9_246 ⟨Nat.le_of_ble_eq_true rfl, Nat.le_of_ble_eq_true rfl⟩ rfl rfl (Nat.le_of_ble_eq_true rfl) (by show 1 ≤ 1; omega) (by show 6 ≤ 6; omega) (fun o S' ho => ⟨_, ho.1, Out.th 2 (by rw [ref_3 n0 hz]; rfl) rfl ⟨rfl, ho.2⟩⟩)
  refine c_sr dX9_size_19 (c_X9_sizeOf1 s1 s2 l1 l2 hk hn hz) rfl rfl mq_X9_sizeOf ml_X9_246 ⟨Nat.le_of_ble_eq_true rfl, Nat.le_of_ble_eq_true rfl⟩ rfl rfl (Nat.le_of_ble_eq_true rfl) ?_
  refine r_iret dX9_size_22 rfl rfl ?_
  exact Out.ok (ref_0.mpr ⟨n0, hz⟩) rfl rfl
theorem siz_bd2 {a : Int → Int} {kd s t n : Int} (hl : ML a) (n0 : lacksI a s t = 0) (hz : kindOk a kd s t n) : 1 ≤ sizI a kd s t n ∧ sizI a kd s t n ≤ 64 := by
  obtain ⟨⟨hs4, ht4⟩, ns, nt⟩ := lacks_0.mp n0
  have l1 := hl.1 s hs4.1 (by omega)
  have l2 := hl.1 t ht4.1 (by omega)
  unfold sizI
  rcases hz with h | h
  · rw [if_pos h]
    omega
  · rw [if_neg (by omega)]
    omega
theorem c_X9_coefficient {kd s t n k : Int} (hx : S.1 x = some (xO x)) (hb : BnAt S (x + 1) F a) (hl : ML a) (hk : RI kd) (hs : RI s) (ht : RI t) (hn : RI n) (hkk : RI k) (hm : 1 ≤ mc) (hm2 : 6 ≤ ms) : PC g yX9_coefficient cX9_coefficient (iX9_coefficient mc ms) [.ref x, vi kd, vi s, vi t, vi n, vi k] S (Out ["java/lang/IndexOutOfBoundsException", "java/lang/IllegalStateException", "java/lang/IllegalArgumentException"] (kCoef a kd s t n k) (vl (cfI kd n k (tmF a s) (tmF a t) (a (7 + t)).toNat (a (7 + s)).toNat)) S (fun S' => S' = S)) := by
  have hq := hb.2.1
  have hlb := lacksI_bd a s t
  obtain ⟨w, w1, w2, w3, w4⟩ := hb.2.1
  refine PC_of pnX9 rfl rfl rfl (Nat.le_of_ble_eq_true rfl) ?_
  refine r_bud (kc' := 1) (ks' := 6) hm hm2 ?_
  refine r_aload_n dX9_coefficient_0 (i := 0) rfl rfl (r_iload_n dX9_coefficient_1 (i := 2) rfl rfl (r_iload_n dX9_coefficient_2 (i := 3) rfl rfl ?_))
  by_cases n1 : lacksI a s t ≠ 1
  rotate_left
  · exact c_vx (E := "") dX9_coefficient_3 (c_X9_requireTerms0 (mc := 1) (ms := 6) hx hb.1.1 hq hl hs ht (by omega) (by omega) (by omega)) rfl mq_X9_requireTerms ml_X9_243 ⟨Nat.le_of_ble_eq_true rfl, Nat.le_of_ble_eq_true rfl⟩ hx rfl rfl rfl (Nat.le_of_ble_eq_true rfl) (by show 1 ≤ 1; omega) (by show 6 ≤ 6; omega) (fun o S' ho => ⟨_, ho.1, Out.th 0 (by unfold kCoef; rw [ref_l (by omega), if_neg (by omega)]; omega) rfl ⟨rfl, ho.2⟩⟩)
  by_cases n2 : lacksI a s t ≠ 2
  rotate_left
  · exact c_vx (E := "") dX9_coefficient_3 (c_X9_requireTerms2 (mc := 1) (ms := 6) hx hb.1.1 hq hl hs ht (by omega) (by omega) (by omega)) rfl mq_X9_requireTerms ml_X9_243 ⟨Nat.le_of_ble_eq_true rfl, Nat.le_of_ble_eq_true rfl⟩ hx rfl rfl rfl (Nat.le_of_ble_eq_true rfl) (by show 1 ≤ 1; omega) (by show 6 ≤ 6; omega) (fun o S' ho => ⟨_, ho.1, Out.th 1 (by unfold kCoef; rw [ref_l (by omega), if_neg (by omega)]; omega) rfl ⟨rfl, ho.2⟩⟩)
  have n0 : lacksI a s t = 0 := by omega
  obtain ⟨⟨hs4, ht4⟩, ns, nt⟩ := lacks_0.mp n0
  obtain ⟨f1, s1, l1, o1, e1⟩ := two_sq (s := s) (t := t) hl w4 hs4
  obtain ⟨f2, s2, l2, o2, e2⟩ := two_sq (s := t) (t := t) hl w4 ht4
  refine c_vn dX9_coefficient_3 (c_X9_requireTerms1 hx hb.1.1 hq hl hs ht n0) rfl rfl mq_X9_requireTerms ml_X9_243 ⟨Nat.le_of_ble_eq_true rfl, Nat.le_of_ble_eq_true rfl⟩ hx rfl rfl rfl (Nat.le_of_ble_eq_true rfl) (r_aload_n dX9_coefficient_6 (i := 0) rfl rfl (r_iload_n dX9_coefficient_7 (i := 2) rfl rfl (c_vr dX9_coefficient_8 (c_X9_sequenceAt1 hx hb.1.1 w3 hs hs4) rfl rfl mq_X9_sequenceAt ml_X9_177 ⟨Nat.le_of_ble_eq_true rfl, Nat.le_of_ble_eq_true rfl⟩ hx rfl rfl rfl (Nat.le_of_ble_eq_true rfl) (r_astore dX9_coefficient_11 rfl (Nat.le_of_ble_eq_true rfl) ?_))))
  refine r_aload_n dX9_coefficient_13 (i := 0) rfl rfl (r_iload_n dX9_coefficient_14 (i := 3) rfl rfl (c_vr dX9_coefficient_15 (c_X9_sequenceAt1 hx hb.1.1 w3 ht ht4) rfl rfl mq_X9_sequenceAt ml_X9_177 ⟨Nat.le_of_ble_eq_true rfl, Nat.le_of_ble_eq_true rfl⟩ hx rfl rfl rfl (Nat.le_of_ble_eq_true rfl) (r_astore dX9_coefficient_18 rfl (Nat.le_of_ble_eq_true rfl) (r_iload_n dX9_coefficient_20 (i := 1) rfl rfl ?_))))
  refine r_aload dX9_coefficient_21 rfl (r_aload dX9_coefficient_23 rfl (r_iload dX9_coefficient_25 rfl ?_))
  by_cases hz : kindOk a kd s t n
  rotate_left
  · exact c_sx dX9_coefficient_27 (c_X9_sizeOf0 (mc := 1) (ms := 6) s1 s2 l1 l2 hk hn hz (by omega) (by omega)) rfl mq_X9_sizeOf ml_X9_246 ⟨Nat.le_of_ble_eq_true rfl, Nat.le_of_ble_eq_true rfl⟩ rfl rfl (Nat.le_of_ble_eq_true rfl) (by show 1 ≤ 1; omega) (by show 6 ≤ 6; omega) (fun o S' ho => ⟨_, ho.1, Out.th 2 (by unfold kCoef; rw [ref_3 n0 hz, if_neg (by decide)]; rfl) rfl ⟨rfl, ho.2⟩⟩)
  have hsz := siz_bd2 hl n0 hz
  have hse : sizI a kd s t n = if kd = 0 then a (7 + s) + a (7 + t) - 1 else n := rfl
  have hr0 : refI a kd s t n = 0 := ref_0.mpr ⟨n0, hz⟩
  have hcz : PC g yX9_sizeOf cX9_sizeOf (iX9_sizeOf 0 0) [vi kd, .ref (x + 1 + 6 + 2 * w s), .ref (x + 1 + 6 + 2 * w t), vi n] S (Rt (some (vi (sizI a kd s t n))) S) := c_X9_sizeOf1 s1 s2 l1 l2 hk hn hz
  refine c_sr dX9_coefficient_27 (hcz) rfl rfl mq_X9_sizeOf ml_X9_246 ⟨Nat.le_of_ble_eq_true rfl, Nat.le_of_ble_eq_true rfl⟩ rfl rfl (Nat.le_of_ble_eq_true rfl) (r_istore dX9_coefficient_30 rfl (Nat.le_of_ble_eq_true rfl) (r_iload dX9_coefficient_32 rfl ?_))
  refine r_if_lt 48 dX9_coefficient_34 (by decide) (by omega) (fun c1 => ?_) (fun c1 => ?_)
  · refine r_iconst dX9_coefficient_48 ?_
    exact c_sx dX9_coefficient_49 (c_X9_require0 (mc := 1) (ms := 6) rfl (by omega) (by omega)) rfl mq_X9_require ml_X9_70 ⟨Nat.le_of_ble_eq_true rfl, Nat.le_of_ble_eq_true rfl⟩ rfl rfl (Nat.le_of_ble_eq_true rfl) (by show 1 ≤ 1; omega) (by show 6 ≤ 6; omega) (fun o S' ho => ⟨_, ho.1, Out.th 2 (by unfold kCoef; rw [if_pos hr0, if_neg (by omega)]; rfl) rfl ⟨rfl, ho.2⟩⟩)
  · refine r_iload dX9_coefficient_37 rfl (r_iload dX9_coefficient_39 rfl ?_)
    refine r_icmp_ge 48 dX9_coefficient_41 (by decide) (by omega) (by omega) (fun c2 => ?_) (fun c2 => ?_)
    · refine r_iconst dX9_coefficient_48 ?_
      exact c_sx dX9_coefficient_49 (c_X9_require0 (mc := 1) (ms := 6) rfl (by omega) (by omega)) rfl mq_X9_require ml_X9_70 ⟨Nat.le_of_ble_eq_true rfl, Nat.le_of_ble_eq_true rfl⟩ rfl rfl (Nat.le_of_ble_eq_true rfl) (by show 1 ≤ 1; omega) (by show 6 ≤ 6; omega) (fun o S' ho => ⟨_, ho.1, Out.th 2 (by unfold kCoef; rw [if_pos hr0, if_neg (by omega)]; rfl) rfl ⟨rfl, ho.2⟩⟩)
    · refine r_iconst dX9_coefficient_44 (r_goto 49 dX9_coefficient_45 (by decide) (c_sn dX9_coefficient_49 (c_X9_require1 (by decide) ⟨by omega, by omega⟩) rfl rfl mq_X9_require ml_X9_70 ⟨Nat.le_of_ble_eq_true rfl, Nat.le_of_ble_eq_true rfl⟩ rfl rfl (Nat.le_of_ble_eq_true rfl) (r_iload_n dX9_coefficient_52 (i := 1) rfl rfl (r_aload dX9_coefficient_53 rfl ?_))))
      refine r_aload dX9_coefficient_55 rfl (r_iload dX9_coefficient_57 rfl (r_iload dX9_coefficient_59 rfl (c_sr dX9_coefficient_61 (c_X9_coefficientOf s1 s2 l1 l2 o1 o2 (by rcases hz with z9 | z9 <;> omega) hsz (by omega) (by rcases hz with z9 | z9 <;> unfold sizI <;> split <;> omega)) rfl rfl mq_X9_coefficientOf ml_X9_254 ⟨Nat.le_of_ble_eq_true rfl, Nat.le_of_ble_eq_true rfl⟩ rfl rfl (Nat.le_of_ble_eq_true rfl) ?_)))
      refine r_lret dX9_coefficient_64 rfl ?_
      refine Out.ok (by unfold kCoef; rw [if_pos hr0, if_pos (by omega)]) ?_ rfl
      rw [cfI_cong e2 _ e1]
      by_cases hkd : kd = 0
      · subst hkd
        rw [cfI_n0 (sizI a 0 s t n) n]
      · rw [hse, if_neg hkd]
theorem c_X9_isEnough {set s t : Int} (hx : S.1 x = some (xO x)) (hb : BnAt S (x + 1) F a) (hp : MP a) (hl : ML a) (hset : RI set) (hs : RI s) (ht : RI t) (hm : 1 ≤ mc) (hm2 : 6 ≤ ms) : PC g yX9_isEnough cX9_isEnough (iX9_isEnough mc ms) [.ref x, vi set, vi s, vi t] S (Out ["java/lang/IndexOutOfBoundsException", "java/lang/IllegalStateException"] (kEnough a set s t) (vi (b2i (0 < set ∧ 2 * bndI a s t < prC a set))) S (fun S' => S' = S)) := by
  have h0 := hp.1
  have hq := hb.2.1
  have hlb := lacksI_bd a s t
  obtain ⟨w, w1, w2, w3, w4⟩ := hb.2.1
  refine PC_of pnX9 rfl rfl rfl (Nat.le_of_ble_eq_true rfl) ?_
  refine r_bud (kc' := 1) (ks' := 6) hm hm2 ?_
  refine r_aload_n dX9_isEnough_0 (i := 0) rfl rfl (r_iload_n dX9_isEnough_1 (i := 1) rfl rfl ?_)
  by_cases hset2 : 0 ≤ set ∧ set ≤ 2 ^ (a 0).toNat - 1
  rotate_left
  · exact c_vx (E := "") dX9_isEnough_2 (c_X9_requireSet0 (mc := 1) (ms := 6) hx hb.1.1 h0 hset hset2 (by omega) (by omega)) rfl mq_X9_requireSet ml_X9_237 ⟨Nat.le_of_ble_eq_true rfl, Nat.le_of_ble_eq_true rfl⟩ hx rfl rfl rfl (Nat.le_of_ble_eq_true rfl) (by show 1 ≤ 1; omega) (by show 6 ≤ 6; omega) (fun o S' ho => ⟨_, ho.1, Out.th 0 (by unfold kEnough; rw [if_neg hset2]; rfl) rfl ⟨rfl, ho.2⟩⟩)
  refine c_vn dX9_isEnough_2 (c_X9_requireSet1 hx hb.1.1 h0 hset hset2) rfl rfl mq_X9_requireSet ml_X9_237 ⟨Nat.le_of_ble_eq_true rfl, Nat.le_of_ble_eq_true rfl⟩ hx rfl rfl rfl (Nat.le_of_ble_eq_true rfl) (r_aload_n dX9_isEnough_5 (i := 0) rfl rfl (r_iload_n dX9_isEnough_6 (i := 2) rfl rfl (r_iload_n dX9_isEnough_7 (i := 3) rfl rfl ?_)))
  by_cases n1 : lacksI a s t ≠ 1
  rotate_left
  · exact c_vx (E := "") dX9_isEnough_8 (c_X9_requireTerms0 (mc := 1) (ms := 6) hx hb.1.1 hq hl hs ht (by omega) (by omega) (by omega)) rfl mq_X9_requireTerms ml_X9_243 ⟨Nat.le_of_ble_eq_true rfl, Nat.le_of_ble_eq_true rfl⟩ hx rfl rfl rfl (Nat.le_of_ble_eq_true rfl) (by show 1 ≤ 1; omega) (by show 6 ≤ 6; omega) (fun o S' ho => ⟨_, ho.1, Out.th 0 (by unfold kEnough; rw [if_pos hset2]; omega) rfl ⟨rfl, ho.2⟩⟩)
  by_cases n2 : lacksI a s t ≠ 2
  rotate_left
  · exact c_vx (E := "") dX9_isEnough_8 (c_X9_requireTerms2 (mc := 1) (ms := 6) hx hb.1.1 hq hl hs ht (by omega) (by omega) (by omega)) rfl mq_X9_requireTerms ml_X9_243 ⟨Nat.le_of_ble_eq_true rfl, Nat.le_of_ble_eq_true rfl⟩ hx rfl rfl rfl (Nat.le_of_ble_eq_true rfl) (by show 1 ≤ 1; omega) (by show 6 ≤ 6; omega) (fun o S' ho => ⟨_, ho.1, Out.th 1 (by unfold kEnough; rw [if_pos hset2]; omega) rfl ⟨rfl, ho.2⟩⟩)
  have n0 : lacksI a s t = 0 := by omega
  obtain ⟨⟨hs4, ht4⟩, ns, nt⟩ := lacks_0.mp n0
  obtain ⟨f1, s1, l1, o1, e1⟩ := two_sq (s := s) (t := t) hl w4 hs4
  obtain ⟨f2, s2, l2, o2, e2⟩ := two_sq (s := t) (t := t) hl w4 ht4
  have hbb := (bnd_bd hl hs4 ht4).2.2.2
  have hbe : min (a (7 + s)) (a (7 + t)) * imax f1 (a (7 + s)).toNat * imax f2 (a (7 + t)).toNat = bndI a s t := by unfold bndI; rw [imax_cong _ e1, imax_cong _ e2]
  have hcz : PC g yX9_boundOf cX9_boundOf (iX9_boundOf 0 0) [.ref (x + 1 + 6 + 2 * w s), .ref (x + 1 + 6 + 2 * w t)] S (Rt (some (vl (bndI a s t))) S) := by rw [← hbe]; exact c_X9_boundOf s1 s2 l1 l2 o1 o2
  refine c_vn dX9_isEnough_8 (c_X9_requireTerms1 hx hb.1.1 hq hl hs ht n0) rfl rfl mq_X9_requireTerms ml_X9_243 ⟨Nat.le_of_ble_eq_true rfl, Nat.le_of_ble_eq_true rfl⟩ hx rfl rfl rfl (Nat.le_of_ble_eq_true rfl) (r_aload_n dX9_isEnough_11 (i := 0) rfl rfl (r_get dX9_isEnough_12 fl_X9_10 hx rfl (r_iload_n dX9_isEnough_15 (i := 1) rfl rfl (r_aload_n dX9_isEnough_16 (i := 0) rfl rfl ?_))))
  refine r_iload_n dX9_isEnough_17 (i := 2) rfl rfl (c_vr dX9_isEnough_18 (c_X9_sequenceAt1 hx hb.1.1 w3 hs hs4) rfl rfl mq_X9_sequenceAt ml_X9_177 ⟨Nat.le_of_ble_eq_true rfl, Nat.le_of_ble_eq_true rfl⟩ hx rfl rfl rfl (Nat.le_of_ble_eq_true rfl) (r_aload_n dX9_isEnough_21 (i := 0) rfl rfl (r_iload_n dX9_isEnough_22 (i := 3) rfl rfl (c_vr dX9_isEnough_23 (c_X9_sequenceAt1 hx hb.1.1 w3 ht ht4) rfl rfl mq_X9_sequenceAt ml_X9_177 ⟨Nat.le_of_ble_eq_true rfl, Nat.le_of_ble_eq_true rfl⟩ hx rfl rfl rfl (Nat.le_of_ble_eq_true rfl) ?_))))
  refine c_sr dX9_isEnough_26 (hcz) rfl rfl mq_X9_boundOf ml_X9_250 ⟨Nat.le_of_ble_eq_true rfl, Nat.le_of_ble_eq_true rfl⟩ rfl rfl (Nat.le_of_ble_eq_true rfl) (c_vr dX9_isEnough_29 (c_X0_areEnough hb.1.pr hp hset hbb) rfl rfl mq_X0_areEnough ml_X9_258 ⟨Nat.le_of_ble_eq_true rfl, Nat.le_of_ble_eq_true rfl⟩ hb.1.1 rfl rfl rfl (Nat.le_of_ble_eq_true rfl) ?_)
  refine r_iret dX9_isEnough_32 rfl b2c_narZ ?_
  refine Out.ok (by unfold kEnough; rw [if_pos hset2]; exact n0) ?_ rfl
  have hi := prGr_iff (lim := 2 * bndI a s t) h0 hset2 (by omega)
  by_cases hpg : PrGr a set (2 * bndI a s t)
  · rw [b2c_t hpg, b2i_t (hi.mp hpg)]
  · rw [b2c_f hpg, b2i_f (fun z => hpg (hi.mpr z))]
end FACE5

/-! the class's face: the changes store, removePrime -/
section CHG2
variable {g : GT} {S : PS} {mc ms : Nat} {x F : Nat} {a : Int → Int} {H : Int → Int → Int} {nx ct fd ea : Int} {tx : Int → Int}
theorem l_sto {S0 : PS} {fc c kd st ln md s0 : Int} {vf : Int → Int} {sq pr : Nat} {kc ks : Nat} {Q : PO → PS → Prop} (hne : pr ≠ sq ∧ pr ≠ sq + 1 ∧ pr + 1 ≠ sq ∧ pr ≠ sq) (p1 : S0.1 pr = some (cO 6 [.ref (pr + 1), .ref (pr + 2), vi fc, vi c, vi kd, vi st, vi ln, vl md])) (p2 : S0.1 (pr + 1) = some (cJ 64 vf)) (hc : 0 ≤ c ∧ c ≤ 32) (hq : ∀ f : Int → Int, (∀ k : Int, 0 ≤ k → k < c → f k = vf k) → Q (.inl (some (vi c))) (ps_seq S0 sq c f)) : ∀ (r k : Nat), (k : Int) + r = c → ∀ f : Int → Int, (∀ j : Int, 0 ≤ j → j < k → f j = vf j) →
    PW g cX9_store (iX9_store mc ms) 48 [(0, some (.ref x)), (1, some (vi s0)), (2, some (.ref sq)), (3, some (.ref pr)), (4, some (vi (k : Int)))] [] (ps_seq S0 sq (k : Int) f) kc ks Q := by
  intro r
  induction r with
  | zero =>
    intro k hk f hf
    have g1 : (ps_seq S0 sq (k : Int) f).1 pr = some (cO 6 [.ref (pr + 1), .ref (pr + 2), vi fc, vi c, vi kd, vi st, vi ln, vl md]) := by
      rw [ps_seq_ne (by omega) (by omega)]
      exact p1
    have s1 : SeqAt (ps_seq S0 sq (k : Int) f) sq (k : Int) f := SeqAt.seq
    refine r_iload dX9_store_48 rfl (r_aload_n dX9_store_50 (i := 3) rfl rfl (r_get dX9_store_51 fl_X9_304 g1 rfl ?_))
    refine r_icmp_ge 75 dX9_store_54 (by decide) (by omega) (by omega) (fun c1 => ?_) (fun c1 => ?_)
    · refine r_aload_n dX9_store_75 (i := 2) rfl rfl (r_get dX9_store_76 fl_X9_181 s1.1 rfl ?_)
      refine r_iret dX9_store_79 rfl rfl ?_
      rw [show (k : Int) = c by omega]
      exact hq f (fun j j0 j1 => hf j j0 (by omega))
    · omega
  | succ r ih =>
    intro k hk f hf
    have g1 : (ps_seq S0 sq (k : Int) f).1 pr = some (cO 6 [.ref (pr + 1), .ref (pr + 2), vi fc, vi c, vi kd, vi st, vi ln, vl md]) := by
      rw [ps_seq_ne (by omega) (by omega)]
      exact p1
    have s1 : SeqAt (ps_seq S0 sq (k : Int) f) sq (k : Int) f := SeqAt.seq
    by_cases hv : pr + 1 = sq + 1
    · omega
    have g2 : (ps_seq S0 sq (k : Int) f).1 (pr + 1) = some (cJ 64 vf) := by
      rw [ps_seq_ne (by omega) (by omega)]
      exact p2
    refine r_iload dX9_store_48 rfl (r_aload_n dX9_store_50 (i := 3) rfl rfl (r_get dX9_store_51 fl_X9_304 g1 rfl ?_))
    refine r_icmp_ge 75 dX9_store_54 (by decide) (by omega) (by omega) (fun c1 => ?_) (fun c1 => ?_)
    · omega
    · refine r_aload_n dX9_store_57 (i := 2) rfl rfl (r_aload_n dX9_store_58 (i := 3) rfl rfl (r_get dX9_store_59 fl_X9_314 g1 rfl (r_iload dX9_store_62 rfl (r_lald dX9_store_64 g2 (by omega) (by omega) (by omega) ?_))))
      refine r_l2i dX9_store_65 (c_vn dX9_store_66 (c_X7_add s1 (by omega)) rfl rfl mq_X7_add ml_X9_216 ⟨Nat.le_of_ble_eq_true rfl, Nat.le_of_ble_eq_true rfl⟩ s1.1 rfl rfl rfl (Nat.le_of_ble_eq_true rfl) (r_iinc dX9_store_69 rfl rfl (r_goto 48 dX9_store_72 (by decide) ?_)))
      rw [seq_seq]
      exact r_loc [(0, some (.ref x)), (1, some (vi s0)), (2, some (.ref sq)), (3, some (.ref pr)), (4, some (vi ((k + 1 : Nat) : Int)))] ⟨Or.inl rfl, Or.inl rfl, Or.inl rfl, Or.inl rfl, Or.inl rfl, trivial⟩ (ih (k + 1) (by omega) (upI f (k : Int) (vf k)) (fun j j0 j1 => by
        by_cases e : j = k
        · subst e
          exact upI_eq
        · rw [upI_ne e]
          exact hf j j0 (by omega)))
theorem c_X9_store {s : Int} (hC : CX S x F a H nx ct fd ea tx) (hp : MP a) (hl : ML a) (hv : MV a) (hs : RI s) (hm : 1 ≤ mc) (hm2 : 6 ≤ ms) : PC g yX9_store cX9_store (iX9_store mc ms) [.ref x, vi s] S (Out ["java/lang/IndexOutOfBoundsException", "java/lang/IllegalStateException"] (kStore a s) (vi (a 143)) S (Chg x F S (stA a s) a H nx ct fd ea tx)) := by
  have hx := hC.2.1
  have hb := hC.2.2.1
  have hF := hC.1
  have hv1 := hv.1
  have hv2 := hv.2.1
  obtain ⟨w, hq⟩ : ∃ w, SqW S (x + 1) a w := hb.2.1
  obtain ⟨fc, c, kd, st, ln, md, vf, pf, p1, p2, p3, p4, p5, p6⟩ := hb.2.2
  refine PC_of pnX9 rfl rfl rfl (Nat.le_of_ble_eq_true rfl) ?_
  refine r_bud (kc' := 1) (ks' := 6) hm hm2 ?_
  refine r_aload_n dX9_store_0 (i := 0) rfl rfl (r_iload_n dX9_store_1 (i := 1) rfl rfl ?_)
  by_cases hs4 : 0 ≤ s ∧ s ≤ 3
  rotate_left
  · exact c_vx (E := "") dX9_store_2 (c_X9_sequenceAt0 (mc := 1) (ms := 6) hx hs hs4 (by omega) (by omega)) rfl mq_X9_sequenceAt ml_X9_177 ⟨Nat.le_of_ble_eq_true rfl, Nat.le_of_ble_eq_true rfl⟩ hx rfl rfl rfl (Nat.le_of_ble_eq_true rfl) (by show 1 ≤ 1; omega) (by show 6 ≤ 6; omega) (fun o S' ho => ⟨_, ho.1, Out.th 0 (by unfold kStore; rw [if_neg hs4]; rfl) rfl ⟨rfl, ho.2⟩⟩)
  obtain ⟨f, s1, s2⟩ := hq.2.2.2 s hs4.1 (by omega)
  have hl1 := hl.1 s hs4.1 (by omega)
  refine c_vr dX9_store_2 (c_X9_sequenceAt1 hx hb.1.1 hq.2.2.1 hs hs4) rfl rfl mq_X9_sequenceAt ml_X9_177 ⟨Nat.le_of_ble_eq_true rfl, Nat.le_of_ble_eq_true rfl⟩ hx rfl rfl rfl (Nat.le_of_ble_eq_true rfl) (r_astore_n dX9_store_5 (i := 2) rfl rfl (Nat.le_of_ble_eq_true rfl) (r_aload_n dX9_store_6 (i := 0) rfl rfl ?_))
  by_cases h1 : a 139 = 1
  rotate_left
  · exact c_vx (E := "") dX9_store_7 (c_X9_presentProduct0 (mc := 1) (ms := 6) hx hb.1.1 p1 (by have := hv.2.2.1; omega) (by omega) (by omega)) rfl mq_X9_presentProduct ml_X9_300 ⟨Nat.le_of_ble_eq_true rfl, Nat.le_of_ble_eq_true rfl⟩ hx rfl rfl rfl (Nat.le_of_ble_eq_true rfl) (by show 1 ≤ 1; omega) (by show 6 ≤ 6; omega) (fun o S' ho => ⟨_, ho.1, Out.th 1 (by unfold kStore; rw [if_pos hs4, b2c_f (fun z : StoreOk a => by have := z.1.1; omega)]; rfl) rfl ⟨rfl, ho.2⟩⟩)
  obtain ⟨e1, e2, e3, e4, e5, e6, e7⟩ := p6 h1
  obtain ⟨g0, g1, g2, g3, g4, g5, g6, g7⟩ := hv.2.2.2 h1
  have hvo : VOk vf c := fun k k0 k1 => by rw [e6 k k0 k1]; have := g7 k k0 (by omega); omega
  have hso : SqOk vf c ↔ StoreOk a := by constructor; exact fun z => ⟨⟨by omega, by have := z.1; omega⟩, fun k k0 k1 => by rw [← e6 k k0 (by omega)]; exact z.2 k k0 (by omega)⟩; exact fun z => ⟨by have := z.1.2; omega, fun k k0 k1 => by rw [e6 k k0 k1]; exact z.2 k k0 (by omega)⟩
  refine c_vr dX9_store_7 (c_X9_presentProduct1 hx hb.1.1 p1 (by omega)) rfl rfl mq_X9_presentProduct ml_X9_300 ⟨Nat.le_of_ble_eq_true rfl, Nat.le_of_ble_eq_true rfl⟩ hx rfl rfl rfl (Nat.le_of_ble_eq_true rfl) (r_astore_n dX9_store_10 (i := 3) rfl rfl (Nat.le_of_ble_eq_true rfl) (r_aload_n dX9_store_11 (i := 3) rfl rfl (c_vr dX9_store_12 (c_X6_isSequence p1 p2 hvo (by omega)) rfl rfl mq_X6_isSequence ml_X9_335 ⟨Nat.le_of_ble_eq_true rfl, Nat.le_of_ble_eq_true rfl⟩ p1 rfl rfl rfl (Nat.le_of_ble_eq_true rfl) ?_)))
  refine r_if_ne 29 dX9_store_15 (by decide) b2c_RI (fun c1 => ?_) (fun c1 => ?_)
  · replace c1 := b2c_ne c1
    refine r_aload_n dX9_store_29 (i := 0) rfl rfl (r_get dX9_store_30 fl_X9_19 hx rfl (r_aload_n dX9_store_33 (i := 0) rfl rfl (r_get dX9_store_34 fl_X9_10 hx rfl ?_)))
    have hok : SqOk vf c := by assumption
    have hok2 := hso.mp hok
    have hc32 := hok.1
    refine c_vq dX9_store_37 (keepC hC) rfl rfl mq_X2_keep ml_X9_78 ⟨Nat.le_of_ble_eq_true rfl, Nat.le_of_ble_eq_true rfl⟩ hC.2.2.2.1.1.1 rfl rfl rfl (Nat.le_of_ble_eq_true rfl) (fun E S' h => by simp at h) (fun v S' hk => ?_)
    obtain ⟨d1, f1, f2⟩ := hk
    cases d1
    have hb' := (keepR hC f1 f2).2.2.1
    have hws := hq.1 s hs4.1 (by omega)
    have hq' : SqW S' (x + 1) a w := hq.frame (fun z z1 z2 => f1.1 z (by omega))
    have s1' : SeqAt S' (x + 1 + 6 + 2 * w s) (a (7 + s)) f := ⟨by rw [f1.1 _ (by omega)]; exact s1.1, by rw [f1.1 _ (by omega)]; exact s1.2⟩
    have p1' : S'.1 (x + 1 + 3) = some (pO (x + 1) fc c kd st ln md) := by
      rw [f1.1 _ (by omega)]
      exact p1
    have p2' : S'.1 (x + 1 + 3 + 1) = some (cJ 64 vf) := by
      rw [f1.1 _ (by omega)]
      exact p2
    show PW _ _ _ 40 _ [] _ _ _ _
    refine r_aload_n dX9_store_40 (i := 2) rfl rfl (r_iconst dX9_store_41 (r_put dX9_store_42 fl_X9_181 s1'.1 rfl rfl (Nat.le_of_ble_eq_true rfl) (r_iconst dX9_store_45 (r_istore dX9_store_46 rfl (Nat.le_of_ble_eq_true rfl) ?_))))
    show PW _ _ _ _ _ _ (ps_put S' (x + 1 + 6 + 2 * w s) (cO 7 [Value.ref (x + 1 + 6 + 2 * w s + 1), vi 0])) _ _ _
    rw [seq_put s1']
    refine r_loc [(0, some (.ref x)), (1, some (vi s)), (2, some (.ref (x + 1 + 6 + 2 * w s))), (3, some (.ref (x + 1 + 3))), (4, some (vi ((0 : Nat) : Int)))] ⟨Or.inl rfl, Or.inl rfl, Or.inl rfl, Or.inl rfl, Or.inl rfl, trivial⟩ ?_
    refine l_sto (S0 := S') (fc := fc) (kd := kd) (st := st) (ln := ln) (md := md) (vf := vf) (c := c) ⟨by omega, by omega, by omega, by omega⟩ p1' p2' (by omega) (fun f' hf' => ?_) c.toNat 0 (by omega) f (fun j j0 j1 => by omega)
    have hA7 : stA a s (7 + s) = c := by
      unfold stA
      rw [upI_eq]
      omega
    obtain ⟨b1, b2⟩ := bn_seq (c := c) (f := f') (a' := stA a s) hb' hq' (by omega) hp.1 hl hs4 (mix_hi hs4 (by omega)) hA7 (fun k k0 k1 => by
      unfold stA
      rw [upI_ne (by omega), mix_in (by omega), hf' k k0 k1, e6 k k0 k1]
      congr 2
      omega) (fun z z0 z1 z2 => by
      unfold stA
      exact ⟨by rw [upI_ne (by omega), mix_out (by omega)], fun k k0 k1 => by rw [upI_ne (by omega), mix_out (by omega)]⟩)
    exact Out.ok (by unfold kStore; rw [if_pos hs4, b2c_t hok2]; rfl) (by rw [p5]) (chg_fin hC f1 f2 b2 b1)
  · replace c1 := b2c_eq c1
    refine r_throwSW th_state (List.mem_of_getElem? (i := 16) rfl) rfl dX9_store_18 dX9_store_21 dX9_store_22 dX9_store_25 dX9_store_28 (Nat.le_of_ble_eq_true rfl) (Nat.le_of_ble_eq_true rfl) (by omega) (by omega) (fun z hz => ?_)
    exact Out.th 1 (by unfold kStore; rw [if_pos hs4, b2c_f (fun z : StoreOk a => absurd (hso.mpr z) (by assumption))]; rfl) rfl ⟨rfl, rfl, hz⟩
/-- the primes of a bench anew, sequences and product as they were -/
theorem Md.sq {a a' : Int → Int} (h : Md a a') {S : PS} {b : Nat} (hl : ML a) (hq : SqAt S b a) : SqAt S b a' := by
  obtain ⟨w, w1, w2, w3, w4⟩ := hq
  refine ⟨w, w1, w2, w3, fun s s0 s1 => ?_⟩
  have := hl.1 s s0 s1
  obtain ⟨f, g1, g2⟩ := w4 s s0 s1
  rw [h (7 + s) (by omega) (by omega)]
  exact ⟨f, g1, fun k k0 k1 => by rw [h _ (by omega) (by omega)]; exact g2 k k0 k1⟩
def Up (a a' : Int → Int) : Prop := ∀ i : Int, 139 ≤ i → a' i = a i
theorem Up.bp {a a' : Int → Int} (h : Up a a') : ∀ n : Nat, bpS a' n = bpS a n
  | 0 => rfl
  | n + 1 => by
    show bpS a' n * a' (145 + (n : Int)) = bpS a n * a (145 + (n : Int))
    rw [h.bp n, h _ (by omega)]
theorem Up.pd {a a' : Int → Int} (h : Up a a') {S : PS} {b F : Nat} (hb : PdAt S b F a) : PdAt S b F a' := by
  obtain ⟨fc, c, kd, st, ln, md, vf, pf, p1, p2, p3, p4, p5, p6⟩ := hb
  refine ⟨fc, c, kd, st, ln, md, vf, pf, p1, p2, p3, p4, by rw [h 143 (by omega)]; exact p5, fun h139 => ?_⟩
  rw [h 139 (by omega)] at h139
  obtain ⟨e1, e2, e3, e4, e5, e6, e7⟩ := p6 h139
  rw [h 144 (by omega), h 140 (by omega), h 142 (by omega), h 141 (by omega), h.bp]
  refine ⟨e1, e2, e3, e4, e5, fun k k0 k1 => ?_, fun i i0 i1 => ?_⟩
  · rw [h (151 + k) (by omega)]
    exact e6 k k0 k1
  · rw [h (145 + i) (by omega)]
    exact e7 i i0 i1
theorem Up.mv {a a' : Int → Int} (h : Up a a') (hv : MV a) : MV a' := by
  obtain ⟨h1, h2, h3, h4⟩ := hv
  unfold MV
  rw [h 139 (by omega), h 143 (by omega), h 140 (by omega), h 141 (by omega), h 144 (by omega), h 142 (by omega), h.bp]
  refine ⟨h1, h2, h3, fun z => ?_⟩
  obtain ⟨e1, e2, e3, e4, e5, e6, e7, e8⟩ := h4 z
  refine ⟨e1, e2, e3, e4, e5, fun i i0 i1 => ?_, e7, fun k k0 k1 => ?_⟩
  · rw [h (145 + i) (by omega)]
    exact e6 i i0 i1
  · rw [h (151 + k) (by omega)]
    exact e8 k k0 k1
theorem rm_md {a : Int → Int} (hp : MP a) {q : Int} (h : 0 ≤ q ∧ q ≤ a 0 - 1) : Md a (rmA a q) ∧ Up a (rmA a q) := by
  have h0 := hp.1
  unfold rmA
  exact ⟨fun i i0 i1 => by rw [upI_ne (by omega), upI_ne (by omega), mix_out (by omega)], fun i i0 => by rw [upI_ne (by omega), upI_ne (by omega), mix_out (by omega)]⟩
theorem c_X9_removePrime {q : Int} (hC : CX S x F a H nx ct fd ea tx) (hp : MP a) (hl : ML a) (hqr : RI q) (hm : 1 ≤ mc) (hm2 : 6 ≤ ms) : PC g yX9_removePrime cX9_removePrime (iX9_removePrime mc ms) [.ref x, vi q] S (Out ["java/lang/IndexOutOfBoundsException"] (kThere a q) (vi (a 0 - 1)) S (Chg x F S (rmA a q) a H nx ct fd ea tx)) := by
  have hx := hC.2.1
  have hb := hC.2.2.1
  have hF := hC.1
  have h0 := hp.1
  refine PC_of pnX9 rfl rfl rfl (Nat.le_of_ble_eq_true rfl) ?_
  refine r_bud (kc' := 1) (ks' := 6) hm hm2 ?_
  refine r_aload_n dX9_removePrime_0 (i := 0) rfl rfl (r_iload_n dX9_removePrime_1 (i := 1) rfl rfl ?_)
  by_cases hq : 0 ≤ q ∧ q ≤ a 0 - 1
  rotate_left
  · exact c_vx (E := "") dX9_removePrime_2 (c_X9_requirePrime0 (mc := 1) (ms := 6) hx hb.1.1 h0 hqr hq (by omega) (by omega)) rfl mq_X9_requirePrime ml_X9_103 ⟨Nat.le_of_ble_eq_true rfl, Nat.le_of_ble_eq_true rfl⟩ hx rfl rfl rfl (Nat.le_of_ble_eq_true rfl) (by show 1 ≤ 1; omega) (by show 6 ≤ 6; omega) (fun o S' ho => ⟨_, ho.1, Out.th 0 (by unfold kThere; rw [if_neg hq]; rfl) rfl ⟨rfl, ho.2⟩⟩)
  refine c_vn dX9_removePrime_2 (c_X9_requirePrime1 hx hb.1.1 h0 hqr hq) rfl rfl mq_X9_requirePrime ml_X9_103 ⟨Nat.le_of_ble_eq_true rfl, Nat.le_of_ble_eq_true rfl⟩ hx rfl rfl rfl (Nat.le_of_ble_eq_true rfl) (r_aload_n dX9_removePrime_5 (i := 0) rfl rfl (r_get dX9_removePrime_6 fl_X9_19 hx rfl (r_aload_n dX9_removePrime_9 (i := 0) rfl rfl (r_get dX9_removePrime_10 fl_X9_10 hx rfl ?_))))
  refine c_vq dX9_removePrime_13 (keepC hC) rfl rfl mq_X2_keep ml_X9_78 ⟨Nat.le_of_ble_eq_true rfl, Nat.le_of_ble_eq_true rfl⟩ hC.2.2.2.1.1.1 rfl rfl rfl (Nat.le_of_ble_eq_true rfl) (fun E S' h => by simp at h) (fun v S' hk => ?_)
  obtain ⟨d1, f1, f2⟩ := hk
  cases d1
  have hC1 := keepR hC f1 f2
  obtain ⟨k1, r, k2, k3, k4⟩ := hC1.2.2.1.1
  have hr : ∀ i : Int, 0 ≤ i → i < a 0 → ∃ y, r i = some y ∧ F ≤ y ∧ ∃ fs, S'.1 y = some (cO 1 fs) := fun i i0 i1 => by
    obtain ⟨y, y1, y2, ff, fc, y3, -, -⟩ := k4 i i0 i1
    exact ⟨y, y1, y2, _, y3⟩
  have hx2 : (ps_put (ps_put S' (x + 1) (bO (x + 1) (a 0 - 1))) (x + 1 + 1) (cR 6 6 (mixR q (a 0 - 1) (fun x => r (x + 1)) r))).1 x = some (xO x) := ps_ne (by omega) (ps_ne (by omega) hC1.2.1)
  have hb2 : (ps_put (ps_put S' (x + 1) (bO (x + 1) (a 0 - 1))) (x + 1 + 1) (cR 6 6 (mixR q (a 0 - 1) (fun x => r (x + 1)) r))).1 (x + 1) = some (bO (x + 1) (a 0 - 1)) := ps_ne (by omega) ps_same
  show PW _ _ _ 16 _ [] _ _ _ _
  refine r_aload_n dX9_removePrime_16 (i := 0) rfl rfl (r_get dX9_removePrime_17 fl_X9_10 hC1.2.1 rfl (r_iload_n dX9_removePrime_20 (i := 1) rfl rfl (c_vn dX9_removePrime_21 (c_X0_removeField k1 k2 (by omega) h0 hr ⟨hq.1, by omega⟩) rfl rfl mq_X0_removeField ml_X9_106 ⟨Nat.le_of_ble_eq_true rfl, Nat.le_of_ble_eq_true rfl⟩ k1 rfl rfl rfl (Nat.le_of_ble_eq_true rfl) (r_aload_n dX9_removePrime_24 (i := 0) rfl rfl ?_))))
  refine r_get dX9_removePrime_25 fl_X9_10 hx2 rfl (r_get dX9_removePrime_28 fl_X9_88 hb2 rfl (r_iret dX9_removePrime_31 rfl rfl ?_))
  have hE : ∀ z : Nat, z ≠ x + 1 → z ≠ x + 1 + 1 → (ps_put (ps_put S' (x + 1) (bO (x + 1) (a 0 - 1))) (x + 1 + 1) (cR 6 6 (mixR q (a 0 - 1) (fun x => r (x + 1)) r))).1 z = S'.1 z := fun z z1 z2 => ps_ne (by omega) (ps_ne (by omega) rfl)
  have hX : Ext F S' (ps_put (ps_put S' (x + 1) (bO (x + 1) (a 0 - 1))) (x + 1 + 1) (cR 6 6 (mixR q (a 0 - 1) (fun x => r (x + 1)) r))) := fun z hz c hc => by
    rw [hE z (by omega) (by omega)]
    exact hc
  obtain ⟨m1, m2⟩ := rm_md hp hq
  have eA0 : rmA a q 0 = a 0 - 1 := by
    unfold rmA
    rw [upI_ne (by omega), upI_eq]
  have eAk : ∀ k : Int, 0 ≤ k → k < a 0 - 1 → rmA a q (1 + k) = if q ≤ k then a (1 + (k + 1)) else a (1 + k) := fun k k0 k1 => by
    unfold rmA
    rw [upI_ne (by omega), upI_ne (by omega)]
    by_cases e : q ≤ k
    · rw [mix_in (by omega), if_pos e]
      show a (1 + k + 1) = a (1 + (k + 1))
      rw [show 1 + k + 1 = 1 + (k + 1) by omega]
    · rw [mix_out (by omega), if_neg e]
  refine Out.ok (by unfold kThere; rw [if_pos hq]) rfl (chg_fin hC f1 f2 ⟨fun z hz => hE z (by omega) (by omega), rfl⟩ ⟨⟨by rw [eA0]; exact hb2, _, ps_same, fun i hi y hy => ?_, fun k k0 k9 => ?_⟩, m1.sq hl ?_, m2.pd ?_⟩)
  · unfold mixR at hy
    by_cases e : q ≤ (i : Int) ∧ (i : Int) < a 0 - 1
    · rw [if_pos e] at hy
      obtain ⟨y1, fs, y2⟩ := k3 (i + 1) (by omega) y hy
      exact ⟨y1, fs, hX y y1 _ y2⟩
    · rw [if_neg e] at hy
      obtain ⟨y1, fs, y2⟩ := k3 i hi y hy
      exact ⟨y1, fs, hX y y1 _ y2⟩
  · rw [eA0] at k9
    unfold pN mixR
    rw [eAk k k0 k9]
    by_cases e : q ≤ k
    · rw [if_pos ⟨e, k9⟩, if_pos e]
      obtain ⟨y, y1, y2, y3⟩ := k4 (k + 1) (by omega) (by omega)
      exact ⟨y, y1, y2, hX.fld y2 y3⟩
    · rw [if_neg (fun z => e z.1), if_neg e]
      obtain ⟨y, y1, y2, y3⟩ := k4 k k0 (by omega)
      exact ⟨y, y1, y2, hX.fld y2 y3⟩
  · obtain ⟨w, hq⟩ : ∃ w, SqW S' (x + 1) a w := hC1.2.2.1.2.1
    obtain ⟨w1, w2, w3, w4⟩ := hq
    refine ⟨w, w1, w2, by rw [hE _ (by omega) (by omega)]; exact w3, fun s s0 s1 => ?_⟩
    have := w1 s s0 s1
    obtain ⟨f, ⟨g1, g2⟩, g3⟩ := w4 s s0 s1
    exact ⟨f, ⟨by rw [hE _ (by omega) (by omega)]; exact g1, by rw [hE _ (by omega) (by omega)]; exact g2⟩, g3⟩
  · obtain ⟨fc, c, kd, st, ln, md, vf, pf, p1, p2, p3, p4, p5, p6⟩ := hC1.2.2.1.2.2
    refine ⟨fc, c, kd, st, ln, md, vf, pf, by rw [hE _ (by omega) (by omega)]; exact p1, by rw [hE _ (by omega) (by omega)]; exact p2, by rw [hE _ (by omega) (by omega)]; exact p3, hX.fra p4, p5, fun h139 => ?_⟩
    obtain ⟨e1, e2, e3, e4, e5, e6, e7⟩ := p6 h139
    refine ⟨e1, e2, e3, e4, e5, e6, fun i i0 i1 => ?_⟩
    obtain ⟨y, q1, q2, q3⟩ := e7 i i0 i1
    exact ⟨y, q1, q2, hX.fld q2 q3⟩
end CHG2

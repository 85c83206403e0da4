/-! the class: Bench.exchange; what a change of sequences leaves -/
/-- primes and product are the same -/
def Hi (a a' : Int → Int) : Prop := (∀ i : Int, 0 ≤ i → i < 7 → a' i = a i) ∧ ∀ i : Int, 139 ≤ i → a' i = a i
theorem Hi.bp {a a' : Int → Int} (h : Hi a a') : ∀ n : Nat, bpS a' n = bpS a n
  | 0 => rfl
  | n + 1 => by
    show bpS a' n * a' (145 + (n : Int)) = bpS a n * a (145 + (n : Int))
    rw [h.bp n, h.2 _ (by omega)]
theorem Hi.pm {a a' : Int → Int} (h : Hi a a') (hp : 0 ≤ a 0 ∧ a 0 ≤ 6) {S : PS} {b F : Nat} (hb : PmAt S b F a) : PmAt S b F a' := by
  obtain ⟨h1, r, h2, h3, h4⟩ := hb
  have e0 := h.1 0 (by omega) (by omega)
  refine ⟨by rw [e0]; exact h1, r, h2, h3, fun k k0 k1 => ?_⟩
  rw [e0] at k1
  unfold pN
  rw [h.1 (1 + k) (by omega) (by omega)]
  exact h4 k k0 k1
theorem Hi.pd {a a' : Int → Int} (h : Hi a a') {S : PS} {b F : Nat} (hb : PdAt S b F a) : PdAt S b F a' := by
  obtain ⟨fc, c, kd, st, ln, md, vf, pf, p1, p2, p3, p4, p5, p6⟩ := hb
  refine ⟨fc, c, kd, st, ln, md, vf, pf, p1, p2, p3, p4, by rw [h.2 143 (by omega)]; exact p5, fun h139 => ?_⟩
  rw [h.2 139 (by omega)] at h139
  obtain ⟨e1, e2, e3, e4, e5, e6, e7⟩ := p6 h139
  rw [h.2 144 (by omega), h.2 140 (by omega), h.2 142 (by omega), h.2 141 (by omega), h.bp]
  refine ⟨e1, e2, e3, e4, e5, fun k k0 k1 => ?_, fun i i0 i1 => ?_⟩
  · rw [h.2 (151 + k) (by omega)]
    exact e6 k k0 k1
  · rw [h.2 (145 + i) (by omega)]
    exact e7 i i0 i1
theorem swA_hi {a : Int → Int} {s t : Int} (hs : 0 ≤ s ∧ s ≤ 3) (ht : 0 ≤ t ∧ t ≤ 3) : Hi a (swA a s t) := by
  refine ⟨fun i i0 i1 => ?_, fun i i0 => ?_⟩
  · unfold swA
    rw [upI_ne (by omega), upI_ne (by omega), swM_l hs ht (by omega)]
  · unfold swA swM
    rw [upI_ne (by omega), upI_ne (by omega), mix_out (by omega), mix_out (by omega)]
/-- which slot of the old row a slot of the new one is -/
def swI (s t z : Int) : Int := if z = t then s else if z = s then t else z
theorem swA_len {a : Int → Int} {s t z : Int} (hs : 0 ≤ s ∧ s ≤ 3) (ht : 0 ≤ t ∧ t ≤ 3) (hz : 0 ≤ z ∧ z < 4) : swA a s t (7 + z) = a (7 + swI s t z) := by
  unfold swI
  by_cases e1 : z = t
  · subst e1
    rw [if_pos rfl]
    unfold swA
    rw [upI_eq]
  · rw [if_neg e1]
    by_cases e2 : z = s
    · subst e2
      rw [if_pos rfl]
      exact swA_s hs ht
    · rw [if_neg e2]
      unfold swA
      rw [upI_ne (by omega), upI_ne (by omega), swM_l hs ht (by omega)]
theorem swA_tm {a : Int → Int} {s t z k : Int} (hs : 0 ≤ s ∧ s ≤ 3) (ht : 0 ≤ t ∧ t ≤ 3) (hz : 0 ≤ z ∧ z < 4) (hk : 0 ≤ k ∧ k < 32) : swA a s t (11 + 32 * z + k) = a (11 + 32 * swI s t z + k) := by
  unfold swA
  rw [upI_ne (by omega), upI_ne (by omega)]
  unfold swM swI
  by_cases e1 : z = t
  · subst e1
    rw [if_pos rfl, mix_in (by omega)]
    show a (11 + 32 * z + k + 32 * (s - z)) = _
    congr 1
    omega
  · rw [if_neg e1, mix_out (by omega)]
    by_cases e2 : z = s
    · subst e2
      rw [if_pos rfl, mix_in (by omega)]
      show a (11 + 32 * z + k + 32 * (t - z)) = _
      congr 1
      omega
    · rw [if_neg e2, mix_out (by omega)]
section EXCH
variable {g : GT} {S : PS} {mc ms : Nat} {b F : Nat} {a : Int → Int}
theorem c_X0_exchange {s t : Int} (hb : BnAt S b F a) (hF : b + 14 ≤ F) (hp : 0 ≤ a 0 ∧ a 0 ≤ 6) (hl : ML a) (hs : 0 ≤ s ∧ s ≤ 3) (ht : 0 ≤ t ∧ t ≤ 3) : PC g yX0_exchange cX0_exchange (iX0_exchange mc ms) [.ref b, vi s, vi t] S (fun o S' => o = .inl none ∧ FrB b S S' ∧ BnAt S' b F (swA a s t)) := by
  refine PC_of pnX0 rfl rfl rfl (Nat.le_of_ble_eq_true rfl) ?_
  obtain ⟨hpm, ⟨w, w1, w2, w3, w4⟩, hpd⟩ := hb
  obtain ⟨f1, s1, -⟩ := w4 s hs.1 (by omega)
  obtain ⟨f2, s2, -⟩ := w4 t ht.1 (by omega)
  have ws := w1 s hs.1 (by omega)
  have wt := w1 t ht.1 (by omega)
  have h0 := hpm.1
  refine r_aload_n dX0_exchange_0 (i := 0) rfl rfl (r_get dX0_exchange_1 fl_X0_19 h0 rfl (r_iload_n dX0_exchange_4 (i := 1) rfl rfl (r_aald dX0_exchange_5 w3 rfl (by omega) (by omega) (by omega) rfl ?_)))
  refine r_astore_n dX0_exchange_6 (i := 3) rfl rfl (Nat.le_of_ble_eq_true rfl) (r_aload_n dX0_exchange_7 (i := 0) rfl rfl (r_get dX0_exchange_8 fl_X0_19 h0 rfl (r_iload_n dX0_exchange_11 (i := 1) rfl rfl (r_aload_n dX0_exchange_12 (i := 0) rfl rfl ?_))))
  refine r_get dX0_exchange_13 fl_X0_19 h0 rfl (r_iload_n dX0_exchange_16 (i := 2) rfl rfl (r_aald dX0_exchange_17 w3 rfl (by omega) (by omega) (by omega) rfl ?_))
  refine r_aast dX0_exchange_18 w3 rfl rfl s2.1 (by omega) (by omega) (by omega) ?_
  refine r_aload_n dX0_exchange_19 (i := 0) rfl rfl (r_get dX0_exchange_20 fl_X0_19 (ps_ne (by omega) h0) rfl (r_iload_n dX0_exchange_23 (i := 2) rfl rfl (r_aload_n dX0_exchange_24 (i := 3) rfl rfl (r_aast dX0_exchange_25 ps_same rfl rfl (ps_ne (by omega) s1.1) (by omega) (by omega) (by omega) ?_))))
  refine r_vret dX0_exchange_26 rfl ?_
  rw [ps_put_put]
  have ef : upR (upR (fun z => some (b + 6 + 2 * w z)) s (some (b + 6 + 2 * w t))) t (some (b + 6 + 2 * w s)) = fun z => some (b + 6 + 2 * w (swI s t z)) := by
    funext z
    unfold upR swI
    by_cases e1 : z = t
    · rw [if_pos e1, if_pos e1]
    · rw [if_neg e1, if_neg e1]
      by_cases e2 : z = s
      · rw [if_pos e2, if_pos e2]
      · rw [if_neg e2, if_neg e2]
  rw [ef]
  have hE : ∀ z : Nat, z ≠ b + 2 → (ps_put S (b + 2) (cR 5 4 (fun z => some (b + 6 + 2 * w (swI s t z))))).1 z = S.1 z := fun z hz => ps_ne hz rfl
  have hX : Ext F S (ps_put S (b + 2) (cR 5 4 (fun z => some (b + 6 + 2 * w (swI s t z))))) := fun z hz c hc => by
    rw [hE z (by omega)]
    exact hc
  have hswI : ∀ z : Int, 0 ≤ z → z < 4 → 0 ≤ swI s t z ∧ swI s t z < 4 := fun z z0 z1 => by
    unfold swI
    split
    · omega
    · split <;> omega
  refine ⟨rfl, ⟨fun z hz => hE z (by omega), rfl⟩, (swA_hi hs ht).pm hp ?_, ⟨fun z => w (swI s t z), fun z z0 z1 => w1 _ (hswI z z0 z1).1 (hswI z z0 z1).2, fun y z y0 y1 z0 z1 hyz => ?_, ps_same, fun z z0 z1 => ?_⟩, (swA_hi hs ht).pd ?_⟩
  · obtain ⟨g1, r, g2, g3, g4⟩ := hpm
    refine ⟨by rw [hE _ (by omega)]; exact g1, r, by rw [hE _ (by omega)]; exact g2, hX.fra g3, fun k k0 k1 => ?_⟩
    obtain ⟨q, q1, q2, q3⟩ := g4 k k0 k1
    exact ⟨q, q1, q2, hX.fld q2 q3⟩
  · have e := w2 _ _ (hswI y y0 y1).1 (hswI y y0 y1).2 (hswI z z0 z1).1 (hswI z z0 z1).2 hyz
    unfold swI at e
    split at e <;> split at e <;> (first | omega | (split at e <;> first | omega | (split at e <;> omega)))
  · have hz := hswI z z0 z1
    have hwz := w1 _ hz.1 hz.2
    obtain ⟨f, ⟨v1, v2⟩, v3⟩ := w4 _ hz.1 hz.2
    have hlz := hl.1 _ hz.1 hz.2
    refine ⟨f, ?_, fun k k0 k1 => ?_⟩
    · rw [swA_len hs ht ⟨z0, z1⟩]
      refine ⟨?_, ?_⟩
      · rw [hE _ (by omega)]
        exact v1
      · rw [hE _ (by omega)]
        exact v2
    · rw [swA_len hs ht ⟨z0, z1⟩] at k1
      rw [swA_tm hs ht ⟨z0, z1⟩ ⟨k0, by omega⟩]
      exact v3 k k0 k1
  · obtain ⟨fc, c, kd, st, ln, md, vf, pf, p1, p2, p3, p4, p5, p6⟩ := hpd
    refine ⟨fc, c, kd, st, ln, md, vf, pf, by rw [hE _ (by omega)]; exact p1, by rw [hE _ (by omega)]; exact p2, by rw [hE _ (by omega)]; exact p3, hX.fra p4, p5, fun h139 => ?_⟩
    obtain ⟨e1, e2, e3, e4, e5, e6, e7⟩ := p6 h139
    refine ⟨e1, e2, e3, e4, e5, e6, fun i i0 i1 => ?_⟩
    obtain ⟨q, q1, q2, q3⟩ := e7 i i0 i1
    exact ⟨q, q1, q2, hX.fld q2 q3⟩
end EXCH

/-! the class: TextReader.readPrime, readSequence -/
/-- the reader r under way: its own numbers, the text, its bench; what else there was stays -/
def RS (S0 S : PS) (r F : Nat) (fd en p er ea : Int) (tx a : Int → Int) : Prop :=
  S.1 r = some (rO r fd en p er ea) ∧ S.1 (r + 1) = some (cB 600 tx) ∧ BnAt S (r + 2) F a ∧ (∀ z : Nat, z < S0.2 → z < r ∨ r + 16 ≤ z → S.1 z = S0.1 z) ∧ S0.2 ≤ S.2 ∧ F ≤ S0.2 ∧ r + 16 ≤ F
theorem RS.put {S0 S : PS} {r F : Nat} {fd en p er ea fd' en' p' er' ea' : Int} {tx a : Int → Int} (h : RS S0 S r F fd en p er ea tx a) : RS S0 (ps_put S r (rO r fd' en' p' er' ea')) r F fd' en' p' er' ea' tx a := by
  obtain ⟨h1, h2, h3, h4, h5, h6, h7⟩ := h
  exact ⟨ps_same, ps_ne (by omega) h2, h3.frame (fun z hz c hc => ps_ne (by omega) hc) (fun z z1 z2 => ps_ne (by omega) rfl), fun z z1 z2 => by rw [← h4 z z1 z2]; exact ps_ne (by omega) rfl, h5, h6, h7⟩
/-- a piece of the grammar is read: the answer R, or the reader's error -/
def RN (S0 S : PS) (r F : Nat) (fd en ea : Int) (tx : Int → Int) (R : Int × Int × (Int → Int)) : Prop := ∃ (z er ea' : Int) (a' : Int → Int), RS S0 S r F fd en z er ea' tx a' ∧ (0 ≤ z ∧ z ≤ en) ∧ ((er = 0 ∧ ea' = ea ∧ R = semB (seeI tx en) z a') ∨ ((-4 ≤ er ∧ er < 0) ∧ R.1 = er ∧ R.2.1 = ea'))
def RE (S0 S : PS) (r F : Nat) (fd en ea : Int) (tx : Int → Int) (R : Int × Int × (Int → Int)) : Prop := ∃ (z ea' : Int) (a' : Int → Int), RS S0 S r F fd en z R.1 ea' tx a' ∧ (0 ≤ z ∧ z ≤ en) ∧ (-4 ≤ R.1 ∧ R.1 ≤ 0) ∧ ((R.1 = 0 ∧ ea' = ea ∧ z = R.2.1 ∧ a' = R.2.2) ∨ (R.1 ≠ 0 ∧ ea' = R.2.1))
theorem sqR_hi {a : Int → Int} {s c : Int} {f : Int → Int} (hs : 0 ≤ s ∧ s ≤ 3) (hc : 0 ≤ c ∧ c ≤ 32) : Hi a (sqR a s c f) := by
  unfold sqR
  exact ⟨fun i i0 i1 => by rw [upI_ne (by omega), mix_out (by omega)], fun i i0 => by rw [upI_ne (by omega), mix_out (by omega)]⟩
theorem sqR_in {a : Int → Int} {s c k : Int} {f : Int → Int} (hs : 0 ≤ s ∧ s ≤ 3) (hk : 0 ≤ k ∧ k < c) : sqR a s c f (11 + 32 * s + k) = f k := by
  unfold sqR
  rw [upI_ne (by omega), mix_in (by omega), show 11 + 32 * s + k - (11 + 32 * s) = k by omega]
theorem sqR_o {a : Int → Int} {s c : Int} {f : Int → Int} (hs : 0 ≤ s ∧ s ≤ 3) (hc : 0 ≤ c ∧ c ≤ 32) (z : Int) (z0 : 0 ≤ z) (z1 : z < 4) (z2 : z ≠ s) : sqR a s c f (7 + z) = a (7 + z) ∧ ∀ k : Int, 0 ≤ k → k < 32 → sqR a s c f (11 + 32 * z + k) = a (11 + 32 * z + k) := by
  unfold sqR
  exact ⟨by rw [upI_ne (by omega), mix_out (by omega)], fun k k0 k1 => by rw [upI_ne (by omega), mix_out (by omega)]⟩
theorem RS.seq {S0 S : PS} {r F : Nat} {fd en p er ea : Int} {tx a : Int → Int} {w : Int → Nat} {s c : Int} {f f3 : Int → Int} (h : RS S0 S r F fd en p er ea tx a) (hq : SqW S (r + 2) a w) (hp : MP a) (hl : ML a) (hs : 0 ≤ s ∧ s ≤ 3) (hc : 0 ≤ c ∧ c ≤ 32) (hf : ∀ k : Int, 0 ≤ k → k < c → f3 k = f k) : RS S0 (ps_seq S (r + 2 + 6 + 2 * w s) c f3) r F fd en p er ea tx (sqR a s c f) := by
  obtain ⟨h1, h2, h3, h4, h5, h6, h7⟩ := h
  have hws := hq.1 s hs.1 (by omega)
  obtain ⟨b1, b2⟩ := bn_seq (c := c) (f := f3) (a' := sqR a s c f) h3 hq (by omega) hp.1 hl hs (sqR_hi hs hc) (by unfold sqR; rw [upI_eq]) (fun k k0 k1 => by rw [sqR_in hs ⟨k0, k1⟩]; exact hf k k0 k1) (sqR_o hs hc)
  exact ⟨by rw [b2.1 _ (by omega)]; exact h1, by rw [b2.1 _ (by omega)]; exact h2, b1, fun z z1 z2 => by rw [b2.1 _ (by omega)]; exact h4 z z1 z2, by rw [b2.2]; exact h5, h6, h7⟩
section READP
variable {g : GT} {S0 S : PS} {mc ms : Nat} {r F : Nat} {fd en ea : Int} {tx a : Int → Int}
theorem c_X8_readPrime {st : Int} (hR : RS S0 S r F fd en (st + 5) 0 ea tx a) (hp : MP a) (hl : ML a) (hb : ∀ i : Int, 0 ≤ i → i < en → -128 ≤ tx i ∧ tx i ≤ 127) (he : 0 ≤ en ∧ en ≤ 600) (ha : 0 ≤ st ∧ st + 5 ≤ en) (hm : a 0 < 6 → 2 ≤ mc ∧ 10 ≤ ms) : PC g yX8_readPrime cX8_readPrime (iX8_readPrime mc ms) [.ref r, vi st] S (fun o S' => o = .inl none ∧ RN S0 S' r F fd en ea tx (prmB (seeI tx en) st a)) := by
  have hB : BOk (seeI tx en) en := seeI_ok he
  have hq := sk_ok hB (p := st + 5) (by omega) ha.2
  have h0 := hp.1
  have h1 := hR.1
  have h2 := hR.2.1
  have hbn := hR.2.2.1.1.1
  refine PC_of pnX8 rfl rfl rfl (Nat.le_of_ble_eq_true rfl) ?_
  refine r_aload_n dX8_readPrime_0 (i := 0) rfl rfl (r_get dX8_readPrime_1 fl_X8_18 h1 rfl (r_get dX8_readPrime_4 fl_X8_72 hbn rfl (r_bipush dX8_readPrime_7 (by decide) ?_)))
  refine r_icmp_lt 20 dX8_readPrime_9 (by decide) (by omega) (by omega) (fun c1 => ?_) (fun c1 => ?_)
  · have hT : ∀ z er ea', RS S0 (ps_put S r (rO r fd en z er ea')) r F fd en z er ea' tx a := fun z er ea' => hR.put
    have h6 : ¬ a 0 = 6 := by omega
    refine r_aload_n dX8_readPrime_20 (i := 0) rfl rfl (c_vn dX8_readPrime_21 (c_X8_passSpacesB h1 h2 hb he ⟨by omega, ha.2⟩) rfl rfl mq_X8_passSpaces ml_X8_47 ⟨Nat.le_of_ble_eq_true rfl, Nat.le_of_ble_eq_true rfl⟩ h1 rfl rfl rfl (Nat.le_of_ble_eq_true rfl) (r_aload_n dX8_readPrime_24 (i := 0) rfl rfl (r_get dX8_readPrime_25 fl_X8_38 ps_same rfl (r_istore_n dX8_readPrime_28 (i := 2) rfl rfl (Nat.le_of_ble_eq_true rfl) ?_))))
    refine r_aload_n dX8_readPrime_29 (i := 0) rfl rfl ?_
    refine c_vq dX8_readPrime_30 (c_X8_passNumberB ps_same (hT _ _ _).2.1 hb he ⟨by omega, hq.2.2⟩) rfl rfl mq_X8_passNumber ml_X8_75 ⟨Nat.le_of_ble_eq_true rfl, Nat.le_of_ble_eq_true rfl⟩ ps_same rfl rfl rfl (Nat.le_of_ble_eq_true rfl) (fun E S' h => by simp at h) (fun v S2 hn => ?_)
    rcases hn with ⟨n1, n2, n3⟩ | ⟨n1, n2, n3⟩
    · cases n2
      subst n3
      rw [ps_put_put]
      have hnb := nmB_bd hB 600 (sk (seeI tx en) (st + 5)) 0 (by omega) (by omega)
      have hd := dgE_ok hB (p := sk (seeI tx en) (st + 5)) (by omega) hq.2.2
      have hT1 := hT (dgE (seeI tx en) (sk (seeI tx en) (st + 5))) 0 ea
      have e : prmB (seeI tx en) st a = if b2c (canAdd a (nmB (seeI tx en) 600 (sk (seeI tx en) (st + 5)) 0)) = 1 then semB (seeI tx en) (dgE (seeI tx en) (sk (seeI tx en) (st + 5))) (addA a (nmB (seeI tx en) 600 (sk (seeI tx en) (st + 5)) 0)) else (-3, sk (seeI tx en) (st + 5), a) := by
        unfold prmB
        rw [if_neg h6, if_pos n1]
      rw [e]
      generalize nmB (seeI tx en) 600 (sk (seeI tx en) (st + 5)) 0 = v at hnb e ⊢
      show PW _ _ _ 33 _ [vi v] _ _ _ _
      refine r_istore_n dX8_readPrime_33 (i := 3) rfl rfl (Nat.le_of_ble_eq_true rfl) (r_iload_n dX8_readPrime_34 (i := 3) rfl rfl (r_iconst dX8_readPrime_35 ?_))
      refine r_icmp_ne 49 dX8_readPrime_36 (by decide) (by omega) (by omega) (fun c2 => ?_) (fun c2 => ?_)
      · refine r_aload_n dX8_readPrime_49 (i := 0) rfl rfl (r_get dX8_readPrime_50 fl_X8_18 hT1.1 rfl (r_iload_n dX8_readPrime_53 (i := 3) rfl rfl (c_vr dX8_readPrime_54 (c_X0_canBeAdded hT1.2.2.1.1.pr hp (by omega)) rfl rfl mq_X0_canBeAdded ml_X8_79 ⟨Nat.le_of_ble_eq_true rfl, Nat.le_of_ble_eq_true rfl⟩ hT1.2.2.1.1.1 rfl rfl rfl (Nat.le_of_ble_eq_true rfl) ?_)))
        refine r_if_ne 70 dX8_readPrime_57 (by decide) b2c_RI (fun c3 => ?_) (fun c3 => ?_)
        · have hca := b2c_ne c3
          have hp5 := hca.1
          have hpr := hca.2.1
          rw [b2c_t hca, if_pos rfl]
          obtain ⟨n, rfl⟩ := Int.eq_ofNat_of_zero_le (show 0 ≤ v by omega)
          rw [Int.toNat_natCast] at hpr
          have hmm := hm (by omega)
          refine r_bud (kc' := 2) (ks' := 10) hmm.1 hmm.2 ?_
          refine r_aload_n dX8_readPrime_70 (i := 0) rfl rfl (r_get dX8_readPrime_71 fl_X8_18 hT1.1 rfl (r_iload_n dX8_readPrime_74 (i := 3) rfl rfl ?_))
          refine r_invV dX8_readPrime_75 (c_X0_addField (p := n) (mc := 2) (ms := 10) hT1.2.2.1 (by have := hT1.2.2.2.2.2.2; omega) (by have := hT1.2.2.2.2; omega) hp hl (by omega) (by omega) hpr (by omega) (by omega)) mq_X0_addField ml_X8_83 ⟨Nat.le_of_ble_eq_true rfl, Nat.le_of_ble_eq_true rfl⟩ hT1.2.2.1.1.1 rfl rfl rfl (Nat.le_of_ble_eq_true rfl) (kc' := 0) (ks' := 0) (by show 2 + _ ≤ _; omega) (by show 10 + _ ≤ _; omega) (fun E S' h => by simp at h) (fun v S' hk => ?_)
          obtain ⟨d1, b2, b1⟩ := hk
          cases d1
          show PW _ _ _ 78 _ [] _ _ _ _
          refine r_vret dX8_readPrime_78 rfl ?_
          obtain ⟨u1, u2, u3, u4, u5, u6, u7⟩ := hT1
          exact ⟨rfl, _, 0, ea, _, ⟨by rw [b2.1 _ (by omega) (by omega)]; exact u1, by rw [b2.1 _ (by omega) (by omega)]; exact u2, b1, fun z z1 z2 => by rw [b2.1 _ (by omega) (by omega)]; exact u4 z z1 z2, by have := b2.2.2; omega, u6, u7⟩, ⟨by omega, hd.2.2⟩, Or.inl ⟨rfl, rfl, rfl⟩⟩
        · rw [b2c_f (b2c_eq c3), if_neg (by decide)]
          refine r_aload_n dX8_readPrime_60 (i := 0) rfl rfl (r_bipush dX8_readPrime_61 (by decide) (r_iload_n dX8_readPrime_63 (i := 2) rfl rfl (c_vn dX8_readPrime_64 (c_X8_fail ps_same) rfl rfl mq_X8_fail ml_X8_65 ⟨Nat.le_of_ble_eq_true rfl, Nat.le_of_ble_eq_true rfl⟩ ps_same rfl rfl rfl (Nat.le_of_ble_eq_true rfl) (r_goto 78 dX8_readPrime_67 (by decide) ?_))))
          refine r_vret dX8_readPrime_78 rfl ?_
          rw [ps_put_put]
          exact ⟨rfl, _, -3, _, a, hT _ _ _, ⟨by omega, hd.2.2⟩, Or.inr ⟨by omega, rfl, rfl⟩⟩
      · omega
    · cases n2
      subst n3
      have e : prmB (seeI tx en) st a = (-2, sk (seeI tx en) (st + 5), a) := by
        unfold prmB
        rw [if_neg h6, if_neg n1]
      rw [e]
      show PW _ _ _ 33 _ [vi (-1)] _ _ _ _
      refine r_istore_n dX8_readPrime_33 (i := 3) rfl rfl (Nat.le_of_ble_eq_true rfl) (r_iload_n dX8_readPrime_34 (i := 3) rfl rfl (r_iconst dX8_readPrime_35 ?_))
      refine r_icmp_ne 49 dX8_readPrime_36 (by decide) (by omega) (by omega) (fun c2 => ?_) (fun c2 => ?_)
      · omega
      · refine r_aload_n dX8_readPrime_39 (i := 0) rfl rfl (r_bipush dX8_readPrime_40 (by decide) (r_iload_n dX8_readPrime_42 (i := 2) rfl rfl (c_vn dX8_readPrime_43 (c_X8_fail ps_same) rfl rfl mq_X8_fail ml_X8_65 ⟨Nat.le_of_ble_eq_true rfl, Nat.le_of_ble_eq_true rfl⟩ ps_same rfl rfl rfl (Nat.le_of_ble_eq_true rfl) (r_goto 78 dX8_readPrime_46 (by decide) ?_))))
        refine r_vret dX8_readPrime_78 rfl ?_
        rw [ps_put_put]
        exact ⟨rfl, _, -2, _, a, hT _ _ _, ⟨by omega, hq.2.2⟩, Or.inr ⟨by omega, rfl, rfl⟩⟩
  · have e : prmB (seeI tx en) st a = (-4, st, a) := by
      unfold prmB
      rw [if_pos (by omega)]
    rw [e]
    refine r_aload_n dX8_readPrime_12 (i := 0) rfl rfl (r_bipush dX8_readPrime_13 (by decide) (r_iload_n dX8_readPrime_15 (i := 1) rfl rfl (c_vn dX8_readPrime_16 (c_X8_fail h1) rfl rfl mq_X8_fail ml_X8_65 ⟨Nat.le_of_ble_eq_true rfl, Nat.le_of_ble_eq_true rfl⟩ h1 rfl rfl rfl (Nat.le_of_ble_eq_true rfl) (r_vret dX8_readPrime_19 rfl ?_))))
    exact ⟨rfl, st + 5, -4, _, a, hR.put, ⟨by omega, ha.2⟩, Or.inr ⟨by omega, rfl, rfl⟩⟩
theorem c_X8_readSequence {st : Int} (hR : RS S0 S r F fd en (st + 8) 0 ea tx a) (hp : MP a) (hl : ML a) (hb : ∀ i : Int, 0 ≤ i → i < en → -128 ≤ tx i ∧ tx i ≤ 127) (he : 0 ≤ en ∧ en ≤ 600) (ha : 0 ≤ st ∧ st + 8 ≤ en) : PC g yX8_readSequence cX8_readSequence (iX8_readSequence mc ms) [.ref r] S (fun o S' => o = .inl none ∧ RN S0 S' r F fd en ea tx (seqB (seeI tx en) st a)) := by
  have hB : BOk (seeI tx en) en := seeI_ok he
  have hq := sk_ok hB (p := st + 8) (by omega) ha.2
  have h1 := hR.1
  have h2 := hR.2.1
  have hT : ∀ z er ea', RS S0 (ps_put S r (rO r fd en z er ea')) r F fd en z er ea' tx a := fun z er ea' => hR.put
  refine PC_of pnX8 rfl rfl rfl (Nat.le_of_ble_eq_true rfl) ?_
  refine r_aload_n dX8_readSequence_0 (i := 0) rfl rfl (c_vn dX8_readSequence_1 (c_X8_passSpacesB h1 h2 hb he ⟨by omega, ha.2⟩) rfl rfl mq_X8_passSpaces ml_X8_47 ⟨Nat.le_of_ble_eq_true rfl, Nat.le_of_ble_eq_true rfl⟩ h1 rfl rfl rfl (Nat.le_of_ble_eq_true rfl) (r_aload_n dX8_readSequence_4 (i := 0) rfl rfl (r_get dX8_readSequence_5 fl_X8_38 ps_same rfl (r_istore_n dX8_readSequence_8 (i := 1) rfl rfl (Nat.le_of_ble_eq_true rfl) ?_))))
  refine r_aload_n dX8_readSequence_9 (i := 0) rfl rfl ?_
  refine c_vq dX8_readSequence_10 (c_X8_passNumberB ps_same (hT _ _ _).2.1 hb he ⟨by omega, hq.2.2⟩) rfl rfl mq_X8_passNumber ml_X8_75 ⟨Nat.le_of_ble_eq_true rfl, Nat.le_of_ble_eq_true rfl⟩ ps_same rfl rfl rfl (Nat.le_of_ble_eq_true rfl) (fun E S' h => by simp at h) (fun v S2 hn => ?_)
  rcases hn with ⟨n1, n2, n3⟩ | ⟨n1, n2, n3⟩
  · cases n2
    subst n3
    rw [ps_put_put]
    have hnb := nmB_bd hB 600 (sk (seeI tx en) (st + 8)) 0 (by omega) (by omega)
    have hd := dgE_ok hB (p := sk (seeI tx en) (st + 8)) (by omega) hq.2.2
    have hT1 := hT (dgE (seeI tx en) (sk (seeI tx en) (st + 8))) 0 ea
    have e : seqB (seeI tx en) st a = if nmB (seeI tx en) 600 (sk (seeI tx en) (st + 8)) 0 < 4 then
      (if (trsB (seeI tx en) 33 (sk (seeI tx en) (dgE (seeI tx en) (sk (seeI tx en) (st + 8)))) 0 (fun _ => 0)).1 = 0 then semB (seeI tx en) (trsB (seeI tx en) 33 (sk (seeI tx en) (dgE (seeI tx en) (sk (seeI tx en) (st + 8)))) 0 (fun _ => 0)).2.1 (sqR a (nmB (seeI tx en) 600 (sk (seeI tx en) (st + 8)) 0) (trsB (seeI tx en) 33 (sk (seeI tx en) (dgE (seeI tx en) (sk (seeI tx en) (st + 8)))) 0 (fun _ => 0)).2.2.1 (trsB (seeI tx en) 33 (sk (seeI tx en) (dgE (seeI tx en) (sk (seeI tx en) (st + 8)))) 0 (fun _ => 0)).2.2.2)
      else ((trsB (seeI tx en) 33 (sk (seeI tx en) (dgE (seeI tx en) (sk (seeI tx en) (st + 8)))) 0 (fun _ => 0)).1, (trsB (seeI tx en) 33 (sk (seeI tx en) (dgE (seeI tx en) (sk (seeI tx en) (st + 8)))) 0 (fun _ => 0)).2.1, a))
    else (-3, sk (seeI tx en) (st + 8), a) := by
      unfold seqB
      rw [if_pos n1]
    rw [e]
    have hrt := fun (T : PS) (sq : Nat) (c : Int) (f : Int → Int) => c_X8_readTerms (g := g) (S := T) (sq := sq) (c := c) (f := f) (mc := 0) (ms := 0) (r := r) (fd := fd) (ea := ea) (en := en) (tx := tx) (at' := dgE (seeI tx en) (sk (seeI tx en) (st + 8)))
    have hsk := sk_ok hB (p := dgE (seeI tx en) (sk (seeI tx en) (st + 8))) (by omega) hd.2.2
    have htr := trs_ok hB 33 (sk (seeI tx en) (dgE (seeI tx en) (sk (seeI tx en) (st + 8)))) 0 (fun _ => 0) (by omega) hsk.2.2 hsk.1 (by omega) (by omega) (fun k k0 k1 => by omega)
    generalize nmB (seeI tx en) 600 (sk (seeI tx en) (st + 8)) 0 = v at hnb e ⊢
    generalize trsB (seeI tx en) 33 (sk (seeI tx en) (dgE (seeI tx en) (sk (seeI tx en) (st + 8)))) 0 (fun _ => 0) = R at hrt htr e ⊢
    show PW _ _ _ 13 _ [vi v] _ _ _ _
    refine r_istore_n dX8_readSequence_13 (i := 2) rfl rfl (Nat.le_of_ble_eq_true rfl) (r_iload_n dX8_readSequence_14 (i := 2) rfl rfl (r_iconst dX8_readSequence_15 ?_))
    refine r_icmp_ne 29 dX8_readSequence_16 (by decide) (by omega) (by omega) (fun c2 => ?_) (fun c2 => ?_)
    · refine r_iload_n dX8_readSequence_29 (i := 2) rfl rfl ?_
      refine r_if_lt 38 dX8_readSequence_30 (by decide) (by omega) (fun c3 => ?_) (fun c3 => ?_)
      · omega
      · refine r_iload_n dX8_readSequence_33 (i := 2) rfl rfl (r_iconst dX8_readSequence_34 ?_)
        refine r_icmp_lt 48 dX8_readSequence_35 (by decide) (by omega) (by omega) (fun c4 => ?_) (fun c4 => ?_)
        · rw [if_pos c4]
          obtain ⟨w, hqw⟩ : ∃ w, SqW (ps_put S r (rO r fd en (dgE (seeI tx en) (sk (seeI tx en) (st + 8))) 0 ea)) (r + 2) a w := hT1.2.2.1.2.1
          have hwv := hqw.1 v (by omega) (by omega)
          obtain ⟨f, s1, -⟩ := hqw.2.2.2 v (by omega) (by omega)
          refine r_aload_n dX8_readSequence_48 (i := 0) rfl rfl (r_aload_n dX8_readSequence_49 (i := 0) rfl rfl (r_get dX8_readSequence_50 fl_X8_18 hT1.1 rfl (r_get dX8_readSequence_53 fl_X8_86 hT1.2.2.1.1.1 rfl (r_iload_n dX8_readSequence_56 (i := 2) rfl rfl ?_))))
          refine r_aald dX8_readSequence_57 hqw.2.2.1 rfl (by omega) (by omega) (by omega) rfl ?_
          refine c_vq dX8_readSequence_58 (hrt _ _ _ _ ps_same hT1.2.1 s1 (by omega) hb he ⟨by omega, hd.2.2⟩) rfl rfl mq_X8_readTerms ml_X8_90 ⟨Nat.le_of_ble_eq_true rfl, Nat.le_of_ble_eq_true rfl⟩ ps_same rfl rfl rfl (Nat.le_of_ble_eq_true rfl) (fun E S' h => by simp at h) (fun v S2 hn => ?_)
          obtain ⟨e1, hh⟩ := hn
          cases e1
          show PW _ _ _ 61 _ [] _ _ _ _
          refine r_vret dX8_readSequence_61 rfl ?_
          rcases hh with ⟨k1, k2, k3, f3, k4, k5⟩ | ⟨k1, z, c3, f3, k2, k3, k5⟩
          · subst k5
            rw [if_pos k1, ps_put_put]
            exact ⟨rfl, _, 0, ea, _, (hT _ _ _).seq (hqw.frame (fun z z1 z2 => by unfold ps_put; simp only []; rw [if_neg (by omega), if_neg (by omega)])) hp hl (by omega) k2 k4, k3, Or.inl ⟨rfl, rfl, rfl⟩⟩
          · subst k5
            rw [if_neg k1, ps_put_put]
            exact ⟨rfl, z, R.1, R.2.1, sqR a v c3 f3, (hT _ _ _).seq (hqw.frame (fun z z1 z2 => by unfold ps_put; simp only []; rw [if_neg (by omega), if_neg (by omega)])) hp hl (by omega) k3 (fun _ _ _ => rfl), k2, Or.inr ⟨by omega, rfl, rfl⟩⟩
        · rw [if_neg (by omega)]
          refine r_aload_n dX8_readSequence_38 (i := 0) rfl rfl (r_bipush dX8_readSequence_39 (by decide) (r_iload_n dX8_readSequence_41 (i := 1) rfl rfl (c_vn dX8_readSequence_42 (c_X8_fail ps_same) rfl rfl mq_X8_fail ml_X8_65 ⟨Nat.le_of_ble_eq_true rfl, Nat.le_of_ble_eq_true rfl⟩ ps_same rfl rfl rfl (Nat.le_of_ble_eq_true rfl) (r_goto 61 dX8_readSequence_45 (by decide) ?_))))
          refine r_vret dX8_readSequence_61 rfl ?_
          rw [ps_put_put]
          exact ⟨rfl, _, -3, _, a, hT _ _ _, ⟨by omega, hd.2.2⟩, Or.inr ⟨by omega, rfl, rfl⟩⟩
    · omega
  · cases n2
    subst n3
    have e : seqB (seeI tx en) st a = (-2, sk (seeI tx en) (st + 8), a) := by
      unfold seqB
      rw [if_neg n1]
    rw [e]
    show PW _ _ _ 13 _ [vi (-1)] _ _ _ _
    refine r_istore_n dX8_readSequence_13 (i := 2) rfl rfl (Nat.le_of_ble_eq_true rfl) (r_iload_n dX8_readSequence_14 (i := 2) rfl rfl (r_iconst dX8_readSequence_15 ?_))
    refine r_icmp_ne 29 dX8_readSequence_16 (by decide) (by omega) (by omega) (fun c2 => ?_) (fun c2 => ?_)
    · omega
    · refine r_aload_n dX8_readSequence_19 (i := 0) rfl rfl (r_bipush dX8_readSequence_20 (by decide) (r_iload_n dX8_readSequence_22 (i := 1) rfl rfl (c_vn dX8_readSequence_23 (c_X8_fail ps_same) rfl rfl mq_X8_fail ml_X8_65 ⟨Nat.le_of_ble_eq_true rfl, Nat.le_of_ble_eq_true rfl⟩ ps_same rfl rfl rfl (Nat.le_of_ble_eq_true rfl) (r_goto 61 dX8_readSequence_26 (by decide) ?_))))
      refine r_vret dX8_readSequence_61 rfl ?_
      rw [ps_put_put]
      exact ⟨rfl, _, -2, _, a, hT _ _ _, ⟨by omega, hq.2.2⟩, Or.inr ⟨by omega, rfl, rfl⟩⟩
/-- passSemicolon behind a statement's body -/
theorem c_X8_passSemiR {R : Int × Int × (Int → Int)} (hR : RN S0 S r F fd en ea tx R) (hb : ∀ i : Int, 0 ≤ i → i < en → -128 ≤ tx i ∧ tx i ≤ 127) (he : 0 ≤ en ∧ en ≤ 600) : PC g yX8_passSemicolon cX8_passSemicolon (iX8_passSemicolon mc ms) [.ref r] S (fun o S' => o = .inl none ∧ RE S0 S' r F fd en ea tx R) := by
  have hB : BOk (seeI tx en) en := seeI_ok he
  obtain ⟨z, er, ea', a', h1, h2, h3⟩ := hR
  rcases h3 with ⟨k1, k2, k3⟩ | ⟨k1, k2, k3⟩
  · subst k1
    subst k2
    subst k3
    refine (c_X8_passSemi1 h1.1 h1.2.1 hb he h2).mono (fun o S' hh => ?_)
    obtain ⟨e1, hh⟩ := hh
    have hk := sk_ok hB h2.1 h2.2
    refine ⟨e1, ?_⟩
    rcases hh with ⟨m1, m2, m3⟩ | ⟨m1, m2⟩
    · subst m2
      have hk2 := sk_ok hB (p := sk (seeI tx en) z + 1) (by omega) (by omega)
      have e : semB (seeI tx en) z a' = (0, sk (seeI tx en) (sk (seeI tx en) z + 1), a') := by
        unfold semB
        rw [if_pos m1]
      rw [e]
      exact ⟨_, ea', a', h1.put, ⟨by omega, hk2.2.2⟩, ⟨(by decide : (-4 : Int) ≤ 0), (by decide : (0 : Int) ≤ 0)⟩, Or.inl ⟨rfl, rfl, rfl, rfl⟩⟩
    · subst m2
      have e : semB (seeI tx en) z a' = (-2, sk (seeI tx en) z, a') := by
        unfold semB
        rw [if_neg m1]
      rw [e]
      exact ⟨_, _, a', h1.put, ⟨by omega, hk.2.2⟩, ⟨(by decide : (-4 : Int) ≤ -2), (by decide : (-2 : Int) ≤ 0)⟩, Or.inr ⟨show (-2 : Int) ≠ 0 by decide, rfl⟩⟩
  · refine (c_X8_passSemi0 h1.1 (by omega) (by omega)).mono (fun o S' hh => ?_)
    obtain ⟨e1, e2⟩ := hh
    subst e2
    refine ⟨e1, z, ea', a', by rw [k2]; exact h1, h2, by omega, Or.inr ⟨by omega, k3.symm⟩⟩
end READP

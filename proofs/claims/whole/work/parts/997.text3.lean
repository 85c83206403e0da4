/-! the class: TextReader.readTerms, passSemicolon, readPrime, readSequence -/
theorem put_seq {S : PS} {r s : Nat} {e : PE} {c : Int} {f : Int → Int} (h1 : r ≠ s) (h2 : r ≠ s + 1) : ps_put (ps_seq S s c f) r e = ps_seq (ps_put S r e) s c f := by
  unfold ps_seq
  rw [ps_put_comm (q := s) (r := r) (by omega), ps_put_comm (q := s + 1) (r := r) (by omega)]
section READT
variable {g : GT} {S : PS} {mc ms : Nat} {Q : PO → PS → Prop} {kc ks : Nat} {r sq : Nat} {fd en ea : Int} {tx : Int → Int}
theorem l_terms (ht : S.1 (r + 1) = some (cB 600 tx)) (hne : r + 1 < sq) (hb : ∀ i : Int, 0 ≤ i → i < en → -128 ≤ tx i ∧ tx i ≤ 127) (he : 0 ≤ en ∧ en ≤ 600) : ∀ (u : Nat) (p c : Int) (f f2 : Int → Int), 0 ≤ p → p ≤ en → 0 ≤ c → c ≤ 32 → c + u = 33 → (∀ k : Int, 0 ≤ k → k < c → f2 k = f k) →
    ((trsB (seeI tx en) u p c f).1 = 0 → (0 ≤ (trsB (seeI tx en) u p c f).2.2.1 ∧ (trsB (seeI tx en) u p c f).2.2.1 ≤ 32) → (0 ≤ (trsB (seeI tx en) u p c f).2.1 ∧ (trsB (seeI tx en) u p c f).2.1 ≤ en) → ∀ f3 : Int → Int, (∀ k : Int, 0 ≤ k → k < (trsB (seeI tx en) u p c f).2.2.1 → f3 k = (trsB (seeI tx en) u p c f).2.2.2 k) → Q (.inl none) (ps_seq (ps_put S r (rO r fd en (trsB (seeI tx en) u p c f).2.1 0 ea)) sq (trsB (seeI tx en) u p c f).2.2.1 f3)) →
    ((trsB (seeI tx en) u p c f).1 ≠ 0 → ∀ (z c3 : Int) (f3 : Int → Int), (0 ≤ z ∧ z ≤ en) → (0 ≤ c3 ∧ c3 ≤ 32) → Q (.inl none) (ps_seq (ps_put S r (rO r fd en z (trsB (seeI tx en) u p c f).1 (trsB (seeI tx en) u p c f).2.1)) sq c3 f3)) →
    PW g cX8_readTerms (iX8_readTerms mc ms) 11 [(0, some (.ref r)), (1, some (.ref sq)), (2, some (vi c))] [] (ps_seq (ps_put S r (rO r fd en p 0 ea)) sq c f2) kc ks Q := by
  intro u
  induction u with
  | zero => intro p c f f2 h0 h1 hc hc2 hu; omega
  | succ u ih =>
    intro p c f f2 h0 h1 hc hc2 hu hf q0 q1
    have hB : BOk (seeI tx en) en := seeI_ok he
    have hsb := seeI_bd tx en p
    have hR : trsB (seeI tx en) (u + 1) p c f = if seeI tx en p = 45 ∨ (48 ≤ seeI tx en p ∧ seeI tx en p ≤ 57) then (if (trmB (seeI tx en) p c).1 = 0 then trsB (seeI tx en) u (trmB (seeI tx en) p c).2.1 (c + 1) (upI f c (trmB (seeI tx en) p c).2.2) else ((trmB (seeI tx en) p c).1, (trmB (seeI tx en) p c).2.1, c, f)) else (0, p, c, f) := rfl
    rw [hR] at q0 q1
    have t1 : (ps_seq (ps_put S r (rO r fd en p 0 ea)) sq c f2).1 r = some (rO r fd en p 0 ea) := by rw [ps_seq_ne (by omega) (by omega)]; exact ps_same
    have t2 : (ps_seq (ps_put S r (rO r fd en p 0 ea)) sq c f2).1 (r + 1) = some (cB 600 tx) := by rw [ps_seq_ne (by omega) (by omega)]; exact ps_ne (by omega) ht
    have t3 : SeqAt (ps_seq (ps_put S r (rO r fd en p 0 ea)) sq c f2) sq c f2 := SeqAt.seq
    have hgo : (seeI tx en p = 45 ∨ (48 ≤ seeI tx en p ∧ seeI tx en p ≤ 57)) → PW g cX8_readTerms (iX8_readTerms mc ms) 51 [(0, some (.ref r)), (1, some (.ref sq)), (2, some (vi c))] [] (ps_seq (ps_put S r (rO r fd en p 0 ea)) sq c f2) kc ks Q := fun hd => by
      have hpn : p < en := by
        rcases Int.lt_or_le p en with z | z
        · exact z
        · have := hB.2.2 p z
          omega
      rw [if_pos hd] at q0 q1
      obtain ⟨b1, b2, b3⟩ := trm_ok hB h0 hpn (c := c) ⟨hc, hc2⟩
      refine r_aload_n dX8_readTerms_51 (i := 0) rfl rfl (r_aload_n dX8_readTerms_52 (i := 1) rfl rfl ?_)
      refine c_vq dX8_readTerms_53 (c_X8_readTerm t1 t2 t3 hne hb he ⟨h0, hpn⟩ ⟨hc, hc2⟩) rfl rfl mq_X8_readTerm ml_X8_106 ⟨Nat.le_of_ble_eq_true rfl, Nat.le_of_ble_eq_true rfl⟩ t1 rfl rfl rfl (Nat.le_of_ble_eq_true rfl) (fun E S' h => by simp at h) (fun v S2 hn => ?_)
      obtain ⟨e1, z, hz, hh⟩ := hn
      cases e1
      show PW _ _ _ 56 _ [] _ _ _ _
      rcases hh with ⟨k1, k2, k3⟩ | ⟨k1, k3⟩
      · subst k3
        rw [if_pos k1] at q0 q1
        obtain ⟨b4, b5, b6, b7, b8⟩ := b3 k1
        rw [put_seq (by omega) (by omega), ps_put_put, seq_seq]
        have g1 : (ps_seq (ps_put S r (rO r fd en z 0 ea)) sq (c + 1) (upI f2 c (trmB (seeI tx en) p c).2.2)).1 r = some (rO r fd en z 0 ea) := by rw [ps_seq_ne (by omega) (by omega)]; exact ps_same
        have g2 : (ps_seq (ps_put S r (rO r fd en z 0 ea)) sq (c + 1) (upI f2 c (trmB (seeI tx en) p c).2.2)).1 (r + 1) = some (cB 600 tx) := by rw [ps_seq_ne (by omega) (by omega)]; exact ps_ne (by omega) ht
        refine r_aload_n dX8_readTerms_56 (i := 0) rfl rfl (c_vn dX8_readTerms_57 (c_X8_passSpacesB g1 g2 hb he hz) rfl rfl mq_X8_passSpaces ml_X8_47 ⟨Nat.le_of_ble_eq_true rfl, Nat.le_of_ble_eq_true rfl⟩ g1 rfl rfl rfl (Nat.le_of_ble_eq_true rfl) ?_)
        rw [put_seq (by omega) (by omega), ps_put_put, k2]
        refine r_iinc dX8_readTerms_60 rfl rfl (r_goto 11 dX8_readTerms_63 (by decide) ?_)
        exact r_loc [(0, some (.ref r)), (1, some (.ref sq)), (2, some (vi (c + 1)))] ⟨Or.inl rfl, Or.inl rfl, Or.inl rfl, trivial⟩ (ih _ _ _ _ (by omega) b1.2 (by omega) (by omega) (by omega) (fun k k0 k9 => by
          by_cases e : k = c
          · subst e
            rw [upI_eq, upI_eq]
          · rw [upI_ne e, upI_ne e]
            exact hf k k0 (by omega)) q0 q1)
      · subst k3
        rw [if_neg k1] at q0 q1
        rw [put_seq (by omega) (by omega), ps_put_put]
        have g1 : (ps_seq (ps_put S r (rO r fd en z (trmB (seeI tx en) p c).1 (trmB (seeI tx en) p c).2.1)) sq c f2).1 r = some (rO r fd en z (trmB (seeI tx en) p c).1 (trmB (seeI tx en) p c).2.1) := by rw [ps_seq_ne (by omega) (by omega)]; exact ps_same
        have g2 : (ps_seq (ps_put S r (rO r fd en z (trmB (seeI tx en) p c).1 (trmB (seeI tx en) p c).2.1)) sq c f2).1 (r + 1) = some (cB 600 tx) := by rw [ps_seq_ne (by omega) (by omega)]; exact ps_ne (by omega) ht
        refine r_aload_n dX8_readTerms_56 (i := 0) rfl rfl (c_vn dX8_readTerms_57 (c_X8_passSpacesB g1 g2 hb he hz) rfl rfl mq_X8_passSpaces ml_X8_47 ⟨Nat.le_of_ble_eq_true rfl, Nat.le_of_ble_eq_true rfl⟩ g1 rfl rfl rfl (Nat.le_of_ble_eq_true rfl) ?_)
        rw [put_seq (by omega) (by omega), ps_put_put]
        have hk := sk_ok hB hz.1 hz.2
        have g3 : (ps_seq (ps_put S r (rO r fd en (sk (seeI tx en) z) (trmB (seeI tx en) p c).1 (trmB (seeI tx en) p c).2.1)) sq c f2).1 r = some (rO r fd en (sk (seeI tx en) z) (trmB (seeI tx en) p c).1 (trmB (seeI tx en) p c).2.1) := by rw [ps_seq_ne (by omega) (by omega)]; exact ps_same
        refine r_iinc dX8_readTerms_60 rfl rfl (r_goto 11 dX8_readTerms_63 (by decide) (r_iload_n dX8_readTerms_11 (i := 2) rfl rfl (r_bipush dX8_readTerms_12 (by decide) ?_)))
        refine r_icmp_gt 66 dX8_readTerms_14 (by decide) (by omega) (by omega) (fun c5 => ?_) (fun c5 => ?_)
        · refine r_vret dX8_readTerms_66 rfl ?_
          exact q1 k1 _ _ _ ⟨by omega, hk.2.2⟩ ⟨hc, hc2⟩
        · refine r_aload_n dX8_readTerms_17 (i := 0) rfl rfl (r_get dX8_readTerms_18 fl_X8_41 g3 rfl ?_)
          refine r_if_ne 66 dX8_readTerms_21 (by decide) (by omega) (fun c6 => ?_) (fun c6 => ?_)
          · refine r_vret dX8_readTerms_66 rfl ?_
            exact q1 k1 _ _ _ ⟨by omega, hk.2.2⟩ ⟨hc, hc2⟩
          · exact absurd c6 (by omega)
    refine r_iload_n dX8_readTerms_11 (i := 2) rfl rfl (r_bipush dX8_readTerms_12 (by decide) ?_)
    refine r_icmp_gt 66 dX8_readTerms_14 (by decide) (by omega) (by omega) (fun c0 => ?_) (fun c0 => ?_)
    · omega
    · refine r_aload_n dX8_readTerms_17 (i := 0) rfl rfl (r_get dX8_readTerms_18 fl_X8_41 t1 rfl ?_)
      refine r_if_ne 66 dX8_readTerms_21 (by decide) (by omega) (fun c1 => ?_) (fun c1 => ?_)
      · omega
      · refine r_aload_n dX8_readTerms_24 (i := 0) rfl rfl (r_aload_n dX8_readTerms_25 (i := 0) rfl rfl (r_get dX8_readTerms_26 fl_X8_38 t1 rfl (c_vr dX8_readTerms_29 (c_X8_byteAt t1 t2 hb he ⟨by omega, by omega⟩) rfl rfl mq_X8_byteAt ml_X8_99 ⟨Nat.le_of_ble_eq_true rfl, Nat.le_of_ble_eq_true rfl⟩ t1 rfl rfl rfl (Nat.le_of_ble_eq_true rfl) (r_bipush dX8_readTerms_32 (by decide) ?_))))
        refine r_icmp_eq 51 dX8_readTerms_34 (by decide) (by omega) (by omega) (fun c2 => ?_) (fun c2 => ?_)
        · exact hgo (Or.inl c2)
        · refine r_aload_n dX8_readTerms_37 (i := 0) rfl rfl (r_aload_n dX8_readTerms_38 (i := 0) rfl rfl (r_get dX8_readTerms_39 fl_X8_38 t1 rfl (c_vr dX8_readTerms_42 (c_X8_byteAt t1 t2 hb he ⟨by omega, by omega⟩) rfl rfl mq_X8_byteAt ml_X8_99 ⟨Nat.le_of_ble_eq_true rfl, Nat.le_of_ble_eq_true rfl⟩ t1 rfl rfl rfl (Nat.le_of_ble_eq_true rfl) (c_sr dX8_readTerms_45 (c_X8_isDigit ⟨by omega, by omega⟩) rfl rfl mq_X8_isDigit ml_X8_103 ⟨Nat.le_of_ble_eq_true rfl, Nat.le_of_ble_eq_true rfl⟩ rfl rfl (Nat.le_of_ble_eq_true rfl) ?_))))
          refine r_if_eq 66 dX8_readTerms_48 (by decide) b2i_RI (fun c3 => ?_) (fun c3 => ?_)
          · replace c3 := b2i_eq c3
            rw [if_neg (by omega)] at q0
            refine r_vret dX8_readTerms_66 rfl ?_
            exact q0 rfl ⟨hc, hc2⟩ ⟨h0, h1⟩ f2 hf
          · exact hgo (Or.inr (b2i_ne c3))
theorem c_X8_readTerms {c at' : Int} {f : Int → Int} (h : S.1 r = some (rO r fd en at' 0 ea)) (ht : S.1 (r + 1) = some (cB 600 tx)) (hq : SeqAt S sq c f) (hne : r + 1 < sq) (hb : ∀ i : Int, 0 ≤ i → i < en → -128 ≤ tx i ∧ tx i ≤ 127) (he : 0 ≤ en ∧ en ≤ 600) (ha : 0 ≤ at' ∧ at' ≤ en) : PC g yX8_readTerms cX8_readTerms (iX8_readTerms mc ms) [.ref r, .ref sq] S (fun o S' => o = .inl none ∧ (((trsB (seeI tx en) 33 (sk (seeI tx en) at') 0 (fun _ => 0)).1 = 0 ∧ (0 ≤ (trsB (seeI tx en) 33 (sk (seeI tx en) at') 0 (fun _ => 0)).2.2.1 ∧ (trsB (seeI tx en) 33 (sk (seeI tx en) at') 0 (fun _ => 0)).2.2.1 ≤ 32) ∧ (0 ≤ (trsB (seeI tx en) 33 (sk (seeI tx en) at') 0 (fun _ => 0)).2.1 ∧ (trsB (seeI tx en) 33 (sk (seeI tx en) at') 0 (fun _ => 0)).2.1 ≤ en) ∧ ∃ f3 : Int → Int, (∀ k : Int, 0 ≤ k → k < (trsB (seeI tx en) 33 (sk (seeI tx en) at') 0 (fun _ => 0)).2.2.1 → f3 k = (trsB (seeI tx en) 33 (sk (seeI tx en) at') 0 (fun _ => 0)).2.2.2 k) ∧ S' = ps_seq (ps_put S r (rO r fd en (trsB (seeI tx en) 33 (sk (seeI tx en) at') 0 (fun _ => 0)).2.1 0 ea)) sq (trsB (seeI tx en) 33 (sk (seeI tx en) at') 0 (fun _ => 0)).2.2.1 f3) ∨ ((trsB (seeI tx en) 33 (sk (seeI tx en) at') 0 (fun _ => 0)).1 ≠ 0 ∧ ∃ (z c3 : Int) (f3 : Int → Int), (0 ≤ z ∧ z ≤ en) ∧ (0 ≤ c3 ∧ c3 ≤ 32) ∧ S' = ps_seq (ps_put S r (rO r fd en z (trsB (seeI tx en) 33 (sk (seeI tx en) at') 0 (fun _ => 0)).1 (trsB (seeI tx en) 33 (sk (seeI tx en) at') 0 (fun _ => 0)).2.1)) sq c3 f3))) := by
  have hB : BOk (seeI tx en) en := seeI_ok he
  have hk := sk_ok hB ha.1 ha.2
  have g1 : (ps_seq S sq 0 f).1 r = some (rO r fd en at' 0 ea) := by rw [ps_seq_ne (by omega) (by omega)]; exact h
  have g2 : (ps_seq S sq 0 f).1 (r + 1) = some (cB 600 tx) := by rw [ps_seq_ne (by omega) (by omega)]; exact ht
  refine PC_of pnX8 rfl rfl rfl (Nat.le_of_ble_eq_true rfl) ?_
  refine r_aload_n dX8_readTerms_0 (i := 1) rfl rfl (r_iconst dX8_readTerms_1 (r_put dX8_readTerms_2 fl_X8_94 hq.1 rfl rfl (Nat.le_of_ble_eq_true rfl) ?_))
  refine r_ps (S' := ps_seq S sq 0 f) (seq_put (c' := 0) hq) ?_
  refine r_aload_n dX8_readTerms_5 (i := 0) rfl rfl (c_vn dX8_readTerms_6 (c_X8_passSpacesB g1 g2 hb he ha) rfl rfl mq_X8_passSpaces ml_X8_47 ⟨Nat.le_of_ble_eq_true rfl, Nat.le_of_ble_eq_true rfl⟩ g1 rfl rfl rfl (Nat.le_of_ble_eq_true rfl) ?_)
  rw [put_seq (by omega) (by omega)]
  refine r_iconst dX8_readTerms_9 (r_istore_n dX8_readTerms_10 (i := 2) rfl rfl (Nat.le_of_ble_eq_true rfl) ?_)
  exact r_loc [(0, some (.ref r)), (1, some (.ref sq)), (2, some (vi 0))] ⟨Or.inl rfl, Or.inl rfl, Or.inl rfl, trivial⟩ (l_terms ht hne hb he 33 _ 0 (fun _ => 0) f (by omega) hk.2.2 (by omega) (by omega) (by omega) (fun k k0 k1 => by omega) (fun z1 z2 z3 f3 z4 => ⟨rfl, Or.inl ⟨z1, z2, z3, f3, z4, rfl⟩⟩) (fun z1 z c3 f3 z2 z3 => ⟨rfl, Or.inr ⟨z1, z, c3, f3, z2, z3, rfl⟩⟩))
theorem c_X8_passSemi0 {at' er : Int} (h : S.1 r = some (rO r fd en at' er ea)) (hr : RI er) (hn : er ≠ 0) : PC g yX8_passSemicolon cX8_passSemicolon (iX8_passSemicolon mc ms) [.ref r] S (Rt none S) := by
  refine PC_of pnX8 rfl rfl rfl (Nat.le_of_ble_eq_true rfl) ?_
  refine r_aload_n dX8_passSemicolon_0 (i := 0) rfl rfl (r_get dX8_passSemicolon_1 fl_X8_41 h rfl ?_)
  refine r_if_eq 8 dX8_passSemicolon_4 (by decide) (by omega) (fun c1 => ?_) (fun c1 => ?_)
  · exact absurd c1 hn
  · refine r_vret dX8_passSemicolon_7 rfl ?_
    exact ⟨rfl, rfl⟩
theorem c_X8_passSemi1 {at' : Int} (h : S.1 r = some (rO r fd en at' 0 ea)) (ht : S.1 (r + 1) = some (cB 600 tx)) (hb : ∀ i : Int, 0 ≤ i → i < en → -128 ≤ tx i ∧ tx i ≤ 127) (he : 0 ≤ en ∧ en ≤ 600) (ha : 0 ≤ at' ∧ at' ≤ en) : PC g yX8_passSemicolon cX8_passSemicolon (iX8_passSemicolon mc ms) [.ref r] S (fun o S' => o = .inl none ∧ ((seeI tx en (sk (seeI tx en) at') = 59 ∧ S' = ps_put S r (rO r fd en (sk (seeI tx en) (sk (seeI tx en) at' + 1)) 0 ea) ∧ sk (seeI tx en) at' < en) ∨ (seeI tx en (sk (seeI tx en) at') ≠ 59 ∧ S' = ps_put S r (rO r fd en (sk (seeI tx en) at') (-2) (sk (seeI tx en) at'))))) := by
  have hB : BOk (seeI tx en) en := seeI_ok he
  have hk := sk_ok hB ha.1 ha.2
  have hsb := seeI_bd tx en (sk (seeI tx en) at')
  have t2 : ∀ e, (ps_put S r e).1 (r + 1) = some (cB 600 tx) := fun e => ps_ne (by omega) ht
  refine PC_of pnX8 rfl rfl rfl (Nat.le_of_ble_eq_true rfl) ?_
  refine r_aload_n dX8_passSemicolon_0 (i := 0) rfl rfl (r_get dX8_passSemicolon_1 fl_X8_41 h rfl ?_)
  refine r_if_eq 8 dX8_passSemicolon_4 (by decide) (by omega) (fun c1 => ?_) (fun c1 => ?_)
  · refine r_aload_n dX8_passSemicolon_8 (i := 0) rfl rfl (c_vn dX8_passSemicolon_9 (c_X8_passSpacesB h ht hb he ha) rfl rfl mq_X8_passSpaces ml_X8_47 ⟨Nat.le_of_ble_eq_true rfl, Nat.le_of_ble_eq_true rfl⟩ h rfl rfl rfl (Nat.le_of_ble_eq_true rfl) (r_aload_n dX8_passSemicolon_12 (i := 0) rfl rfl (r_aload_n dX8_passSemicolon_13 (i := 0) rfl rfl (r_get dX8_passSemicolon_14 fl_X8_38 ps_same rfl ?_))))
    refine c_vr dX8_passSemicolon_17 (c_X8_byteAt ps_same (t2 _) hb he ⟨by omega, by omega⟩) rfl rfl mq_X8_byteAt ml_X8_99 ⟨Nat.le_of_ble_eq_true rfl, Nat.le_of_ble_eq_true rfl⟩ ps_same rfl rfl rfl (Nat.le_of_ble_eq_true rfl) (r_bipush dX8_passSemicolon_20 (by decide) ?_)
    refine r_icmp_ne 42 dX8_passSemicolon_22 (by decide) (by omega) (by omega) (fun c2 => ?_) (fun c2 => ?_)
    · refine r_aload_n dX8_passSemicolon_42 (i := 0) rfl rfl (r_bipush dX8_passSemicolon_43 (by decide) (r_aload_n dX8_passSemicolon_45 (i := 0) rfl rfl (r_get dX8_passSemicolon_46 fl_X8_38 ps_same rfl (c_vn dX8_passSemicolon_49 (c_X8_fail ps_same) rfl rfl mq_X8_fail ml_X8_65 ⟨Nat.le_of_ble_eq_true rfl, Nat.le_of_ble_eq_true rfl⟩ ps_same rfl rfl rfl (Nat.le_of_ble_eq_true rfl) ?_))))
      refine r_vret dX8_passSemicolon_52 rfl ?_
      rw [ps_put_put]
      exact ⟨rfl, Or.inr ⟨c2, rfl⟩⟩
    · have hlt : sk (seeI tx en) at' < en := by
        rcases Int.lt_or_le (sk (seeI tx en) at') en with z | z
        · exact z
        · have := hB.2.2 _ z
          omega
      refine r_aload_n dX8_passSemicolon_25 (i := 0) rfl rfl (r_dup dX8_passSemicolon_26 rfl (r_get dX8_passSemicolon_27 fl_X8_38 ps_same rfl (r_iconst dX8_passSemicolon_30 (r_iadd dX8_passSemicolon_31 ?_))))
      refine r_put dX8_passSemicolon_32 fl_X8_38 ps_same rfl rfl (Nat.le_of_ble_eq_true rfl) ?_
      rw [ps_put_put]
      refine r_aload_n dX8_passSemicolon_35 (i := 0) rfl rfl (c_vn dX8_passSemicolon_36 (c_X8_passSpacesB ps_same (t2 _) hb he ⟨by omega, by omega⟩) rfl rfl mq_X8_passSpaces ml_X8_47 ⟨Nat.le_of_ble_eq_true rfl, Nat.le_of_ble_eq_true rfl⟩ ps_same rfl rfl rfl (Nat.le_of_ble_eq_true rfl) (r_goto 52 dX8_passSemicolon_39 (by decide) (r_vret dX8_passSemicolon_52 rfl ?_)))
      rw [ps_put_put]
      exact ⟨rfl, Or.inl ⟨by omega, rfl, hlt⟩⟩
  · omega
end READT

/-! the class: TextReader.takeBytes; the face's feed -/
def sbI (z : Int) : Int := (z + 128) % 256 - 128
theorem q_i2b (z : Int) : (Int32.ofInt z).toInt8.toInt32 = Int32.ofInt (sbI z) := by
  apply Int32.toInt_inj.mp
  have e0 : (Int32.ofInt z).toInt8.toInt = sbI z := by
    rw [Int32.toInt_toInt8, Int32.toInt_ofInt]
    show (z.bmod 4294967296).bmod 256 = _
    rw [Int.bmod_bmod_of_dvd (by decide)]
    unfold sbI Int.bmod
    show (if z % 256 < (256 + 1) / 2 then z % 256 else z % 256 - 256) = _
    split <;> omega
  rw [Int8.toInt_toInt32, e0, q_tI (by unfold sbI; omega) (by unfold sbI; omega)]
theorem sbI_bd (z : Int) : -128 ≤ sbI z ∧ sbI z < 128 ∧ sbI z % 256 = z % 256 := by
  unfold sbI
  omega
section TAKE
variable {g : GT} {S : PS} {mc ms : Nat} {Q : PO → PS → Prop} {kc ks : Nat} {r : Nat} {tx : Int → Int} {fd en at' er ea v : Int}
theorem l_take (h : S.1 r = some (rO r fd en at' er ea)) (ht : S.1 (r + 1) = some (cB 600 tx)) (hv : RI v) (hf : 0 ≤ fd ∧ fd ≤ 596) (hq : Q (.inl none) (ps_put (ps_put S r (rO r (fd + 4) en at' er ea)) (r + 1) (cB 600 (mix fd (fd + 4) (fun k => sbI (v / 2 ^ (24 - 8 * (k - fd)).toNat)) tx)))) : ∀ (n i : Nat), i + n = 4 →
    PW g cX8_takeBytes (iX8_takeBytes mc ms) 3 [(0, some (.ref r)), (1, some (vi v)), (2, some (vi (24 - 8 * (i : Int))))] [] (ps_put (ps_put S r (rO r (fd + (i : Int)) en at' er ea)) (r + 1) (cB 600 (mix fd (fd + (i : Int)) (fun k => sbI (v / 2 ^ (24 - 8 * (k - fd)).toNat)) tx))) kc ks Q := by
  intro n
  induction n with
  | zero =>
    intro i hi
    have e : i = 4 := by omega
    subst e
    refine r_iload_n dX8_takeBytes_3 (i := 2) rfl rfl ?_
    refine r_if_lt 43 dX8_takeBytes_4 (by decide) (by omega) (fun c1 => ?_) (fun c1 => ?_)
    · refine r_vret dX8_takeBytes_43 rfl ?_
      exact hq
    · omega
  | succ n ih =>
    intro i hi
    have g1 : (ps_put (ps_put S r (rO r (fd + (i : Int)) en at' er ea)) (r + 1) (cB 600 (mix fd (fd + (i : Int)) (fun k => sbI (v / 2 ^ (24 - 8 * (k - fd)).toNat)) tx))).1 r = some (rO r (fd + (i : Int)) en at' er ea) := ps_ne (by omega) ps_same
    have hs := sbI_bd (v / 2 ^ (24 - 8 * (i : Int)).toNat)
    refine r_iload_n dX8_takeBytes_3 (i := 2) rfl rfl ?_
    refine r_if_lt 43 dX8_takeBytes_4 (by decide) (by omega) (fun c1 => ?_) (fun c1 => ?_)
    · omega
    · refine r_aload_n dX8_takeBytes_7 (i := 0) rfl rfl (r_get dX8_takeBytes_8 fl_X8_26 g1 rfl (r_sipush dX8_takeBytes_11 (by decide) ?_))
      refine r_icmp_ge 43 dX8_takeBytes_14 (by decide) (by omega) (by omega) (fun c2 => ?_) (fun c2 => ?_)
      · omega
      · refine r_aload_n dX8_takeBytes_17 (i := 0) rfl rfl (r_get dX8_takeBytes_18 fl_X8_9 g1 rfl (r_aload_n dX8_takeBytes_21 (i := 0) rfl rfl (r_dup dX8_takeBytes_22 rfl (r_get dX8_takeBytes_23 fl_X8_26 g1 rfl ?_))))
        refine r_dup_x1 dX8_takeBytes_26 rfl rfl (r_iconst dX8_takeBytes_27 (r_iadd dX8_takeBytes_28 (r_put dX8_takeBytes_29 fl_X8_26 g1 rfl rfl (Nat.le_of_ble_eq_true rfl) (r_iload_n dX8_takeBytes_32 (i := 1) rfl rfl ?_))))
        refine r_iload_n dX8_takeBytes_33 (i := 2) rfl rfl ?_
        refine r_ishr (v / 2 ^ (24 - 8 * (i : Int)).toNat) dX8_takeBytes_34 (q_shrc hv (by omega)) ?_
        refine r_i2b (sbI (v / 2 ^ (24 - 8 * (i : Int)).toNat)) dX8_takeBytes_35 (q_i2b _) ?_
        refine r_bast dX8_takeBytes_36 (ps_ne (by omega) ps_same) (by omega) (by omega) (by omega) ⟨hs.1, hs.2.1⟩ ?_
        refine r_iinc dX8_takeBytes_37 rfl rfl (r_goto 3 dX8_takeBytes_40 (by decide) ?_)
        rw [ps_put_comm (q := r + 1) (r := r) (by omega), ps_put_put, ps_put_put, mix_up (by omega) (by show _ = sbI (v / 2 ^ (24 - 8 * (fd + (i : Int) - fd)).toNat); rw [show fd + (i : Int) - fd = (i : Int) by omega])]
        show PW _ _ _ _ _ _ (ps_put (ps_put S r (rO r (fd + (i : Int) + 1) en at' er ea)) _ _) _ _ _
        have ih' := ih (i + 1) (by omega)
        rw [show fd + ((i + 1 : Nat) : Int) = fd + (i : Int) + 1 by omega] at ih'
        exact r_loc [(0, some (.ref r)), (1, some (vi v)), (2, some (vi (24 - 8 * ((i + 1 : Nat) : Int))))] ⟨Or.inl rfl, Or.inl rfl, Or.inl (lvi_eq (by omega)), trivial⟩ ih'
theorem c_X8_takeBytes (h : S.1 r = some (rO r fd en at' er ea)) (ht : S.1 (r + 1) = some (cB 600 tx)) (hv : RI v) (hf : 0 ≤ fd ∧ fd ≤ 596) : PC g yX8_takeBytes cX8_takeBytes (iX8_takeBytes mc ms) [.ref r, vi v] S (Rt none (ps_put (ps_put S r (rO r (fd + 4) en at' er ea)) (r + 1) (cB 600 (mix fd (fd + 4) (fun k => sbI (v / 2 ^ (24 - 8 * (k - fd)).toNat)) tx)))) := by
  refine PC_of pnX8 rfl rfl rfl (Nat.le_of_ble_eq_true rfl) ?_
  refine r_bipush dX8_takeBytes_0 (by decide) (r_istore_n dX8_takeBytes_2 (i := 2) rfl rfl (Nat.le_of_ble_eq_true rfl) ?_)
  have e : S = ps_put (ps_put S r (rO r (fd + ((0 : Nat) : Int)) en at' er ea)) (r + 1) (cB 600 (mix fd (fd + ((0 : Nat) : Int)) (fun k => sbI (v / 2 ^ (24 - 8 * (k - fd)).toNat)) tx)) := by
    rw [show fd + ((0 : Nat) : Int) = fd by omega, mix_0, ps_put_self h, ps_put_self ht]
  refine r_ps e ?_
  exact r_loc [(0, some (.ref r)), (1, some (vi v)), (2, some (vi (24 - 8 * ((0 : Nat) : Int))))] ⟨Or.inl rfl, Or.inl rfl, Or.inl rfl, trivial⟩ (l_take h ht hv hf ⟨rfl, rfl⟩ 4 0 (by omega))
end TAKE
/-- the text behind a feed of five -/
noncomputable def fdT (fd : Int) (v0 v1 v2 v3 v4 : Int) (tx : Int → Int) : Int → Int := fun k => if fd ≤ k ∧ k < fd + 20 then sbI (fdV v0 v1 v2 v3 v4 (k - fd) / 2 ^ (24 - 8 * ((k - fd) % 4)).toNat) else tx k
section FEED
variable {g : GT} {S : PS} {mc ms : Nat} {x F : Nat} {a : Int → Int} {H : Int → Int → Int} {nx ct fd ea : Int} {tx : Int → Int}
theorem c_X9_feed {v0 v1 v2 v3 v4 : Int} (hC : CX S x F a H nx ct fd ea tx) (hf : 0 ≤ fd ∧ fd ≤ 600) (h0 : RI v0) (h1 : RI v1) (h2 : RI v2) (h3 : RI v3) (h4 : RI v4) (hm : 1 ≤ mc) (hm2 : 6 ≤ ms) : PC g yX9_feed cX9_feed (iX9_feed mc ms) [.ref x, vi v0, vi v1, vi v2, vi v3, vi v4] S (Out ["java/lang/IllegalStateException"] (if 580 < fd then 1 else 0) (vi (fd + 20)) S (fun S' => CX S' x F a H nx ct (fd + 20) ea (fdT fd v0 v1 v2 v3 v4 tx) ∧ FrC x S S')) := by
  have hx := hC.2.1
  have hF := hC.1
  obtain ⟨⟨en, at', er, r1⟩, r2, af, r3⟩ := hC.2.2.2.2.1
  refine PC_of pnX9 rfl rfl rfl (Nat.le_of_ble_eq_true rfl) ?_
  refine r_bud (kc' := 1) (ks' := 6) hm hm2 ?_
  refine r_aload_n dX9_feed_0 (i := 0) rfl rfl (r_get dX9_feed_1 fl_X9_26 hx rfl (c_vr dX9_feed_4 (c_X8_hasSpace r1 hf) rfl rfl mq_X8_hasSpace ml_X9_51 ⟨Nat.le_of_ble_eq_true rfl, Nat.le_of_ble_eq_true rfl⟩ r1 rfl rfl rfl (Nat.le_of_ble_eq_true rfl) ?_))
  refine r_if_ne 20 dX9_feed_7 (by decide) b2i_RI (fun c1 => ?_) (fun c1 => ?_)
  · replace c1 := b2i_ne c1
    have hfd : fd + 20 ≤ 600 := by assumption
    refine r_aload_n dX9_feed_20 (i := 0) rfl rfl (r_get dX9_feed_21 fl_X9_26 hx rfl (r_iload_n dX9_feed_24 (i := 1) rfl rfl (c_vn dX9_feed_25 (c_X8_takeBytes r1 r2 h0 (by omega)) rfl rfl mq_X8_takeBytes ml_X9_62 ⟨Nat.le_of_ble_eq_true rfl, Nat.le_of_ble_eq_true rfl⟩ r1 rfl rfl rfl (Nat.le_of_ble_eq_true rfl) ?_)))
    have a1 := ps_same (S := ps_put S (x + 129) (rO (x + 129) (fd + 4) en at' er ea)) (q := x + 129 + 1) (e := cB 600 (mix fd (fd + 4) (fun k => sbI (v0 / 2 ^ (24 - 8 * (k - fd)).toNat)) tx))
    obtain ⟨S1, e1⟩ : ∃ S1, S1 = ps_put (ps_put S (x + 129) (rO (x + 129) (fd + 4) en at' er ea)) (x + 129 + 1) (cB 600 (mix fd (fd + 4) (fun k => sbI (v0 / 2 ^ (24 - 8 * (k - fd)).toNat)) tx)) := ⟨_, rfl⟩
    refine r_ps e1.symm ?_
    have b1 : S1.1 (x + 129) = some (rO (x + 129) (fd + 4) en at' er ea) := by rw [e1]; exact ps_ne (by omega) ps_same
    have b2 : S1.1 (x + 129 + 1) = some (cB 600 (mix fd (fd + 4) (fun k => sbI (v0 / 2 ^ (24 - 8 * (k - fd)).toNat)) tx)) := by rw [e1]; exact ps_same
    have b3 : ∀ z : Nat, z ≠ x + 129 → z ≠ x + 130 → S1.1 z = S.1 z := fun z z1 z2 => by rw [e1]; exact ps_ne (by omega) (ps_ne (by omega) rfl)
    have b4 : S1.2 = S.2 := by rw [e1]; rfl
    have hx1 : S1.1 x = some (xO x) := by rw [b3 x (by omega) (by omega)]; exact hx
    refine r_aload_n dX9_feed_28 (i := 0) rfl rfl (r_get dX9_feed_29 fl_X9_26 hx1 rfl (r_iload_n dX9_feed_32 (i := 2) rfl rfl (c_vn dX9_feed_33 (c_X8_takeBytes b1 b2 h1 (by omega)) rfl rfl mq_X8_takeBytes ml_X9_62 ⟨Nat.le_of_ble_eq_true rfl, Nat.le_of_ble_eq_true rfl⟩ b1 rfl rfl rfl (Nat.le_of_ble_eq_true rfl) ?_)))
    rw [show fd + 4 + 4 = fd + 8 by omega]
    obtain ⟨S2, e2⟩ : ∃ S2, S2 = ps_put (ps_put S1 (x + 129) (rO (x + 129) (fd + 8) en at' er ea)) (x + 129 + 1) (cB 600 (mix (fd + 4) (fd + 8) (fun k => sbI (v1 / 2 ^ (24 - 8 * (k - (fd + 4))).toNat)) (mix fd (fd + 4) (fun k => sbI (v0 / 2 ^ (24 - 8 * (k - fd)).toNat)) tx))) := ⟨_, rfl⟩
    refine r_ps e2.symm ?_
    have c1 : S2.1 (x + 129) = some (rO (x + 129) (fd + 8) en at' er ea) := by rw [e2]; exact ps_ne (by omega) ps_same
    have c2 : S2.1 (x + 129 + 1) = some (cB 600 (mix (fd + 4) (fd + 8) (fun k => sbI (v1 / 2 ^ (24 - 8 * (k - (fd + 4))).toNat)) (mix fd (fd + 4) (fun k => sbI (v0 / 2 ^ (24 - 8 * (k - fd)).toNat)) tx))) := by rw [e2]; exact ps_same
    have c3 : ∀ z : Nat, z ≠ x + 129 → z ≠ x + 130 → S2.1 z = S.1 z := fun z z1 z2 => by rw [e2, ← b3 z z1 z2]; exact ps_ne (by omega) (ps_ne (by omega) rfl)
    have c4 : S2.2 = S.2 := by rw [e2, ← b4]; rfl
    have hx2 : S2.1 x = some (xO x) := by rw [c3 x (by omega) (by omega)]; exact hx
    refine r_aload_n dX9_feed_36 (i := 0) rfl rfl (r_get dX9_feed_37 fl_X9_26 hx2 rfl (r_iload_n dX9_feed_40 (i := 3) rfl rfl (c_vn dX9_feed_41 (c_X8_takeBytes c1 c2 h2 (by omega)) rfl rfl mq_X8_takeBytes ml_X9_62 ⟨Nat.le_of_ble_eq_true rfl, Nat.le_of_ble_eq_true rfl⟩ c1 rfl rfl rfl (Nat.le_of_ble_eq_true rfl) ?_)))
    rw [show fd + 8 + 4 = fd + 12 by omega]
    obtain ⟨S3, e3⟩ : ∃ S3, S3 = ps_put (ps_put S2 (x + 129) (rO (x + 129) (fd + 12) en at' er ea)) (x + 129 + 1) (cB 600 (mix (fd + 8) (fd + 12) (fun k => sbI (v2 / 2 ^ (24 - 8 * (k - (fd + 8))).toNat)) (mix (fd + 4) (fd + 8) (fun k => sbI (v1 / 2 ^ (24 - 8 * (k - (fd + 4))).toNat)) (mix fd (fd + 4) (fun k => sbI (v0 / 2 ^ (24 - 8 * (k - fd)).toNat)) tx)))) := ⟨_, rfl⟩
    refine r_ps e3.symm ?_
    have d1 : S3.1 (x + 129) = some (rO (x + 129) (fd + 12) en at' er ea) := by rw [e3]; exact ps_ne (by omega) ps_same
    have d2 : S3.1 (x + 129 + 1) = some (cB 600 (mix (fd + 8) (fd + 12) (fun k => sbI (v2 / 2 ^ (24 - 8 * (k - (fd + 8))).toNat)) (mix (fd + 4) (fd + 8) (fun k => sbI (v1 / 2 ^ (24 - 8 * (k - (fd + 4))).toNat)) (mix fd (fd + 4) (fun k => sbI (v0 / 2 ^ (24 - 8 * (k - fd)).toNat)) tx)))) := by rw [e3]; exact ps_same
    have d3 : ∀ z : Nat, z ≠ x + 129 → z ≠ x + 130 → S3.1 z = S.1 z := fun z z1 z2 => by rw [e3, ← c3 z z1 z2]; exact ps_ne (by omega) (ps_ne (by omega) rfl)
    have d4 : S3.2 = S.2 := by rw [e3, ← c4]; rfl
    have hx3 : S3.1 x = some (xO x) := by rw [d3 x (by omega) (by omega)]; exact hx
    refine r_aload_n dX9_feed_44 (i := 0) rfl rfl (r_get dX9_feed_45 fl_X9_26 hx3 rfl (r_iload dX9_feed_48 rfl (c_vn dX9_feed_50 (c_X8_takeBytes d1 d2 h3 (by omega)) rfl rfl mq_X8_takeBytes ml_X9_62 ⟨Nat.le_of_ble_eq_true rfl, Nat.le_of_ble_eq_true rfl⟩ d1 rfl rfl rfl (Nat.le_of_ble_eq_true rfl) ?_)))
    rw [show fd + 12 + 4 = fd + 16 by omega]
    obtain ⟨S4, e4⟩ : ∃ S4, S4 = ps_put (ps_put S3 (x + 129) (rO (x + 129) (fd + 16) en at' er ea)) (x + 129 + 1) (cB 600 (mix (fd + 12) (fd + 16) (fun k => sbI (v3 / 2 ^ (24 - 8 * (k - (fd + 12))).toNat)) (mix (fd + 8) (fd + 12) (fun k => sbI (v2 / 2 ^ (24 - 8 * (k - (fd + 8))).toNat)) (mix (fd + 4) (fd + 8) (fun k => sbI (v1 / 2 ^ (24 - 8 * (k - (fd + 4))).toNat)) (mix fd (fd + 4) (fun k => sbI (v0 / 2 ^ (24 - 8 * (k - fd)).toNat)) tx))))) := ⟨_, rfl⟩
    refine r_ps e4.symm ?_
    have f1 : S4.1 (x + 129) = some (rO (x + 129) (fd + 16) en at' er ea) := by rw [e4]; exact ps_ne (by omega) ps_same
    have f2 : S4.1 (x + 129 + 1) = some (cB 600 (mix (fd + 12) (fd + 16) (fun k => sbI (v3 / 2 ^ (24 - 8 * (k - (fd + 12))).toNat)) (mix (fd + 8) (fd + 12) (fun k => sbI (v2 / 2 ^ (24 - 8 * (k - (fd + 8))).toNat)) (mix (fd + 4) (fd + 8) (fun k => sbI (v1 / 2 ^ (24 - 8 * (k - (fd + 4))).toNat)) (mix fd (fd + 4) (fun k => sbI (v0 / 2 ^ (24 - 8 * (k - fd)).toNat)) tx))))) := by rw [e4]; exact ps_same
    have f3 : ∀ z : Nat, z ≠ x + 129 → z ≠ x + 130 → S4.1 z = S.1 z := fun z z1 z2 => by rw [e4, ← d3 z z1 z2]; exact ps_ne (by omega) (ps_ne (by omega) rfl)
    have f4 : S4.2 = S.2 := by rw [e4, ← d4]; rfl
    have hx4 : S4.1 x = some (xO x) := by rw [f3 x (by omega) (by omega)]; exact hx
    refine r_aload_n dX9_feed_53 (i := 0) rfl rfl (r_get dX9_feed_54 fl_X9_26 hx4 rfl (r_iload dX9_feed_57 rfl (c_vn dX9_feed_59 (c_X8_takeBytes f1 f2 h4 (by omega)) rfl rfl mq_X8_takeBytes ml_X9_62 ⟨Nat.le_of_ble_eq_true rfl, Nat.le_of_ble_eq_true rfl⟩ f1 rfl rfl rfl (Nat.le_of_ble_eq_true rfl) ?_)))
    rw [show fd + 16 + 4 = fd + 20 by omega]
    obtain ⟨S5, e5⟩ : ∃ S5, S5 = ps_put (ps_put S4 (x + 129) (rO (x + 129) (fd + 20) en at' er ea)) (x + 129 + 1) (cB 600 (mix (fd + 16) (fd + 20) (fun k => sbI (v4 / 2 ^ (24 - 8 * (k - (fd + 16))).toNat)) (mix (fd + 12) (fd + 16) (fun k => sbI (v3 / 2 ^ (24 - 8 * (k - (fd + 12))).toNat)) (mix (fd + 8) (fd + 12) (fun k => sbI (v2 / 2 ^ (24 - 8 * (k - (fd + 8))).toNat)) (mix (fd + 4) (fd + 8) (fun k => sbI (v1 / 2 ^ (24 - 8 * (k - (fd + 4))).toNat)) (mix fd (fd + 4) (fun k => sbI (v0 / 2 ^ (24 - 8 * (k - fd)).toNat)) tx)))))) := ⟨_, rfl⟩
    refine r_ps e5.symm ?_
    have g1 : S5.1 (x + 129) = some (rO (x + 129) (fd + 20) en at' er ea) := by rw [e5]; exact ps_ne (by omega) ps_same
    have g2 : S5.1 (x + 129 + 1) = some (cB 600 (mix (fd + 16) (fd + 20) (fun k => sbI (v4 / 2 ^ (24 - 8 * (k - (fd + 16))).toNat)) (mix (fd + 12) (fd + 16) (fun k => sbI (v3 / 2 ^ (24 - 8 * (k - (fd + 12))).toNat)) (mix (fd + 8) (fd + 12) (fun k => sbI (v2 / 2 ^ (24 - 8 * (k - (fd + 8))).toNat)) (mix (fd + 4) (fd + 8) (fun k => sbI (v1 / 2 ^ (24 - 8 * (k - (fd + 4))).toNat)) (mix fd (fd + 4) (fun k => sbI (v0 / 2 ^ (24 - 8 * (k - fd)).toNat)) tx)))))) := by rw [e5]; exact ps_same
    have g3 : ∀ z : Nat, z ≠ x + 129 → z ≠ x + 130 → S5.1 z = S.1 z := fun z z1 z2 => by rw [e5, ← f3 z z1 z2]; exact ps_ne (by omega) (ps_ne (by omega) rfl)
    have g4 : S5.2 = S.2 := by rw [e5, ← f4]; rfl
    have hx5 : S5.1 x = some (xO x) := by rw [g3 x (by omega) (by omega)]; exact hx
    refine r_aload_n dX9_feed_62 (i := 0) rfl rfl (r_get dX9_feed_63 fl_X9_26 hx5 rfl (r_get dX9_feed_66 fl_X9_66 g1 rfl (r_iret dX9_feed_69 rfl rfl ?_)))
    have eT : mix (fd + 16) (fd + 20) (fun k => sbI (v4 / 2 ^ (24 - 8 * (k - (fd + 16))).toNat)) (mix (fd + 12) (fd + 16) (fun k => sbI (v3 / 2 ^ (24 - 8 * (k - (fd + 12))).toNat)) (mix (fd + 8) (fd + 12) (fun k => sbI (v2 / 2 ^ (24 - 8 * (k - (fd + 8))).toNat)) (mix (fd + 4) (fd + 8) (fun k => sbI (v1 / 2 ^ (24 - 8 * (k - (fd + 4))).toNat)) (mix fd (fd + 4) (fun k => sbI (v0 / 2 ^ (24 - 8 * (k - fd)).toNat)) tx)))) = fdT fd v0 v1 v2 v3 v4 tx := by
      funext k
      unfold fdT fdV
      by_cases q5 : fd + 16 ≤ k ∧ k < fd + 20
      · rw [mix_in q5, if_pos (by omega), if_neg (by omega), if_neg (by omega), if_neg (by omega), if_neg (by omega), show (k - fd) % 4 = k - (fd + 16) by omega]
      · rw [mix_out (by omega)]
        by_cases q4 : fd + 12 ≤ k ∧ k < fd + 16
        · rw [mix_in q4, if_pos (by omega), if_neg (by omega), if_neg (by omega), if_neg (by omega), if_pos (by omega), show (k - fd) % 4 = k - (fd + 12) by omega]
        · rw [mix_out (by omega)]
          by_cases q3 : fd + 8 ≤ k ∧ k < fd + 12
          · rw [mix_in q3, if_pos (by omega), if_neg (by omega), if_neg (by omega), if_pos (by omega), show (k - fd) % 4 = k - (fd + 8) by omega]
          · rw [mix_out (by omega)]
            by_cases q2 : fd + 4 ≤ k ∧ k < fd + 8
            · rw [mix_in q2, if_pos (by omega), if_neg (by omega), if_pos (by omega), show (k - fd) % 4 = k - (fd + 4) by omega]
            · rw [mix_out (by omega)]
              by_cases q1 : fd ≤ k ∧ k < fd + 4
              · rw [mix_in q1, if_pos (by omega), if_pos (by omega), show (k - fd) % 4 = k - fd by omega]
              · rw [mix_out (by omega), if_neg (by omega)]
    rw [eT] at g2
    have hE : Ext F S S5 := fun z hz c hc0 => by
      rw [g3 z (by omega) (by omega)]
      exact hc0
    obtain ⟨-, -, q2, ⟨q3, q4⟩, -, q6, q7, q8⟩ := hC
    exact Out.ok (by rw [if_neg (by omega)]) rfl ⟨⟨hF, hx5, q2.frame hE (fun z z1 z2 => g3 z (by omega) (by omega)), ⟨q3.frame hE (fun z z1 z2 => g3 z (by omega) (by omega)), q4⟩, ⟨⟨en, at', er, g1⟩, g2, af, r3.frame hE (fun z z1 z2 => g3 z (by omega) (by omega))⟩, q6.frame (fun z z1 z2 => g3 z (by omega) (by omega)), q7.frame (fun z z1 z2 => g3 z (by omega) (by omega)), q8.frame (fun z z1 z2 => g3 z (by omega) (by omega))⟩, fun z c hz hc0 => by rw [g3 z (by omega) (by omega)]; exact hc0, by rw [g4]; exact Nat.le_refl _⟩
  · replace c1 := b2i_eq c1
    refine r_throwS th_state (List.mem_of_getElem? (i := 0) rfl) rfl dX9_feed_10 dX9_feed_13 dX9_feed_14 dX9_feed_16 dX9_feed_19 (Nat.le_of_ble_eq_true rfl) (Nat.le_of_ble_eq_true rfl) (by omega) (by omega) (fun z hz => ?_)
    exact Out.th 0 (by rw [if_pos (by omega)]; rfl) rfl ⟨rfl, rfl, hz⟩
end FEED

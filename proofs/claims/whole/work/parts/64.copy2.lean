/-! the class: Bench's copy -/
def FrB (b : Nat) (S S' : PS) : Prop := (∀ z : Nat, z < b ∨ b + 14 ≤ z → S'.1 z = S.1 z) ∧ S'.2 = S.2
theorem FrB.ext {b F : Nat} {S S' : PS} (h : FrB b S S') (hF : b + 14 ≤ F) : Ext F S S' := fun z hz c hc => by
  rw [h.1 z (by omega)]
  exact hc
theorem FrB.bn {b b' F : Nat} {S S' : PS} {a : Int → Int} (h : FrB b S S') (hF : b + 14 ≤ F) (hne : b + 13 < b' ∨ b' + 13 < b) (hb : BnAt S b' F a) : BnAt S' b' F a := hb.frame (h.ext hF) (fun z z1 z2 => h.1 z (by omega))
/-- i slots are copied -/
def CpI (S0 S : PS) (b F : Nat) (a : Int → Int) (w : Int → Nat) (r : Int → Option Nat) (i : Int) : Prop := FrB b S0 S ∧ S.1 b = some (bO b (a 0)) ∧ S.1 (b + 1) = some (cR 6 6 r) ∧ S.1 (b + 2) = some (cR 5 4 (fun s => some (b + 6 + 2 * w s))) ∧ (∃ (fc c kd st ln md : Int) (vf : Int → Int) (pf : Int → Option Nat), S.1 (b + 3) = some (pO b fc c kd st ln md) ∧ S.1 (b + 4) = some (cJ 64 vf) ∧ S.1 (b + 5) = some (cR 6 6 pf)) ∧ ∀ s : Int, 0 ≤ s → s < 4 → ∃ (c : Int) (f : Int → Int), SeqAt S (b + 6 + 2 * w s) c f ∧ (s < i → c = a (7 + s) ∧ ∀ k : Int, 0 ≤ k → k < c → f k = a (11 + 32 * s + k))
section COPY2
variable {g : GT} {mc ms : Nat} {Q : PO → PS → Prop} {kc ks : Nat} {b b' F : Nat} {a a' : Int → Int}
theorem l_cpB {S0 : PS} {w : Int → Nat} {r : Int → Option Nat} (hF : b + 14 ≤ F) (hne : b + 13 < b' ∨ b' + 13 < b) (hw : ∀ s : Int, 0 ≤ s → s < 4 → w s < 4) (hwi : ∀ s t : Int, 0 ≤ s → s < 4 → 0 ≤ t → t < 4 → w s = w t → s = t) (ho : BnAt S0 b' F a) (hk : ∀ S, CpI S0 S b F a w r 4 → PW g cX0_copyFrom (iX0_copyFrom mc ms) 47 [(0, some (.ref b)), (1, some (.ref b'))] [] S kc ks Q) : ∀ (n i : Nat), i + n = 4 → ∀ S, CpI S0 S b F a w r (i : Int) →
    PW g cX0_copyFrom (iX0_copyFrom mc ms) 21 [(0, some (.ref b)), (1, some (.ref b')), (2, some (vi (i : Int)))] [] S kc ks Q := by
  intro n
  induction n with
  | zero =>
    intro i hi S hS
    have e : i = 4 := by omega
    subst e
    refine r_iload_n dX0_copyFrom_21 (i := 2) rfl rfl (r_iconst dX0_copyFrom_22 ?_)
    refine r_icmp_ge 47 dX0_copyFrom_23 (by decide) (by omega) (by omega) (fun c1 => ?_) (fun c1 => ?_)
    · exact r_loc [(0, some (.ref b)), (1, some (.ref b'))] ⟨Or.inl rfl, Or.inl rfl, trivial⟩ (hk S hS)
    · omega
  | succ n ih =>
    intro i hi S hS
    obtain ⟨i1, i2, i3, i4, ⟨fc, c, kd, st, ln, md, vf, pf, i5, i6, i7⟩, i8⟩ := hS
    obtain ⟨-, ⟨w', u1, u2, hu3, u4⟩, -⟩ := i1.bn hF hne ho
    obtain ⟨c0, f0, s1, s2⟩ := i8 i (by omega) (by omega)
    obtain ⟨f', t1, t2⟩ := u4 i (by omega) (by omega)
    have hwi1 := hw i (by omega) (by omega)
    have hwi2 := u1 i (by omega) (by omega)
    have hob : S.1 b' = some (bO b' (a 0)) := by
      rw [i1.1 b' (by omega)]
      exact ho.1.1
    refine r_iload_n dX0_copyFrom_21 (i := 2) rfl rfl (r_iconst dX0_copyFrom_22 ?_)
    refine r_icmp_ge 47 dX0_copyFrom_23 (by decide) (by omega) (by omega) (fun c1 => ?_) (fun c1 => ?_)
    · omega
    · refine r_aload_n dX0_copyFrom_26 (i := 0) rfl rfl (r_get dX0_copyFrom_27 fl_X0_19 i2 rfl (r_iload_n dX0_copyFrom_30 (i := 2) rfl rfl (r_aald dX0_copyFrom_31 i4 rfl (by omega) (by omega) (by omega) rfl (r_aload_n dX0_copyFrom_32 (i := 1) rfl rfl ?_))))
      refine r_get dX0_copyFrom_33 fl_X0_19 hob rfl (r_iload_n dX0_copyFrom_36 (i := 2) rfl rfl (r_aald dX0_copyFrom_37 hu3 rfl (by omega) (by omega) (by omega) rfl (c_vn dX0_copyFrom_38 (c_X7_copyFrom s1 t1 (by omega)) rfl rfl mq_X7_copyFrom ml_X0_69 ⟨Nat.le_of_ble_eq_true rfl, Nat.le_of_ble_eq_true rfl⟩ s1.1 rfl rfl rfl (Nat.le_of_ble_eq_true rfl) (r_iinc dX0_copyFrom_41 rfl rfl ?_))))
      refine r_goto 21 dX0_copyFrom_44 (by decide) ?_
      refine r_loc [(0, some (.ref b)), (1, some (.ref b')), (2, some (vi ((i + 1 : Nat) : Int)))] ⟨Or.inl rfl, Or.inl rfl, Or.inl rfl, trivial⟩ (ih (i + 1) (by omega) _ ⟨⟨fun z hz => ?_, ?_⟩, ?_, ?_, ?_, ⟨fc, c, kd, st, ln, md, vf, pf, ?_, ?_, ?_⟩, fun s s0 s3 => ?_⟩)
      · rw [ps_seq_ne (by omega) (by omega)]
        exact i1.1 z hz
      · rw [ps_seq_sz]
        exact i1.2
      · rw [ps_seq_ne (by omega) (by omega)]
        exact i2
      · rw [ps_seq_ne (by omega) (by omega)]
        exact i3
      · rw [ps_seq_ne (by omega) (by omega)]
        exact i4
      · rw [ps_seq_ne (by omega) (by omega)]
        exact i5
      · rw [ps_seq_ne (by omega) (by omega)]
        exact i6
      · rw [ps_seq_ne (by omega) (by omega)]
        exact i7
      · by_cases e : s = i
        · subst e
          exact ⟨_, _, SeqAt.seq, fun _ => ⟨rfl, t2⟩⟩
        · obtain ⟨c1, f1, ⟨g1, g2⟩, g3⟩ := i8 s s0 s3
          have hwn : w s ≠ w i := fun z => e (hwi s i s0 s3 (by omega) (by omega) z)
          refine ⟨c1, f1, ⟨?_, ?_⟩, fun z => g3 (by omega)⟩
          · rw [ps_seq_ne (by omega) (by omega)]
            exact g1
          · rw [ps_seq_ne (by omega) (by omega)]
            exact g2
/-- a bench becomes as another one -/
theorem c_X0_copyFrom {S : PS} (hF : b + 14 ≤ F) (hne : b + 13 < b' ∨ b' + 13 < b) (hb : BnAt S b F a') (ho : BnAt S b' F a) : PC g yX0_copyFrom cX0_copyFrom (iX0_copyFrom mc ms) [.ref b, .ref b'] S (fun o S' => o = .inl none ∧ FrB b S S' ∧ BnAt S' b F a) := by
  refine PC_of pnX0 rfl rfl rfl (Nat.le_of_ble_eq_true rfl) ?_
  obtain ⟨⟨h1, r, h2, h3, h4⟩, ⟨w, w1, w2, w3, w4⟩, ⟨fc, c, kd, st, ln, md, vf, pf, p1, p2, p3, p4, p5, p6⟩⟩ := hb
  obtain ⟨k1, r', k2, k3, k4⟩ := ho.1
  have hel : ∀ i : Nat, i < 6 → ∀ y : Nat, r' i = some y → ∃ fs, (ps_put S b (bO b (a 0))).1 y = some (cO 1 fs) := fun i hi y hy => by
    obtain ⟨y1, fs, y2⟩ := k3 i hi y hy
    exact ⟨fs, ps_ne (by omega) y2⟩
  refine r_aload_n dX0_copyFrom_0 (i := 0) rfl rfl (r_aload_n dX0_copyFrom_1 (i := 1) rfl rfl (r_get dX0_copyFrom_2 fl_X0_36 k1 rfl (r_put dX0_copyFrom_5 fl_X0_36 h1 rfl rfl (Nat.le_of_ble_eq_true rfl) ?_)))
  refine r_aload_n dX0_copyFrom_8 (i := 1) rfl rfl (r_get dX0_copyFrom_9 fl_X0_11 (ps_ne (by omega) k1) rfl (r_aload_n dX0_copyFrom_12 (i := 0) rfl rfl (r_get dX0_copyFrom_13 fl_X0_11 ps_same rfl ?_)))
  refine c_snN dX0_copyFrom_16 (c_X9_copyFields (ps_ne (by omega) k2) (ps_ne (by omega) h2) (by omega) hel) rfl rfl mq_X9_copyFields ml_X0_65 ⟨Nat.le_of_ble_eq_true rfl, Nat.le_of_ble_eq_true rfl⟩ rfl rfl (Nat.le_of_ble_eq_true rfl) (r_iconst dX0_copyFrom_19 (r_istore_n dX0_copyFrom_20 (i := 2) rfl rfl (Nat.le_of_ble_eq_true rfl) ?_))
  refine r_loc [(0, some (.ref b)), (1, some (.ref b')), (2, some (vi ((0 : Nat) : Int)))] ⟨Or.inl rfl, Or.inl rfl, Or.inl rfl, trivial⟩ (l_cpB (S0 := S) (r := r') hF hne w1 w2 ho (fun S1 hS1 => ?_) 4 0 rfl _ ⟨⟨fun z hz => ps_ne (by omega) (ps_ne (by omega) rfl), rfl⟩, ps_ne (by omega) ps_same, ps_same, ps_ne (by omega) (ps_ne (by omega) w3), ⟨fc, c, kd, st, ln, md, vf, pf, ps_ne (by omega) (ps_ne (by omega) p1), ps_ne (by omega) (ps_ne (by omega) p2), ps_ne (by omega) (ps_ne (by omega) p3)⟩, fun s s0 s1 => ?_⟩)
  · obtain ⟨i1, i2, i3, i4, ⟨fc1, c1, kd1, st1, ln1, md1, vf1, pf1, i5, i6, i7⟩, i8⟩ := hS1
    have ho1 := i1.bn hF hne ho
    have hext := i1.ext hF
    obtain ⟨fc2, c2, kd2, st2, ln2, md2, vf2, pf2, q1, q2, q3, q4, q5, q6⟩ := ho1.2.2
    have hel2 : ∀ i : Nat, i < 6 → ∀ y : Nat, pf2 i = some y → y ≠ b + 3 ∧ y ≠ b + 4 ∧ ∃ fs, S1.1 y = some (cO 1 fs) := fun i hi y hy => by
      obtain ⟨y1, fs, y2⟩ := q4 i hi y hy
      exact ⟨by omega, by omega, fs, y2⟩
    refine r_aload_n dX0_copyFrom_47 (i := 0) rfl rfl (r_get dX0_copyFrom_48 fl_X0_26 i2 rfl (r_aload_n dX0_copyFrom_51 (i := 1) rfl rfl (r_get dX0_copyFrom_52 fl_X0_26 ho1.1.1 rfl ?_)))
    refine c_vn dX0_copyFrom_55 (c_X6_copyFrom hne i5 i6 i7 q1 q2 q3 hel2) rfl rfl mq_X6_copyFrom ml_X0_73 ⟨Nat.le_of_ble_eq_true rfl, Nat.le_of_ble_eq_true rfl⟩ i5 rfl rfl rfl (Nat.le_of_ble_eq_true rfl) (r_vret dX0_copyFrom_58 rfl ?_)
    have hE2 : ∀ z : Nat, z < b + 3 ∨ b + 6 ≤ z → (ps_put (ps_put (ps_put S1 (b + 3) (pO b fc2 c2 kd2 st2 ln2 md2)) (b + 4) (cJ 64 vf2)) (b + 5) (cR 6 6 pf2)).1 z = S1.1 z := fun z hz => ps_ne (by omega) (ps_ne (by omega) (ps_ne (by omega) rfl))
    have hE3 : Ext F S1 (ps_put (ps_put (ps_put S1 (b + 3) (pO b fc2 c2 kd2 st2 ln2 md2)) (b + 4) (cJ 64 vf2)) (b + 5) (cR 6 6 pf2)) := fun z hz c hc => by
      rw [hE2 z (by omega)]
      exact hc
    refine ⟨rfl, ⟨fun z hz => by rw [hE2 z (by omega)]; exact i1.1 z hz, i1.2⟩, ⟨?_, r', ?_, hE3.fra (hext.fra k3), fun k k0 k9 => ?_⟩, ⟨w, w1, w2, ?_, fun s s0 s1 => ?_⟩, fc2, c2, kd2, st2, ln2, md2, vf2, pf2, ps_ne (by omega) (ps_ne (by omega) ps_same), ps_ne (by omega) ps_same, ps_same, hE3.fra q4, q5, fun h139 => ?_⟩
    · rw [hE2 b (by omega)]
      exact i2
    · rw [hE2 _ (by omega)]
      exact i3
    · obtain ⟨q, z1, z2, z3⟩ := k4 k k0 k9
      exact ⟨q, z1, z2, hE3.fld z2 (hext.fld z2 z3)⟩
    · rw [hE2 _ (by omega)]
      exact i4
    · obtain ⟨c5, f5, ⟨g1, g2⟩, g3⟩ := i8 s s0 s1
      have hws := w1 s s0 s1
      obtain ⟨rfl, g4⟩ := g3 (by omega)
      refine ⟨f5, ⟨?_, ?_⟩, g4⟩
      · rw [hE2 _ (by omega)]
        exact g1
      · rw [hE2 _ (by omega)]
        exact g2
    · obtain ⟨e1, e2, e3, e4, e5, e6, e7⟩ := q6 h139
      refine ⟨e1, e2, e3, e4, e5, e6, fun i i0 i9 => ?_⟩
      obtain ⟨q, z1, z2, z3⟩ := e7 i i0 i9
      exact ⟨q, z1, z2, hE3.fld z2 z3⟩
  · have hws := w1 s s0 s1
    obtain ⟨f, ⟨g1, g2⟩, g3⟩ := w4 s s0 s1
    exact ⟨_, _, ⟨ps_ne (by omega) (ps_ne (by omega) g1), ps_ne (by omega) (ps_ne (by omega) g2)⟩, fun z => by omega⟩
end COPY2

/-! the constructors: Product, Bench -/
/-- from q on n cells more; what lay before stays -/
def GR (S S' : PS) (q n : Nat) : Prop := (∀ z : Nat, z < q → S'.1 z = S.1 z) ∧ S'.2 = q + n
theorem fra_none {S : PS} {F : Nat} : FrA S F (fun _ => none) := fun i hi y hy => absurd (show (none : Option Nat) = some y from hy) (fun z => by cases z)
section CTOR
variable {g : GT} {S : PS} {mc ms : Nat} {Q : PO → PS → Prop} {kc ks : Nat} {q b : Nat}
theorem pn_at {S : PS} {a : Nat} {e : PE} (h : S.2 = a) : (ps_new S e).1 a = some e := by
  rw [← h]
  exact pn_same
theorem c_X6_init (h : S.1 q = some (cO 6 [.null, .null, vi 0, vi 0, vi 0, vi 0, vi 0, vl 0])) (hs : S.2 = q + 1) (hm : 2 ≤ mc) (hm2 : 70 ≤ ms) : PC g yX6_init cX6_init (iX6_init mc ms) [.ref q] S (fun o S' => o = .inl none ∧ GR S S' q 3 ∧ S'.1 q = some (cO 6 [.ref (q + 1), .ref (q + 2), vi 0, vi 0, vi 0, vi 0, vi 0, vl 1]) ∧ S'.1 (q + 1) = some (cJ 64 (fun _ => 0)) ∧ S'.1 (q + 2) = some (cR 6 6 (fun _ => none))) := by
  refine PC_of pnX6 rfl rfl rfl (Nat.le_of_ble_eq_true rfl) ?_
  refine r_bud (kc' := 0 + 1 + 1) (ks' := 0 + 6 + 64) (by show 2 ≤ mc; omega) (by show 70 ≤ ms; omega) ?_
  refine r_aload_n dX6_init_0 (i := 0) rfl rfl (r_objInit dX6_init_1 ob_X6_3 w_objI w_objC (Nat.le_of_ble_eq_true rfl) (Nat.le_of_ble_eq_true rfl) (r_aload_n dX6_init_4 (i := 0) rfl rfl (r_bipush dX6_init_5 (by decide) (r_newJ (N := 64) dX6_init_7 w_ar_long (by decide) (fun _ => ?_)))))
  have h1 : (ps_new S (cJ 64 (fun _ => 0))).1 q = some (cO 6 [.null, .null, vi 0, vi 0, vi 0, vi 0, vi 0, vl 0]) := pn_ne (by omega) h
  have h2 : (ps_new S (cJ 64 (fun _ => 0))).1 (q + 1) = some (cJ 64 (fun _ => 0)) := pn_at hs
  rw [show S.2 = q + 1 from hs]
  obtain ⟨S1, e1⟩ : ∃ S1, S1 = ps_new S (cJ 64 (fun _ => 0)) := ⟨_, rfl⟩
  rw [← e1] at h1 h2 ⊢
  have z1 : S1.2 = q + 2 := by rw [e1]; show S.2 + 1 = _; omega
  have n1 : ∀ z : Nat, z < q → S1.1 z = S.1 z := fun z hz => by rw [e1]; exact pn_ne (by omega) rfl
  refine r_putF dX6_init_9 flf_X6_9 rfl h1 rfl rfl (Nat.le_of_ble_eq_true rfl) ?_
  refine r_aload_n dX6_init_12 (i := 0) rfl rfl (r_bipush dX6_init_13 (by decide) ?_)
  obtain ⟨S2, e2⟩ : ∃ S2, S2 = ps_put S1 q (cO 6 [.ref (q + 1), .null, vi 0, vi 0, vi 0, vi 0, vi 0, vl 0]) := ⟨_, rfl⟩
  refine r_ps (S' := S2) e2.symm ?_
  have g1 : S2.1 q = some (cO 6 [.ref (q + 1), .null, vi 0, vi 0, vi 0, vi 0, vi 0, vl 0]) := by rw [e2]; exact ps_same
  have g2 : S2.1 (q + 1) = some (cJ 64 (fun _ => 0)) := by rw [e2]; exact ps_ne (by omega) h2
  have z2 : S2.2 = q + 2 := by rw [e2]; exact z1
  have n2 : ∀ z : Nat, z < q → S2.1 z = S.1 z := fun z hz => by rw [e2, ← n1 z hz]; exact ps_ne (by omega) rfl
  refine r_newq (t := 6) (N := 6) dX6_init_15 rfl cl_X6_15 w_ao_1 (by decide) (fun _ => ?_)
  rw [z2]
  refine r_putF dX6_init_18 flf_X6_17 rfl (pn_ne (by omega) g1) rfl rfl (Nat.le_of_ble_eq_true rfl) ?_
  refine r_aload_n dX6_init_21 (i := 0) rfl rfl (r_lconst (z := 1) dX6_init_22 (by decide) (r_put dX6_init_23 fl_X6_21 ps_same rfl rfl (Nat.le_of_ble_eq_true rfl) (r_vret dX6_init_26 rfl ?_)))
  rw [ps_put_put]
  exact ⟨rfl, ⟨fun z hz => by rw [← n2 z hz]; exact ps_ne (by omega) (pn_ne (by omega) rfl), by show S2.2 + 1 = _; omega⟩, ps_same, ps_ne (by omega) (pn_ne (by omega) g2), ps_ne (by omega) (pn_at z2)⟩
/-- a bench under way: i of its sequences are made -/
def BnI (S0 S : PS) (b : Nat) (i : Nat) : Prop := (∀ z : Nat, z < b → S.1 z = S0.1 z) ∧ S.2 = b + 6 + 2 * i ∧ S.1 b = some (bO b 0) ∧ S.1 (b + 1) = some (cR 6 6 (fun _ => none)) ∧ (∃ f : Int → Option Nat, S.1 (b + 2) = some (cR 5 4 f) ∧ ∀ s : Int, 0 ≤ s → s < i → f s = some (b + 6 + 2 * s.toNat)) ∧ S.1 (b + 3) = some (pO b 0 0 0 0 0 1) ∧ S.1 (b + 4) = some (cJ 64 (fun _ => 0)) ∧ S.1 (b + 5) = some (cR 6 6 (fun _ => none)) ∧ ∀ s : Int, 0 ≤ s → s < i → SeqAt S (b + 6 + 2 * s.toNat) 0 (fun _ => 0)
theorem l_bnI {S0 : PS} (hQ : ∀ S, BnI S0 S b 4 → PW g cX0_init (iX0_init mc ms) 58 [(0, some (.ref b))] [] S 0 0 Q) : ∀ (n i : Nat), i + n = 4 → ∀ S, BnI S0 S b i →
    PW g cX0_init (iX0_init mc ms) 34 [(0, some (.ref b)), (1, some (vi (i : Int)))] [] S (2 * n) (34 * n) Q := by
  intro n
  induction n with
  | zero =>
    intro i hi S hS
    have e : i = 4 := by omega
    subst e
    refine r_iload_n dX0_init_34 (i := 1) rfl rfl (r_iconst dX0_init_35 ?_)
    refine r_icmp_ge 58 dX0_init_36 (by decide) (by omega) (by omega) (fun c1 => ?_) (fun c1 => ?_)
    · exact r_loc [(0, some (.ref b))] ⟨Or.inl rfl, trivial⟩ (hQ S hS)
    · omega
  | succ n ih =>
    intro i hi S hS
    obtain ⟨h1, h2, h3, h4, ⟨f, h5, h6⟩, h7, h8, h9, h10⟩ := hS
    refine r_bud (kc' := 2 * n + 1 + 1) (ks' := 34 * n + 32 + 2) (by omega) (by omega) ?_
    refine r_iload_n dX0_init_34 (i := 1) rfl rfl (r_iconst dX0_init_35 ?_)
    refine r_icmp_ge 58 dX0_init_36 (by decide) (by omega) (by omega) (fun c1 => ?_) (fun c1 => ?_)
    · omega
    · refine r_aload_n dX0_init_39 (i := 0) rfl rfl (r_get dX0_init_40 fl_X0_19 h3 rfl (r_iload_n dX0_init_43 (i := 1) rfl rfl ?_))
      refine r_new dX0_init_44 nl_X0_17 (fun _ => ?_)
      show PW g _ _ 47 _ [.ref S.2, vi (i : Int), .ref (b + 2)] _ _ _ _
      refine r_dup dX0_init_47 rfl ?_
      refine r_invIN dX0_init_48 (c_X7_init (mc := 1) (ms := 32) (s := S.2) pn_same rfl (by omega) (by omega)) (fun E S' h => by simp at h) mq_X7_init rfl ml_X0_30 ⟨Nat.le_of_ble_eq_true rfl, Nat.le_of_ble_eq_true rfl⟩ rfl rfl (Nat.le_of_ble_eq_true rfl) (kc' := (2*n)) (ks' := (34*n)) (by show 1 + _ ≤ _; omega) (by show 32 + _ ≤ _; omega) (fun v S' hc => ?_)
      obtain ⟨e1, e2⟩ := hc
      cases e1
      show PW g _ _ 51 _ [.ref S.2, vi (i : Int), .ref (b + 2)] _ _ _ _
      have hx : ∀ z : Nat, z < S.2 → S'.1 z = S.1 z := fun z hz => by
        rw [e2]
        show (if z = S.2 then _ else if z = S.2 + 1 then _ else (if z = S.2 then _ else S.1 z)) = _
        rw [if_neg (by omega), if_neg (by omega), if_neg (by omega)]
      have hq1 : S'.1 S.2 = some (cO 7 [.ref (S.2 + 1), vi 0]) := by rw [e2]; exact if_pos rfl
      have hq2 : S'.1 (S.2 + 1) = some (cI 32 (fun _ => 0)) := by
        rw [e2]
        show (if S.2 + 1 = S.2 then _ else if S.2 + 1 = S.2 + 1 then _ else _) = _
        rw [if_neg (by omega), if_pos rfl]
      have hz2 : S'.2 = S.2 + 2 := by rw [e2]
      have h5' : S'.1 (b + 2) = some (cR 5 4 f) := by rw [hx _ (by omega)]; exact h5
      refine r_aast dX0_init_51 h5' rfl rfl hq1 (by omega) (by omega) (by omega) (r_iinc dX0_init_52 rfl rfl (r_goto 34 dX0_init_55 (by decide) ?_))
      refine r_loc [(0, some (.ref b)), (1, some (vi ((i + 1 : Nat) : Int)))] ⟨Or.inl rfl, Or.inl rfl, trivial⟩ (ih (i + 1) (by omega) _ ⟨fun z hz => ?_, ?_, ?_, ?_, ⟨_, ps_same, fun s s0 s1 => ?_⟩, ?_, ?_, ?_, fun s s0 s1 => ?_⟩)
      · rw [ps_ne (by omega) (hx z (by omega))]
        exact h1 z hz
      · show S'.2 = _
        omega
      · rw [ps_ne (by omega) (hx b (by omega))]
        exact h3
      · rw [ps_ne (by omega) (hx (b + 1) (by omega))]
        exact h4
      · unfold upR
        by_cases e : s = (i : Int)
        · rw [if_pos e, e, Int.toNat_natCast, h2]
        · rw [if_neg e]
          exact h6 s s0 (by omega)
      · rw [ps_ne (by omega) (hx (b + 3) (by omega))]
        exact h7
      · rw [ps_ne (by omega) (hx (b + 4) (by omega))]
        exact h8
      · rw [ps_ne (by omega) (hx (b + 5) (by omega))]
        exact h9
      · by_cases e : s = (i : Int)
        · rw [e, Int.toNat_natCast, ← h2]
          exact ⟨ps_ne (by omega) hq1, ps_ne (by omega) hq2⟩
        · obtain ⟨t1, t2⟩ := h10 s s0 (by omega)
          exact ⟨ps_ne (by omega) (by rw [hx _ (by omega)]; exact t1), ps_ne (by omega) (by rw [hx _ (by omega)]; exact t2)⟩
theorem c_X0_init {F : Nat} (h : S.1 b = some (cO 0 [.null, .null, .null, vi 0])) (hs : S.2 = b + 1) (hm : 13 ≤ mc) (hm2 : 224 ≤ ms) : PC g yX0_init cX0_init (iX0_init mc ms) [.ref b] S (fun o S' => o = .inl none ∧ GR S S' b 14 ∧ BnAt S' b F (fun _ => 0)) := by
  refine PC_of pnX0 rfl rfl rfl (Nat.le_of_ble_eq_true rfl) ?_
  refine r_bud (kc' := 8 + 2 + 1 + 1 + 1) (ks' := 136 + 70 + 8 + 4 + 6) (by show 13 ≤ mc; omega) (by show 224 ≤ ms; omega) ?_
  refine r_aload_n dX0_init_0 (i := 0) rfl rfl (r_objInit dX0_init_1 ob_X0_3 w_objI w_objC (Nat.le_of_ble_eq_true rfl) (Nat.le_of_ble_eq_true rfl) (r_aload_n dX0_init_4 (i := 0) rfl rfl (r_bipush dX0_init_5 (by decide) (r_newq (t := 6) (N := 6) dX0_init_7 rfl cl_X0_9 w_ao_1 (by decide) (fun _ => ?_)))))
  rw [show S.2 = b + 1 from hs]
  obtain ⟨S1, e1⟩ : ∃ S1, S1 = ps_new S (cR 6 6 (fun _ => none)) := ⟨_, rfl⟩
  have a1 : S1.1 b = some (cO 0 [.null, .null, .null, vi 0]) := by rw [e1]; exact pn_ne (by omega) h
  have a2 : S1.1 (b + 1) = some (cR 6 6 (fun _ => none)) := by rw [e1]; exact pn_at hs
  have z1 : S1.2 = b + 2 := by rw [e1]; show S.2 + 1 = _; omega
  have n1 : ∀ z : Nat, z < b → S1.1 z = S.1 z := fun z hz => by rw [e1]; exact pn_ne (by omega) rfl
  refine r_ps (S' := S1) e1.symm ?_
  refine r_putF dX0_init_10 flf_X0_11 rfl a1 rfl rfl (Nat.le_of_ble_eq_true rfl) ?_
  refine r_aload_n dX0_init_13 (i := 0) rfl rfl (r_iconst dX0_init_14 ?_)
  obtain ⟨S2, e2⟩ : ∃ S2, S2 = ps_put S1 b (cO 0 [.ref (b + 1), .null, .null, vi 0]) := ⟨_, rfl⟩
  have b1 : S2.1 b = some (cO 0 [.ref (b + 1), .null, .null, vi 0]) := by rw [e2]; exact ps_same
  have b2 : S2.1 (b + 1) = some (cR 6 6 (fun _ => none)) := by rw [e2]; exact ps_ne (by omega) a2
  have z2 : S2.2 = b + 2 := by rw [e2]; exact z1
  have n2 : ∀ z : Nat, z < b → S2.1 z = S.1 z := fun z hz => by rw [e2, ← n1 z hz]; exact ps_ne (by omega) rfl
  refine r_ps (S' := S2) e2.symm ?_
  refine r_newq (t := 5) (N := 4) dX0_init_15 rfl cl_X0_17 w_ao_7 (by decide) (fun _ => ?_)
  rw [z2]
  obtain ⟨S3, e3⟩ : ∃ S3, S3 = ps_put (ps_new S2 (cR 5 4 (fun _ => none))) b (cO 0 [.ref (b + 1), .ref (b + 2), .null, vi 0]) := ⟨_, rfl⟩
  refine r_putF dX0_init_18 flf_X0_19 rfl (pn_ne (by omega) b1) rfl rfl (Nat.le_of_ble_eq_true rfl) ?_
  refine r_aload_n dX0_init_21 (i := 0) rfl rfl ?_
  have c1 : S3.1 b = some (cO 0 [.ref (b + 1), .ref (b + 2), .null, vi 0]) := by rw [e3]; exact ps_same
  have c2 : S3.1 (b + 1) = some (cR 6 6 (fun _ => none)) := by rw [e3]; exact ps_ne (by omega) (pn_ne (by omega) b2)
  have c3 : S3.1 (b + 2) = some (cR 5 4 (fun _ => none)) := by rw [e3]; exact ps_ne (by omega) (pn_at z2)
  have z3 : S3.2 = b + 3 := by rw [e3]; show S2.2 + 1 = _; omega
  have n3 : ∀ z : Nat, z < b → S3.1 z = S.1 z := fun z hz => by rw [e3, ← n2 z hz]; exact ps_ne (by omega) (pn_ne (by omega) rfl)
  refine r_ps (S' := S3) e3.symm ?_
  refine r_bud (kc' := 10 + 1) (ks' := 206 + 8) (by omega) (by omega) ?_
  refine r_new dX0_init_22 nl_X0_23 (fun _ => ?_)
  rw [z3]
  show PW g _ _ 25 _ [.ref (b + 3), .ref b] _ _ _ _
  refine r_dup dX0_init_25 rfl ?_
  refine r_invIN dX0_init_26 (c_X6_init (mc := 2) (ms := 70) (q := b + 3) (pn_at z3) (by show S3.2 + 1 = _; omega) (by omega) (by omega)) (fun E S' h => by simp at h) mq_X6_init rfl ml_X0_25 ⟨Nat.le_of_ble_eq_true rfl, Nat.le_of_ble_eq_true rfl⟩ rfl rfl (Nat.le_of_ble_eq_true rfl) (kc' := 8) (ks' := 136) (by show 2 + _ ≤ _; omega) (by show 70 + _ ≤ _; omega) (fun v S' hc => ?_)
  obtain ⟨d1, ⟨g1, g2⟩, g3, g4, g5⟩ := hc
  cases d1
  show PW g _ _ 29 _ [.ref (b + 3), .ref b] _ _ _ _
  have k1 : S'.1 b = some (cO 0 [.ref (b + 1), .ref (b + 2), .null, vi 0]) := by rw [g1 b (by omega)]; exact pn_ne (by omega) c1
  refine r_putF dX0_init_29 flf_X0_26 rfl k1 rfl rfl (Nat.le_of_ble_eq_true rfl) ?_
  refine r_iconst dX0_init_32 (r_istore_n dX0_init_33 (i := 1) rfl rfl (Nat.le_of_ble_eq_true rfl) ?_)
  refine r_loc [(0, some (.ref b)), (1, some (vi ((0 : Nat) : Int)))] ⟨Or.inl rfl, Or.inl rfl, trivial⟩ (r_bud (kc' := 2 * 4) (ks' := 34 * 4) (by omega) (by omega) (l_bnI (S0 := S) (fun S4 h4 => ?_) 4 0 (by omega) _ ⟨fun z hz => ?_, ?_, ?_, ?_, ⟨fun _ => none, ?_, fun s s0 s1 => ?_⟩, ?_, ?_, ?_, fun s s0 s1 => ?_⟩))
  · obtain ⟨h1, h2, h3, h4, ⟨f, h5, h6⟩, h7, h8, h9, h10⟩ := h4
    refine r_R (f' := fun s => some (b + 6 + 2 * s.toNat)) h5 (fun i i0 i1 => (h6 i i0 (by omega)).symm) ?_
    refine r_vret dX0_init_58 rfl ?_
    refine ⟨rfl, ⟨fun z hz => by rw [← h1 z hz]; exact ps_ne (by omega) rfl, h2⟩, ⟨ps_ne (by omega) h3, _, ps_ne (by omega) h4, fra_none, fun k k0 k1 => absurd k1 (by show ¬ k < (0 : Int); omega)⟩, ⟨fun s => s.toNat, fun s s0 s1 => by show s.toNat < 4; omega, fun s t s0 s1 t0 t1 hst => by have : s.toNat = t.toNat := hst; omega, ps_same, fun s s0 s1 => ?_⟩, 0, 0, 0, 0, 0, 1, _, _, ps_ne (by omega) h7, ps_ne (by omega) h8, ps_ne (by omega) h9, fra_none, rfl, fun z => absurd (show (0 : Int) = 1 from z) (by decide)⟩
    obtain ⟨t1, t2⟩ := h10 s s0 (by omega)
    exact ⟨_, ⟨ps_ne (by omega) t1, ps_ne (by omega) t2⟩, fun k k0 k1 => absurd k1 (by show ¬ k < (0 : Int); omega)⟩
  · rw [ps_ne (by omega) (g1 z (by omega))]
    exact (pn_ne (by omega) (n3 z hz))
  · exact g2
  · exact ps_same
  · exact ps_ne (by omega) (by rw [g1 _ (by omega)]; exact pn_ne (by omega) c2)
  · exact ps_ne (by omega) (by rw [g1 _ (by omega)]; exact pn_ne (by omega) c3)
  · omega
  · exact ps_ne (by omega) g3
  · exact ps_ne (by omega) g4
  · exact ps_ne (by omega) g5
  · omega
end CTOR

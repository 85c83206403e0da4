/-! the law: its loop, its start -/
theorem q_and63 (y : Int32) : ∃ z : Int, (0 ≤ z ∧ z < 64) ∧ y &&& Int32.ofInt 63 = Int32.ofInt z := by
  refine ⟨(y &&& Int32.ofInt 63).toInt, ?_, (q_asI _).symm⟩
  have h : (y &&& Int32.ofInt 63).toInt = (y.toBitVec &&& 63#32).toInt := rfl
  have h1 : (y.toBitVec &&& 63#32).toNat ≤ 63 := by
    rw [BitVec.toNat_and]
    exact Nat.le_trans Nat.and_le_right (by decide)
  rw [h, BitVec.toInt_eq_toNat_of_lt (by omega)]
  omega
def LQ : PO → PS → Prop := fun o _ => o = .inl (some (vi 1))
section LAWLP
variable {g : GT} {nm : String} {hh : List (Nat × Nat × Nat × Nat)} {x b n : Nat} {xs : Nat → Int32}
/-- one round of the loop, from the script's int to the step -/
theorem l_case {S : PS} {kc ks : Nat} {Q : PO → PS → Prop} {i : Int} (hTB : TxtB g) (hTL : TxtL g) (hS : SJ g b n xs) (h0 : 0 ≤ i) (hi : i + 6 ≤ n) (hW : WJ S x) (kk : ∀ S' : PS, WJ S' x → PW g cL_law (iL_law nm hh) 2986 (lL b x i) [] S' kc ks Q) : PW g cL_law (iL_law nm hh) 33 (lL b x i) [] S (kc + 12) (ks + 60) Q := by
  obtain ⟨z, ⟨z0, z1⟩, hz⟩ := q_and63 (Int32.ofInt (sA xs i))
  refine r_aload_n dL_law_33 (i := 0) rfl rfl (r_iload dL_law_34 rfl (r_sldv hS dL_law_36 h0 (by omega) (r_bipush dL_law_37 (by decide) (r_iand z dL_law_39 hz ?_))))
  clear hz
  by_cases e : z = 0
  · subst e
    exact r_tableIn 216 dL_law_40 (by decide) (by decide) (by decide) rfl (by decide) (K_feed hS h0 hi hW kk)
  replace z0 : 1 ≤ z := by omega
  clear e
  by_cases e : z = 1
  · subst e
    exact r_tableIn 320 dL_law_40 (by decide) (by decide) (by decide) rfl (by decide) (K_load hTB hTL hS h0 hi hW kk)
  replace z0 : 2 ≤ z := by omega
  clear e
  by_cases e : z = 2
  · subst e
    exact r_tableIn 376 dL_law_40 (by decide) (by decide) (by decide) rfl (by decide) (K_errorPosition hW kk)
  replace z0 : 3 ≤ z := by omega
  clear e
  by_cases e : z = 3
  · subst e
    exact r_tableIn 389 dL_law_40 (by decide) (by decide) (by decide) rfl (by decide) (K_primes hW kk)
  replace z0 : 4 ≤ z := by omega
  clear e
  by_cases e : z = 4
  · subst e
    exact r_tableIn 402 dL_law_40 (by decide) (by decide) (by decide) rfl (by decide) (K_addPrime hS h0 hi hW kk)
  replace z0 : 5 ≤ z := by omega
  clear e
  by_cases e : z = 5
  · subst e
    exact r_tableIn 458 dL_law_40 (by decide) (by decide) (by decide) rfl (by decide) (K_removePrime hS h0 hi hW kk)
  replace z0 : 6 ≤ z := by omega
  clear e
  by_cases e : z = 6
  · subst e
    exact r_tableIn 514 dL_law_40 (by decide) (by decide) (by decide) rfl (by decide) (K_prime hS h0 hi hW kk)
  replace z0 : 7 ≤ z := by omega
  clear e
  by_cases e : z = 7
  · subst e
    exact r_tableIn 582 dL_law_40 (by decide) (by decide) (by decide) rfl (by decide) (K_root hS h0 hi hW kk)
  replace z0 : 8 ≤ z := by omega
  clear e
  by_cases e : z = 8
  · subst e
    exact r_tableIn 650 dL_law_40 (by decide) (by decide) (by decide) rfl (by decide) (K_power hS h0 hi hW kk)
  replace z0 : 9 ≤ z := by omega
  clear e
  by_cases e : z = 9
  · subst e
    exact r_tableIn 730 dL_law_40 (by decide) (by decide) (by decide) rfl (by decide) (K_inverse hS h0 hi hW kk)
  replace z0 : 10 ≤ z := by omega
  clear e
  by_cases e : z = 10
  · subst e
    exact r_tableIn 798 dL_law_40 (by decide) (by decide) (by decide) rfl (by decide) (K_order hS h0 hi hW kk)
  replace z0 : 11 ≤ z := by omega
  clear e
  by_cases e : z = 11
  · subst e
    exact r_tableIn 866 dL_law_40 (by decide) (by decide) (by decide) rfl (by decide) (K_logarithm hS h0 hi hW kk)
  replace z0 : 12 ≤ z := by omega
  clear e
  by_cases e : z = 12
  · subst e
    exact r_tableIn 934 dL_law_40 (by decide) (by decide) (by decide) rfl (by decide) (K_primeFor hS h0 hi hW kk)
  replace z0 : 13 ≤ z := by omega
  clear e
  by_cases e : z = 13
  · subst e
    exact r_tableIn 1002 dL_law_40 (by decide) (by decide) (by decide) rfl (by decide) (K_usable hS h0 hi hW kk)
  replace z0 : 14 ≤ z := by omega
  clear e
  by_cases e : z = 14
  · subst e
    exact r_tableIn 1070 dL_law_40 (by decide) (by decide) (by decide) rfl (by decide) (K_length hS h0 hi hW kk)
  replace z0 : 15 ≤ z := by omega
  clear e
  by_cases e : z = 15
  · subst e
    exact r_tableIn 1126 dL_law_40 (by decide) (by decide) (by decide) rfl (by decide) (K_term hS h0 hi hW kk)
  replace z0 : 16 ≤ z := by omega
  clear e
  by_cases e : z = 16
  · subst e
    exact r_tableIn 1194 dL_law_40 (by decide) (by decide) (by decide) rfl (by decide) (K_setSequence hS h0 hi hW kk)
  replace z0 : 17 ≤ z := by omega
  clear e
  by_cases e : z = 17
  · subst e
    exact r_tableIn 1286 dL_law_40 (by decide) (by decide) (by decide) rfl (by decide) (K_append hS h0 hi hW kk)
  replace z0 : 18 ≤ z := by omega
  clear e
  by_cases e : z = 18
  · subst e
    exact r_tableIn 1354 dL_law_40 (by decide) (by decide) (by decide) rfl (by decide) (K_cut hS h0 hi hW kk)
  replace z0 : 19 ≤ z := by omega
  clear e
  by_cases e : z = 19
  · subst e
    exact r_tableIn 1422 dL_law_40 (by decide) (by decide) (by decide) rfl (by decide) (K_swap hS h0 hi hW kk)
  replace z0 : 20 ≤ z := by omega
  clear e
  by_cases e : z = 20
  · subst e
    exact r_tableIn 1490 dL_law_40 (by decide) (by decide) (by decide) rfl (by decide) (K_transform hS h0 hi hW kk)
  replace z0 : 21 ≤ z := by omega
  clear e
  by_cases e : z = 21
  · subst e
    exact r_tableIn 1582 dL_law_40 (by decide) (by decide) (by decide) rfl (by decide) (K_cost hS h0 hi hW kk)
  replace z0 : 22 ≤ z := by omega
  clear e
  by_cases e : z = 22
  · subst e
    exact r_tableIn 1662 dL_law_40 (by decide) (by decide) (by decide) rfl (by decide) (K_method hS h0 hi hW kk)
  replace z0 : 23 ≤ z := by omega
  clear e
  by_cases e : z = 23
  · subst e
    exact r_tableIn 1730 dL_law_40 (by decide) (by decide) (by decide) rfl (by decide) (K_chirp hS h0 hi hW kk)
  replace z0 : 24 ≤ z := by omega
  clear e
  by_cases e : z = 24
  · subst e
    exact r_tableIn 1810 dL_law_40 (by decide) (by decide) (by decide) rfl (by decide) (K_longest hS h0 hi hW kk)
  replace z0 : 25 ≤ z := by omega
  clear e
  by_cases e : z = 25
  · subst e
    exact r_tableIn 1866 dL_law_40 (by decide) (by decide) (by decide) rfl (by decide) (K_size hS h0 hi hW kk)
  replace z0 : 26 ≤ z := by omega
  clear e
  by_cases e : z = 26
  · subst e
    exact r_tableIn 1958 dL_law_40 (by decide) (by decide) (by decide) rfl (by decide) (K_bound hS h0 hi hW kk)
  replace z0 : 27 ≤ z := by omega
  clear e
  by_cases e : z = 27
  · subst e
    exact r_tableIn 2025 dL_law_40 (by decide) (by decide) (by decide) rfl (by decide) (K_coefficient hS h0 hi hW kk)
  replace z0 : 28 ≤ z := by omega
  clear e
  by_cases e : z = 28
  · subst e
    exact r_tableIn 2128 dL_law_40 (by decide) (by decide) (by decide) rfl (by decide) (K_isEnough hS h0 hi hW kk)
  replace z0 : 29 ≤ z := by omega
  clear e
  by_cases e : z = 29
  · subst e
    exact r_tableIn 2215 dL_law_40 (by decide) (by decide) (by decide) rfl (by decide) (K_plan hS h0 hi hW kk)
  replace z0 : 30 ≤ z := by omega
  clear e
  by_cases e : z = 30
  · subst e
    exact r_tableIn 2319 dL_law_40 (by decide) (by decide) (by decide) rfl (by decide) (K_transformSteps hS h0 hi hW kk)
  replace z0 : 31 ≤ z := by omega
  clear e
  by_cases e : z = 31
  · subst e
    exact r_tableIn 2411 dL_law_40 (by decide) (by decide) (by decide) rfl (by decide) (K_multiply hS h0 hi hW kk)
  replace z0 : 32 ≤ z := by omega
  clear e
  by_cases e : z = 32
  · subst e
    exact r_tableIn 2515 dL_law_40 (by decide) (by decide) (by decide) rfl (by decide) (K_product hS h0 hi hW kk)
  replace z0 : 33 ≤ z := by omega
  clear e
  by_cases e : z = 33
  · subst e
    exact r_tableIn 2571 dL_law_40 (by decide) (by decide) (by decide) rfl (by decide) (K_value hS h0 hi hW kk)
  replace z0 : 34 ≤ z := by omega
  clear e
  by_cases e : z = 34
  · subst e
    exact r_tableIn 2626 dL_law_40 (by decide) (by decide) (by decide) rfl (by decide) (K_digit hS h0 hi hW kk)
  replace z0 : 35 ≤ z := by omega
  clear e
  by_cases e : z = 35
  · subst e
    exact r_tableIn 2694 dL_law_40 (by decide) (by decide) (by decide) rfl (by decide) (K_productAt hS h0 hi hW kk)
  replace z0 : 36 ≤ z := by omega
  clear e
  by_cases e : z = 36
  · subst e
    exact r_tableIn 2750 dL_law_40 (by decide) (by decide) (by decide) rfl (by decide) (K_residue hS h0 hi hW kk)
  replace z0 : 37 ≤ z := by omega
  clear e
  by_cases e : z = 37
  · subst e
    exact r_tableIn 2818 dL_law_40 (by decide) (by decide) (by decide) rfl (by decide) (K_agreeing hS h0 hi hW kk)
  replace z0 : 38 ≤ z := by omega
  clear e
  by_cases e : z = 38
  · subst e
    exact r_tableIn 2886 dL_law_40 (by decide) (by decide) (by decide) rfl (by decide) (K_store hS h0 hi hW kk)
  replace z0 : 39 ≤ z := by omega
  clear e
  by_cases e : z = 39
  · subst e
    exact r_tableIn 2942 dL_law_40 (by decide) (by decide) (by decide) rfl (by decide) (K_undo hS h0 hi hW kk)
  replace z0 : 40 ≤ z := by omega
  clear e
  refine r_tableOut 2986 dL_law_40 (by omega) (Or.inr (by omega)) (by decide) ?_
  exact r_bud (by omega) (by omega) (kk S hW)
theorem l_law {S : PS} (hTB : TxtB g) (hTL : TxtL g) (hS : SJ g b n xs) : ∀ (r : Nat) (i : Int) (S : PS) (kc ks : Nat), 0 ≤ i → i ≤ n → (n : Int) - i ≤ 6 * (r : Int) → 12 * r ≤ kc → 60 * r ≤ ks → WJ S x → PW g cL_law (iL_law nm hh) 23 (lL b x i) [] S kc ks LQ := by
  intro r
  have hn := hS.2.2
  have hend : ∀ (i : Int) (S : PS) (kc ks : Nat), PW g cL_law (iL_law nm hh) 2992 (lL b x i) [] S kc ks LQ := fun i S kc ks => r_iconst dL_law_2992 (r_iret dL_law_2993 rfl (q_narZ (Or.inr rfl)) rfl)
  induction r with
  | zero =>
    intro i S kc ks h0 h1 h2 h3 h4 hW
    refine r_iload dL_law_23 rfl (r_aload_n dL_law_25 (i := 0) rfl rfl (r_slen hS.1 hS.2.1 dL_law_26 (by omega) (r_bipush dL_law_27 (by decide) (r_isub dL_law_29 ?_))))
    exact r_icmp_gt 2992 dL_law_30 (by decide) (by omega) (by omega) (fun _ => hend i S kc ks) (fun h => absurd h (by omega))
  | succ r ih =>
    intro i S kc ks h0 h1 h2 h3 h4 hW
    refine r_iload dL_law_23 rfl (r_aload_n dL_law_25 (i := 0) rfl rfl (r_slen hS.1 hS.2.1 dL_law_26 (by omega) (r_bipush dL_law_27 (by decide) (r_isub dL_law_29 ?_))))
    refine r_icmp_gt 2992 dL_law_30 (by decide) (by omega) (by omega) (fun _ => hend i S kc ks) (fun hi => ?_)
    refine r_bud (kc' := (kc - 12) + 12) (ks' := (ks - 60) + 60) (by omega) (by omega) (l_case hTB hTL hS h0 (by omega) hW (fun S' hW' => ?_))
    refine r_iinc dL_law_2986 rfl rfl (r_goto 23 dL_law_2989 (by decide) ?_)
    exact r_loc (lL b x (i + 6)) ⟨Or.inl rfl, Or.inl rfl, Or.inl rfl, Or.inl rfl, Or.inl rfl, trivial⟩ (ih (i + 6) S' (kc - 12) (ks - 60) (by omega) (by omega) (by omega) (by omega) (by omega) hW')
theorem l_start {S : PS} (hTB : TxtB g) (hTL : TxtL g) (hS : SJ g b n xs) : PW g cL_law (iL_law nm hh) 0 [(0, some (.ref b))] [] S 601024 7293034 LQ := by
  have hn := hS.2.2
  generalize hx : S.2 = x
  refine r_bud (kc' := 601023 + 1) (ks' := 7293028 + 6) (by omega) (by omega) ?_
  refine r_new dL_law_0 nl_L_8 (fun _ => ?_)
  rw [hx]
  refine r_dup dL_law_3 rfl ?_
  refine r_invI dL_law_4 (c_X9_init (F := x + 159) (mc := 152) (ms := 5088) (x := x) (by omega) (by rw [← hx]; exact pn_same) (by rw [← hx]; rfl) (Nat.le_refl _) (Nat.le_refl _)) (fun E S' h => by cases h.1) mq_X9_init rfl ml_L_141 ⟨Nat.le_of_ble_eq_true rfl, Nat.le_of_ble_eq_true rfl⟩ rfl rfl (Nat.le_of_ble_eq_true rfl) (kc' := 600870 + 1) (ks' := 7287922 + 18) (by show 152 + _ ≤ _; omega) (by show 5088 + _ ≤ _; omega) (fun v S1 hc => ?_)
  obtain ⟨e1, hG1, hC1⟩ := hc
  cases e1
  refine r_astore_n (x := x) dL_law_7 (i := 1) rfl rfl (Nat.le_of_ble_eq_true rfl) ?_
  refine r_new dL_law_8 nl_L_142 (fun hlt => ?_)
  rw [hG1.2]
  refine r_dup dL_law_11 rfl ?_
  refine r_invI dL_law_12 (c_X10_init (mc := 4) (ms := 2750) (m := x + 153) (by rw [← hG1.2]; exact pn_same) (by rw [← hG1.2]; rfl) (Nat.le_refl _) (Nat.le_refl _)) (fun E S' h => by cases h.1) mq_X10_init rfl ml_L_144 ⟨Nat.le_of_ble_eq_true rfl, Nat.le_of_ble_eq_true rfl⟩ rfl rfl (Nat.le_of_ble_eq_true rfl) (kc' := 600865 + 1) (ks' := 7285171 + 1) (by show 4 + _ ≤ _; omega) (by show 2750 + _ ≤ _; omega) (fun v S3 hc => ?_)
  obtain ⟨e1, hG3, m0, m1, m2, m3, m4⟩ := hc
  cases e1
  refine r_astore_n (x := x + 153) dL_law_15 (i := 2) rfl rfl (Nat.le_of_ble_eq_true rfl) (r_iconst dL_law_16 ?_)
  refine r_newJ (N := 1) dL_law_17 w_ar_long (by decide) (fun hlt3 => ?_)
  have h3 : S3.2 = x + 158 := hG3.2
  rw [h3]
  refine r_astore_n dL_law_19 (i := 3) rfl rfl (Nat.le_of_ble_eq_true rfl) (r_iconst dL_law_20 (r_istore dL_law_21 rfl (Nat.le_of_ble_eq_true rfl) ?_))
  have hold : ∀ z : Nat, z < x + 153 → (ps_new S3 (cJ 1 (fun _ => 0))).1 z = S1.1 z := fun z hz => by
    refine pn_ne (by omega) ((hG3.1 z hz).trans (pn_ne (by have := hG1.2; omega) rfl))
  have hmod : ∀ (z : Nat) (c : PE), z < x + 158 → S3.1 z = some c → (ps_new S3 (cJ 1 (fun _ => 0))).1 z = some c := fun z c hz hc => pn_ne (by omega) hc
  refine l_law (S := S) hTB hTL hS 512 0 _ _ _ (by omega) (by omega) (by omega) (by omega) (by omega) ⟨fun _ => 0, fun _ _ => 0, 0, 0, 0, -1, 0, fun _ => 0, fun _ => 0, fun _ => 0, hC1.frame (fun z hz c hc => absurd (hlt z c hc) (by have := hG1.2; omega)) (fun z z1 z2 => hold z (by omega)), (NB.ia NB.zero), by omega, ⟨⟨0, 0, 0, 0, 0, 0, 0, 0, 0, 0, hmod _ _ (by omega) m0⟩, hmod _ _ (by omega) m1, ⟨_, hmod _ _ (by omega) m2⟩, hmod _ _ (by omega) m3, hmod _ _ (by omega) m4, (fun _ => 0), ?_⟩, fun i i0 i1 => absurd i1 (by omega), ⟨fun i _ _ => ⟨(by decide : (-128 : Int) ≤ 0), (by decide : (0 : Int) ≤ 127)⟩, fun k k0 k1 => absurd k1 (by omega)⟩, ?_⟩
  · rw [← h3]
    exact pn_same
  · show x + 159 ≤ S3.2 + 1
    omega
end LAWLP

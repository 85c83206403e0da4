/-! the class: what its face requires -/
abbrev xO (x : Nat) : PE := cO 9 [.ref (x + 1), .ref (x + 15), .ref (x + 129), .ref (x + 145), .ref (x + 148), .ref (x + 150)]
section REQ2
variable {g : GT} {S : PS} {mc ms : Nat} {x F : Nat} {a : Int → Int}
theorem c_X9_requirePrime1 {q : Int} (hx : S.1 x = some (xO x)) (hb : S.1 (x + 1) = some (bO (x + 1) (a 0))) (hn : 0 ≤ a 0 ∧ a 0 ≤ 6) (hq : RI q) (h : 0 ≤ q ∧ q ≤ a 0 - 1) : PC g yX9_requirePrime cX9_requirePrime (iX9_requirePrime mc ms) [.ref x, vi q] S (Rt none S) := by
  refine PC_of pnX9 rfl rfl rfl (Nat.le_of_ble_eq_true rfl) ?_
  refine r_iload_n dX9_requirePrime_0 (i := 1) rfl rfl ?_
  refine r_if_lt 15 dX9_requirePrime_1 (by decide) (by omega) (fun c1 => ?_) (fun c1 => ?_)
  · omega
  · refine r_iload_n dX9_requirePrime_4 (i := 1) rfl rfl (r_aload_n dX9_requirePrime_5 (i := 0) rfl rfl (r_get dX9_requirePrime_6 fl_X9_10 hx rfl (r_get dX9_requirePrime_9 fl_X9_88 hb rfl ?_)))
    refine r_icmp_lt 25 dX9_requirePrime_12 (by decide) (by omega) (by omega) (fun c2 => ?_) (fun c2 => ?_)
    · refine r_vret dX9_requirePrime_25 rfl ?_
      first | omega | exact ⟨rfl, rfl⟩ | exact ⟨by rw [b2i_t (by omega)], rfl⟩ | exact ⟨by rw [b2i_f (by omega)], rfl⟩
    · omega
theorem c_X9_requirePrime0 {q : Int} (hx : S.1 x = some (xO x)) (hb : S.1 (x + 1) = some (bO (x + 1) (a 0))) (hn : 0 ≤ a 0 ∧ a 0 ≤ 6) (hq : RI q) (h : ¬ (0 ≤ q ∧ q ≤ a 0 - 1)) (hm : 1 ≤ mc) (hm2 : 6 ≤ ms) : PC g yX9_requirePrime cX9_requirePrime (iX9_requirePrime mc ms) [.ref x, vi q] S (Th "java/lang/IndexOutOfBoundsException" S) := by
  refine PC_of pnX9 rfl rfl rfl (Nat.le_of_ble_eq_true rfl) ?_
  refine r_bud (kc' := 1) (ks' := 6) hm hm2 ?_
  refine r_iload_n dX9_requirePrime_0 (i := 1) rfl rfl ?_
  refine r_if_lt 15 dX9_requirePrime_1 (by decide) (by omega) (fun c1 => ?_) (fun c1 => ?_)
  · refine r_throwS th_index (List.mem_of_getElem? (i := 3) rfl) rfl dX9_requirePrime_15 dX9_requirePrime_18 dX9_requirePrime_19 dX9_requirePrime_21 dX9_requirePrime_24 (Nat.le_of_ble_eq_true rfl) (Nat.le_of_ble_eq_true rfl) (by omega) (by omega) (fun z hz => ?_)
    exact ⟨rfl, rfl, hz⟩
  · refine r_iload_n dX9_requirePrime_4 (i := 1) rfl rfl (r_aload_n dX9_requirePrime_5 (i := 0) rfl rfl (r_get dX9_requirePrime_6 fl_X9_10 hx rfl (r_get dX9_requirePrime_9 fl_X9_88 hb rfl ?_)))
    refine r_icmp_lt 25 dX9_requirePrime_12 (by decide) (by omega) (by omega) (fun c2 => ?_) (fun c2 => ?_)
    · refine r_vret dX9_requirePrime_25 rfl ?_
      omega
    · refine r_throwS th_index (List.mem_of_getElem? (i := 3) rfl) rfl dX9_requirePrime_15 dX9_requirePrime_18 dX9_requirePrime_19 dX9_requirePrime_21 dX9_requirePrime_24 (Nat.le_of_ble_eq_true rfl) (Nat.le_of_ble_eq_true rfl) (by omega) (by omega) (fun z hz => ?_)
      exact ⟨rfl, rfl, hz⟩
theorem c_X9_requireSlot1 {q : Int} (hq : RI q) (h : 0 ≤ q ∧ q ≤ 3) : PC g yX9_requireSlot cX9_requireSlot (iX9_requireSlot mc ms) [.ref x, vi q] S (Rt none S) := by
  refine PC_of pnX9 rfl rfl rfl (Nat.le_of_ble_eq_true rfl) ?_
  refine r_iload_n dX9_requireSlot_0 (i := 1) rfl rfl ?_
  refine r_if_lt 9 dX9_requireSlot_1 (by decide) (by omega) (fun c1 => ?_) (fun c1 => ?_)
  · omega
  · refine r_iload_n dX9_requireSlot_4 (i := 1) rfl rfl (r_iconst dX9_requireSlot_5 ?_)
    refine r_icmp_lt 20 dX9_requireSlot_6 (by decide) (by omega) (by omega) (fun c2 => ?_) (fun c2 => ?_)
    · refine r_vret dX9_requireSlot_20 rfl ?_
      first | omega | exact ⟨rfl, rfl⟩ | exact ⟨by rw [b2i_t (by omega)], rfl⟩ | exact ⟨by rw [b2i_f (by omega)], rfl⟩
    · omega
theorem c_X9_requireSlot0 {q : Int} (hq : RI q) (h : ¬ (0 ≤ q ∧ q ≤ 3)) (hm : 1 ≤ mc) (hm2 : 6 ≤ ms) : PC g yX9_requireSlot cX9_requireSlot (iX9_requireSlot mc ms) [.ref x, vi q] S (Th "java/lang/IndexOutOfBoundsException" S) := by
  refine PC_of pnX9 rfl rfl rfl (Nat.le_of_ble_eq_true rfl) ?_
  refine r_bud (kc' := 1) (ks' := 6) hm hm2 ?_
  refine r_iload_n dX9_requireSlot_0 (i := 1) rfl rfl ?_
  refine r_if_lt 9 dX9_requireSlot_1 (by decide) (by omega) (fun c1 => ?_) (fun c1 => ?_)
  · refine r_throwSW th_index (List.mem_of_getElem? (i := 6) rfl) rfl dX9_requireSlot_9 dX9_requireSlot_12 dX9_requireSlot_13 dX9_requireSlot_16 dX9_requireSlot_19 (Nat.le_of_ble_eq_true rfl) (Nat.le_of_ble_eq_true rfl) (by omega) (by omega) (fun z hz => ?_)
    exact ⟨rfl, rfl, hz⟩
  · refine r_iload_n dX9_requireSlot_4 (i := 1) rfl rfl (r_iconst dX9_requireSlot_5 ?_)
    refine r_icmp_lt 20 dX9_requireSlot_6 (by decide) (by omega) (by omega) (fun c2 => ?_) (fun c2 => ?_)
    · refine r_vret dX9_requireSlot_20 rfl ?_
      omega
    · refine r_throwSW th_index (List.mem_of_getElem? (i := 6) rfl) rfl dX9_requireSlot_9 dX9_requireSlot_12 dX9_requireSlot_13 dX9_requireSlot_16 dX9_requireSlot_19 (Nat.le_of_ble_eq_true rfl) (Nat.le_of_ble_eq_true rfl) (by omega) (by omega) (fun z hz => ?_)
      exact ⟨rfl, rfl, hz⟩
/-- a set of primes: what is shifted out is 0 -/
theorem set_shr {set n : Int} (hn : 0 ≤ n) : set / 2 ^ n.toNat = 0 ↔ 0 ≤ set ∧ set ≤ 2 ^ n.toNat - 1 := by
  have hp : (0 : Int) < 2 ^ n.toNat := Int.pow_pos (by omega)
  constructor
  · intro h
    have h1 := Int.emod_nonneg set (show (2 : Int) ^ n.toNat ≠ 0 by omega)
    have h2 := Int.emod_lt_of_pos set hp
    have h3 := Int.mul_ediv_add_emod set (2 ^ n.toNat)
    rw [h, Int.mul_zero] at h3
    omega
  · intro h
    exact Int.ediv_eq_zero_of_lt h.1 (by omega)
theorem c_X9_requireSet1 {set : Int} (hx : S.1 x = some (xO x)) (hb : S.1 (x + 1) = some (bO (x + 1) (a 0))) (hn : 0 ≤ a 0 ∧ a 0 ≤ 6) (hq : RI set) (h : 0 ≤ set ∧ set ≤ 2 ^ (a 0).toNat - 1) : PC g yX9_requireSet cX9_requireSet (iX9_requireSet mc ms) [.ref x, vi set] S (Rt none S) := by
  refine PC_of pnX9 rfl rfl rfl (Nat.le_of_ble_eq_true rfl) ?_
  have hz := (set_shr hn.1).mpr h
  have hr := shr_RI hq (a 0).toNat
  refine r_iload_n dX9_requireSet_0 (i := 1) rfl rfl (r_aload_n dX9_requireSet_1 (i := 0) rfl rfl (r_get dX9_requireSet_2 fl_X9_10 hx rfl (r_get dX9_requireSet_5 fl_X9_88 hb rfl ?_)))
  refine r_ishr (set / 2 ^ (a 0).toNat) dX9_requireSet_8 (q_shr hq hn) ?_
  refine r_if_eq 23 dX9_requireSet_9 (by decide) (by omega) (fun c1 => ?_) (fun c1 => ?_)
  · refine r_vret dX9_requireSet_23 rfl ?_
    first | omega | exact ⟨rfl, rfl⟩ | exact ⟨by rw [b2i_t (by omega)], rfl⟩ | exact ⟨by rw [b2i_f (by omega)], rfl⟩
  · omega
theorem c_X9_requireSet0 {set : Int} (hx : S.1 x = some (xO x)) (hb : S.1 (x + 1) = some (bO (x + 1) (a 0))) (hn : 0 ≤ a 0 ∧ a 0 ≤ 6) (hq : RI set) (h : ¬ (0 ≤ set ∧ set ≤ 2 ^ (a 0).toNat - 1)) (hm : 1 ≤ mc) (hm2 : 6 ≤ ms) : PC g yX9_requireSet cX9_requireSet (iX9_requireSet mc ms) [.ref x, vi set] S (Th "java/lang/IndexOutOfBoundsException" S) := by
  refine PC_of pnX9 rfl rfl rfl (Nat.le_of_ble_eq_true rfl) ?_
  refine r_bud (kc' := 1) (ks' := 6) hm hm2 ?_
  have hnz : set / 2 ^ (a 0).toNat ≠ 0 := fun z => h ((set_shr hn.1).mp z)
  have hr := shr_RI hq (a 0).toNat
  refine r_iload_n dX9_requireSet_0 (i := 1) rfl rfl (r_aload_n dX9_requireSet_1 (i := 0) rfl rfl (r_get dX9_requireSet_2 fl_X9_10 hx rfl (r_get dX9_requireSet_5 fl_X9_88 hb rfl ?_)))
  refine r_ishr (set / 2 ^ (a 0).toNat) dX9_requireSet_8 (q_shr hq hn) ?_
  refine r_if_eq 23 dX9_requireSet_9 (by decide) (by omega) (fun c1 => ?_) (fun c1 => ?_)
  · refine r_vret dX9_requireSet_23 rfl ?_
    omega
  · refine r_throwSW th_index (List.mem_of_getElem? (i := 9) rfl) rfl dX9_requireSet_12 dX9_requireSet_15 dX9_requireSet_16 dX9_requireSet_19 dX9_requireSet_22 (Nat.le_of_ble_eq_true rfl) (Nat.le_of_ble_eq_true rfl) (by omega) (by omega) (fun z hz => ?_)
    exact ⟨rfl, rfl, hz⟩
end REQ2

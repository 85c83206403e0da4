/-! the class: costs, methods, the least prime, the bound -/
section COST
variable {g : GT} {S : PS} {mc ms : Nat} {Q : PO → PS → Prop} {kc ks : Nat} {q p fc gn : Nat} {v1 v2 v3 : Value}
theorem c_X9_isKind {k : Int} (hk : RI k) : PC g yX9_isKind cX9_isKind (iX9_isKind mc ms) [vi k] S (Rt (some (vi (b2i (0 ≤ k ∧ k ≤ 2)))) S) := by
  refine PC_of pnX9 rfl rfl rfl (Nat.le_of_ble_eq_true rfl) ?_
  refine r_iload_n dX9_isKind_0 (i := 0) rfl rfl ?_
  refine r_if_lt 13 dX9_isKind_1 (by decide) (by omega) (fun c1 => ?_) (fun c1 => ?_)
  · refine r_iconst dX9_isKind_13 ?_
    refine r_iret dX9_isKind_14 rfl (q_narZ (by first | exact Or.inl rfl | exact Or.inr rfl)) ?_
    first | omega | exact ⟨rfl, rfl⟩ | exact ⟨by rw [b2i_t (by omega)], rfl⟩ | exact ⟨by rw [b2i_f (by omega)], rfl⟩
  · refine r_iload_n dX9_isKind_4 (i := 0) rfl rfl (r_iconst dX9_isKind_5 ?_)
    refine r_icmp_gt 13 dX9_isKind_6 (by decide) (by omega) (by omega) (fun c2 => ?_) (fun c2 => ?_)
    · refine r_iconst dX9_isKind_13 ?_
      refine r_iret dX9_isKind_14 rfl (q_narZ (by first | exact Or.inl rfl | exact Or.inr rfl)) ?_
      first | omega | exact ⟨rfl, rfl⟩ | exact ⟨by rw [b2i_t (by omega)], rfl⟩ | exact ⟨by rw [b2i_f (by omega)], rfl⟩
    · refine r_iconst dX9_isKind_9 (r_goto 14 dX9_isKind_10 (by decide) ?_)
      refine r_iret dX9_isKind_14 rfl (q_narZ (by first | exact Or.inl rfl | exact Or.inr rfl)) ?_
      first | omega | exact ⟨rfl, rfl⟩ | exact ⟨by rw [b2i_t (by omega)], rfl⟩ | exact ⟨by rw [b2i_f (by omega)], rfl⟩
theorem c_X9_isLength {k : Int} (hk : RI k) : PC g yX9_isLength cX9_isLength (iX9_isLength mc ms) [vi k] S (Rt (some (vi (b2i (1 ≤ k ∧ k ≤ 64)))) S) := by
  refine PC_of pnX9 rfl rfl rfl (Nat.le_of_ble_eq_true rfl) ?_
  refine r_iload_n dX9_isLength_0 (i := 0) rfl rfl (r_iconst dX9_isLength_1 ?_)
  refine r_icmp_lt 15 dX9_isLength_2 (by decide) (by omega) (by omega) (fun c1 => ?_) (fun c1 => ?_)
  · refine r_iconst dX9_isLength_15 ?_
    refine r_iret dX9_isLength_16 rfl (q_narZ (by first | exact Or.inl rfl | exact Or.inr rfl)) ?_
    first | omega | exact ⟨rfl, rfl⟩ | exact ⟨by rw [b2i_t (by omega)], rfl⟩ | exact ⟨by rw [b2i_f (by omega)], rfl⟩
  · refine r_iload_n dX9_isLength_5 (i := 0) rfl rfl (r_bipush dX9_isLength_6 (by decide) ?_)
    refine r_icmp_gt 15 dX9_isLength_8 (by decide) (by omega) (by omega) (fun c2 => ?_) (fun c2 => ?_)
    · refine r_iconst dX9_isLength_15 ?_
      refine r_iret dX9_isLength_16 rfl (q_narZ (by first | exact Or.inl rfl | exact Or.inr rfl)) ?_
      first | omega | exact ⟨rfl, rfl⟩ | exact ⟨by rw [b2i_t (by omega)], rfl⟩ | exact ⟨by rw [b2i_f (by omega)], rfl⟩
    · refine r_iconst dX9_isLength_11 (r_goto 16 dX9_isLength_12 (by decide) ?_)
      refine r_iret dX9_isLength_16 rfl (q_narZ (by first | exact Or.inl rfl | exact Or.inr rfl)) ?_
      first | omega | exact ⟨rfl, rfl⟩ | exact ⟨by rw [b2i_t (by omega)], rfl⟩ | exact ⟨by rw [b2i_f (by omega)], rfl⟩
theorem SpI.one {n f : Nat} (h : SpI n f 1) (hf : f ≤ n) : SpI n (f + 1) 1 := by
  obtain ⟨a, b, c, d, e⟩ := h
  refine ⟨by omega, by omega, c, d, fun x x1 x2 hx => ?_⟩
  have := Nat.le_of_dvd Nat.one_pos hx
  omega
theorem l_cspl {n : Nat} (hn : 1 ≤ n ∧ n ≤ 64) (hq : Q (.inl (some (vi ((n : Int) * (spl n : Int))))) S) : ∀ (u f left sum : Nat), SpI n f left → (left - 1) + (n + 1 - f) ≤ u → sum + sp u f left = spl n →
    PW g cX9_splittingCost (iX9_splittingCost mc ms) 6 [(0, some (vi (n : Int))), (1, some (vi (sum : Int))), (2, some (vi (left : Int))), (3, some (vi (f : Int)))] [] S kc ks Q ∧ (f ≤ n → PW g cX9_splittingCost (iX9_splittingCost mc ms) 11 [(0, some (vi (n : Int))), (1, some (vi (sum : Int))), (2, some (vi (left : Int))), (3, some (vi (f : Int)))] [] S kc ks Q) := by
  intro u
  induction u with
  | zero =>
    intro f left sum hi hu hs
    have hi2 := hi.2
    have hs2 : sp 0 f left = 0 := rfl
    have e : sum = spl n := by omega
    subst e
    refine ⟨?_, fun z => by omega⟩
    refine r_iload_n dX9_splittingCost_6 (i := 3) rfl rfl (r_iload_n dX9_splittingCost_7 (i := 0) rfl rfl ?_)
    refine r_icmp_gt 41 dX9_splittingCost_8 (by decide) (by omega) (by omega) (fun c1 => ?_) (fun c1 => ?_)
    · refine r_iload_n dX9_splittingCost_41 (i := 0) rfl rfl (r_iload_n dX9_splittingCost_42 (i := 1) rfl rfl (r_imul dX9_splittingCost_43 ?_))
      refine r_iret dX9_splittingCost_44 rfl rfl ?_
      exact hq
    · omega
  | succ u ih =>
    intro f left sum hi hu hs
    have hi2 := hi.2
    have hi1 := hi.1
    have e1 : (left : Int) % (f : Int) = ((left % f : Nat) : Int) := (Int.natCast_emod _ _).symm
    have hml := Nat.mod_lt left (show 0 < f by omega)
    have key : f ≤ n → PW g cX9_splittingCost (iX9_splittingCost mc ms) 11 [(0, some (vi (n : Int))), (1, some (vi (sum : Int))), (2, some (vi (left : Int))), (3, some (vi (f : Int)))] [] S kc ks Q := by
      intro hfn
      refine r_iload_n dX9_splittingCost_11 (i := 2) rfl rfl (r_iconst dX9_splittingCost_12 ?_)
      refine r_icmp_le 35 dX9_splittingCost_13 (by decide) (by omega) (by omega) (fun c1 => ?_) (fun c1 => ?_)
      · refine r_iinc dX9_splittingCost_35 rfl rfl (r_goto 6 dX9_splittingCost_38 (by decide) ?_)
        have hs3 : sum + sp u (f + 1) left = spl n := by
          rcases Nat.lt_or_ge 1 left with h1 | h1
          · rw [sp_n h1 (by omega)] at hs
            exact hs
          · rw [sp_1 _ _ _ h1] at hs ⊢
            exact hs
        have hi3 : SpI n (f + 1) left := by
          rcases Nat.lt_or_ge 1 left with h1 | h1
          · exact hi.up h1 (by omega)
          · have e : left = 1 := by omega
            subst e
            exact hi.one hfn
        exact r_loc [(0, some (vi (n : Int))), (1, some (vi (sum : Int))), (2, some (vi (left : Int))), (3, some (vi ((f + 1 : Nat) : Int)))] ⟨Or.inl rfl, Or.inl rfl, Or.inl rfl, Or.inl rfl, trivial⟩ (ih (f + 1) left sum hi3 (by omega) hs3).1
      · refine r_iload_n dX9_splittingCost_16 (i := 2) rfl rfl (r_iload_n dX9_splittingCost_17 (i := 3) rfl rfl (r_iremN dX9_splittingCost_18 (by omega) (by omega) (by omega) (by omega) ?_))
        rw [e1]
        refine r_if_ne 35 dX9_splittingCost_19 (by decide) (by omega) (fun c2 => ?_) (fun c2 => ?_)
        · refine r_iinc dX9_splittingCost_35 rfl rfl (r_goto 6 dX9_splittingCost_38 (by decide) ?_)
          have hs3 : sum + sp u (f + 1) left = spl n := by
            rcases Nat.lt_or_ge 1 left with h1 | h1
            · rw [sp_n h1 (by omega)] at hs
              exact hs
            · rw [sp_1 _ _ _ h1] at hs ⊢
              exact hs
          have hi3 : SpI n (f + 1) left := by
            rcases Nat.lt_or_ge 1 left with h1 | h1
            · exact hi.up h1 (by omega)
            · have e : left = 1 := by omega
              subst e
              exact hi.one hfn
          exact r_loc [(0, some (vi (n : Int))), (1, some (vi (sum : Int))), (2, some (vi (left : Int))), (3, some (vi ((f + 1 : Nat) : Int)))] ⟨Or.inl rfl, Or.inl rfl, Or.inl rfl, Or.inl rfl, trivial⟩ (ih (f + 1) left sum hi3 (by omega) hs3).1
        · refine r_iload_n dX9_splittingCost_22 (i := 2) rfl rfl (r_iload_n dX9_splittingCost_23 (i := 3) rfl rfl (r_idivN dX9_splittingCost_24 (by omega) (by omega) (by omega) (by omega) (r_istore_n dX9_splittingCost_25 (i := 2) rfl rfl (Nat.le_of_ble_eq_true rfl) (r_iload_n dX9_splittingCost_26 (i := 1) rfl rfl ?_))))
          refine r_iload_n dX9_splittingCost_27 (i := 3) rfl rfl (r_iconst dX9_splittingCost_28 (r_isub dX9_splittingCost_29 (r_iadd dX9_splittingCost_30 (r_istore_n dX9_splittingCost_31 (i := 1) rfl rfl (Nat.le_of_ble_eq_true rfl) ?_))))
          refine r_goto 11 dX9_splittingCost_32 (by decide) ?_
          have h1 : 1 < left := by omega
          have e2 : left % f = 0 := by omega
          rw [sp_d h1 e2] at hs
          obtain ⟨hi3, hlt⟩ := hi.dv h1 e2
          have hi4 := hi3.2.2.1
          exact r_loc [(0, some (vi (n : Int))), (1, some (vi ((sum + (f - 1) : Nat) : Int))), (2, some (vi ((left / f : Nat) : Int))), (3, some (vi (f : Int)))] ⟨Or.inl rfl, Or.inl (lvi_eq (by omega)), Or.inl rfl, Or.inl rfl, trivial⟩ ((ih f (left / f) (sum + (f - 1)) hi3 (by omega) (by omega)).2 hfn)
    refine ⟨?_, key⟩
    refine r_iload_n dX9_splittingCost_6 (i := 3) rfl rfl (r_iload_n dX9_splittingCost_7 (i := 0) rfl rfl ?_)
    refine r_icmp_gt 41 dX9_splittingCost_8 (by decide) (by omega) (by omega) (fun c1 => ?_) (fun c1 => ?_)
    · refine r_iload_n dX9_splittingCost_41 (i := 0) rfl rfl (r_iload_n dX9_splittingCost_42 (i := 1) rfl rfl (r_imul dX9_splittingCost_43 ?_))
      refine r_iret dX9_splittingCost_44 rfl rfl ?_
      have h1 : left ≤ 1 := by
        rcases Nat.lt_or_ge 1 left with z | z
        · have := hi.le z
          omega
        · exact z
      rw [sp_1 _ _ _ h1] at hs
      have e : sum = spl n := by omega
      subst e
      exact hq
    · exact key (by omega)
theorem c_X9_splittingCost {n : Nat} (hn : 1 ≤ n ∧ n ≤ 64) : PC g yX9_splittingCost cX9_splittingCost (iX9_splittingCost mc ms) [vi (n : Int)] S (Rt (some (vi ((n : Int) * (spl n : Int)))) S) := by
  refine PC_of pnX9 rfl rfl rfl (Nat.le_of_ble_eq_true rfl) ?_
  refine r_iconst dX9_splittingCost_0 (r_istore_n dX9_splittingCost_1 (i := 1) rfl rfl (Nat.le_of_ble_eq_true rfl) (r_iload_n dX9_splittingCost_2 (i := 0) rfl rfl (r_istore_n dX9_splittingCost_3 (i := 2) rfl rfl (Nat.le_of_ble_eq_true rfl) (r_iconst dX9_splittingCost_4 ?_))))
  refine r_istore_n dX9_splittingCost_5 (i := 3) rfl rfl (Nat.le_of_ble_eq_true rfl) ?_
  exact r_loc [(0, some (vi (n : Int))), (1, some (vi ((0 : Nat) : Int))), (2, some (vi (n : Int))), (3, some (vi ((2 : Nat) : Int)))] ⟨Or.inl rfl, Or.inl rfl, Or.inl rfl, Or.inl rfl, trivial⟩ (l_cspl hn ⟨rfl, rfl⟩ 130 2 n 0 ⟨by omega, by omega, hn.1, by omega, fun d _ _ => by omega⟩ (by omega) (by rw [Nat.zero_add]; rfl)).1
theorem l_cchirp {n : Nat} (h : S.1 q = some (cO 1 [vi (p : Int), v1, v2, v3])) (hn : 1 ≤ n ∧ n ≤ 64) (hp : 3 ≤ p ∧ p ≤ 100003) (hq : Q (.inl (some (vi (csI (p : Int) n 2)))) S) : ∀ (r t : Nat), t + r = tOf n →
    PW g cX9_chirpCost (iX9_chirpCost mc ms) 4 [(0, some (.ref q)), (1, some (vi (n : Int))), (2, some (vi ((2 ^ t : Nat) : Int))), (3, some (vi (t : Int)))] [] S kc ks Q := by
  intro r
  obtain ⟨t1, t2, t3⟩ := tOf_ok n (by omega) hn.1
  have ecs : csI (p : Int) n 2 = if ((p : Int) - 1) % ((2 ^ tOf n : Nat) : Int) = 0 then 3 * ((2 ^ tOf n : Nat) : Int) * (tOf n : Int) + ((2 ^ tOf n : Nat) : Int) + 2 * (n : Int) else -1 := rfl
  induction r with
  | zero =>
    intro t ht
    have e : tOf n = t := by omega
    rw [e] at ecs t2 t1
    have h6 := Nat.pow_pos (n := t) (show 0 < 2 by omega)
    have h7 := Nat.pow_le_pow_right (show 0 < 2 by omega) t1
    generalize (2 ^ t : Nat) = z at *
    refine r_iload_n dX9_chirpCost_4 (i := 2) rfl rfl (r_iconst dX9_chirpCost_5 (r_iload_n dX9_chirpCost_6 (i := 1) rfl rfl (r_imul dX9_chirpCost_7 (r_iconst dX9_chirpCost_8 ?_))))
    refine r_isub dX9_chirpCost_9 ?_
    refine r_icmp_ge 29 dX9_chirpCost_10 (by decide) (by omega) (by omega) (fun c1 => ?_) (fun c1 => ?_)
    · refine r_aload_n dX9_chirpCost_29 (i := 0) rfl rfl (r_iload_n dX9_chirpCost_30 (i := 2) rfl rfl (c_vr dX9_chirpCost_31 (c_X1_hasRoot h hp ⟨by omega, by omega⟩) rfl rfl mq_X1_hasRoot ml_X9_357 ⟨Nat.le_of_ble_eq_true rfl, Nat.le_of_ble_eq_true rfl⟩ h rfl rfl rfl (Nat.le_of_ble_eq_true rfl) ?_))
      refine r_if_eq 51 dX9_chirpCost_34 (by decide) b2i_RI (fun c2 => ?_) (fun c2 => ?_)
      · replace c2 := b2i_eq c2
        refine r_iconst dX9_chirpCost_51 ?_
        refine r_iret dX9_chirpCost_52 rfl rfl ?_
        first | (rw [if_pos (by omega)] at ecs; rw [← ecs]; exact hq) | (rw [if_neg (by omega)] at ecs; rw [← ecs]; exact hq)
      · replace c2 := b2i_ne c2
        refine r_iconst dX9_chirpCost_37 (r_iload_n dX9_chirpCost_38 (i := 2) rfl rfl (r_imul dX9_chirpCost_39 (r_iload_n dX9_chirpCost_40 (i := 3) rfl rfl (r_imul dX9_chirpCost_41 ?_))))
        refine r_iload_n dX9_chirpCost_42 (i := 2) rfl rfl (r_iadd dX9_chirpCost_43 (r_iconst dX9_chirpCost_44 (r_iload_n dX9_chirpCost_45 (i := 1) rfl rfl (r_imul dX9_chirpCost_46 ?_))))
        refine r_iadd dX9_chirpCost_47 (r_goto 52 dX9_chirpCost_48 (by decide) ?_)
        refine r_iret dX9_chirpCost_52 rfl rfl ?_
        first | (rw [if_pos (by omega)] at ecs; rw [← ecs]; exact hq) | (rw [if_neg (by omega)] at ecs; rw [← ecs]; exact hq)
    · omega
  | succ r ih =>
    intro t ht
    have h6 := t3 t (by omega)
    have h8 := ih (t + 1) (by omega)
    rw [Nat.pow_succ] at h8
    have h7 := Nat.pow_le_pow_right (show 0 < 2 by omega) (show t ≤ 7 by omega)
    generalize (2 ^ t : Nat) = z at *
    refine r_iload_n dX9_chirpCost_4 (i := 2) rfl rfl (r_iconst dX9_chirpCost_5 (r_iload_n dX9_chirpCost_6 (i := 1) rfl rfl (r_imul dX9_chirpCost_7 (r_iconst dX9_chirpCost_8 ?_))))
    refine r_isub dX9_chirpCost_9 ?_
    refine r_icmp_ge 29 dX9_chirpCost_10 (by decide) (by omega) (by omega) (fun c1 => ?_) (fun c1 => ?_)
    · omega
    · refine r_iload_n dX9_chirpCost_13 (i := 3) rfl rfl (r_bipush dX9_chirpCost_14 (by decide) ?_)
      refine r_icmp_ge 29 dX9_chirpCost_16 (by decide) (by omega) (by omega) (fun c2 => ?_) (fun c2 => ?_)
      · omega
      · refine r_iload_n dX9_chirpCost_19 (i := 2) rfl rfl (r_iconst dX9_chirpCost_20 (r_imul dX9_chirpCost_21 (r_istore_n dX9_chirpCost_22 (i := 2) rfl rfl (Nat.le_of_ble_eq_true rfl) (r_iinc dX9_chirpCost_23 rfl rfl ?_))))
        refine r_goto 4 dX9_chirpCost_26 (by decide) ?_
        exact r_loc [(0, some (.ref q)), (1, some (vi (n : Int))), (2, some (vi ((z * 2 : Nat) : Int))), (3, some (vi ((t + 1 : Nat) : Int)))] ⟨Or.inl rfl, Or.inl rfl, Or.inl rfl, Or.inl rfl, trivial⟩ h8
theorem c_X9_chirpCost {n : Nat} (h : S.1 q = some (cO 1 [vi (p : Int), v1, v2, v3])) (hn : 1 ≤ n ∧ n ≤ 64) (hp : 3 ≤ p ∧ p ≤ 100003) : PC g yX9_chirpCost cX9_chirpCost (iX9_chirpCost mc ms) [.ref q, vi (n : Int)] S (Rt (some (vi (csI (p : Int) n 2))) S) := by
  refine PC_of pnX9 rfl rfl rfl (Nat.le_of_ble_eq_true rfl) ?_
  refine r_iconst dX9_chirpCost_0 (r_istore_n dX9_chirpCost_1 (i := 2) rfl rfl (Nat.le_of_ble_eq_true rfl) (r_iconst dX9_chirpCost_2 (r_istore_n dX9_chirpCost_3 (i := 3) rfl rfl (Nat.le_of_ble_eq_true rfl) ?_)))
  exact r_loc [(0, some (.ref q)), (1, some (vi (n : Int))), (2, some (vi ((2 ^ 0 : Nat) : Int))), (3, some (vi ((0 : Nat) : Int)))] ⟨Or.inl rfl, Or.inl rfl, Or.inl rfl, Or.inl rfl, trivial⟩ (l_cchirp h hn hp ⟨rfl, rfl⟩ (tOf n) 0 (by omega))
theorem c_X9_methodCost {n : Nat} {mt : Int} (h : S.1 q = some (cO 1 [vi (p : Int), v1, v2, v3])) (hn : 1 ≤ n ∧ n ≤ 64) (hp : 3 ≤ p ∧ p ≤ 100003) (hmt : 0 ≤ mt ∧ mt ≤ 2) : PC g yX9_methodCost cX9_methodCost (iX9_methodCost mc ms) [.ref q, vi (n : Int), vi mt] S (Rt (some (vi (csI (p : Int) n mt))) S) := by
  refine PC_of pnX9 rfl rfl rfl (Nat.le_of_ble_eq_true rfl) ?_
  refine r_iload_n dX9_methodCost_0 (i := 2) rfl rfl ?_
  have c1 : mt = 0 ∨ mt = 1 ∨ mt = 2 := by omega
  rcases c1 with c1 | c1 | c1
  · refine r_lookup 28 dX9_methodCost_1 ⟨by omega, by omega⟩ (by decide) (by rw [c1] <;> rfl) (by decide) ?_
    refine r_iload_n dX9_methodCost_28 (i := 1) rfl rfl (r_iload_n dX9_methodCost_29 (i := 1) rfl rfl (r_imul dX9_methodCost_30 ?_))
    refine r_iret dX9_methodCost_31 rfl rfl ?_
    subst mt
    exact ⟨rfl, rfl⟩
  · refine r_lookup 32 dX9_methodCost_1 ⟨by omega, by omega⟩ (by decide) (by rw [c1] <;> rfl) (by decide) ?_
    refine r_iload_n dX9_methodCost_32 (i := 1) rfl rfl (c_sr dX9_methodCost_33 (c_X9_splittingCost hn) rfl rfl mq_X9_splittingCost ml_X9_396 ⟨Nat.le_of_ble_eq_true rfl, Nat.le_of_ble_eq_true rfl⟩ rfl rfl (Nat.le_of_ble_eq_true rfl) ?_)
    refine r_iret dX9_methodCost_36 rfl rfl ?_
    subst mt
    exact ⟨rfl, rfl⟩
  · refine r_lookup 37 dX9_methodCost_1 ⟨by omega, by omega⟩ (by decide) (by rw [c1] <;> rfl) (by decide) ?_
    refine r_aload_n dX9_methodCost_37 (i := 0) rfl rfl (r_iload_n dX9_methodCost_38 (i := 1) rfl rfl (c_sr dX9_methodCost_39 (c_X9_chirpCost h hn hp) rfl rfl mq_X9_chirpCost ml_X9_399 ⟨Nat.le_of_ble_eq_true rfl, Nat.le_of_ble_eq_true rfl⟩ rfl rfl (Nat.le_of_ble_eq_true rfl) ?_))
    refine r_iret dX9_methodCost_42 rfl rfl ?_
    subst mt
    exact ⟨rfl, rfl⟩
theorem c_X9_cheapestMethod {n : Nat} (h : S.1 q = some (cO 1 [vi (p : Int), v1, v2, v3])) (hn : 1 ≤ n ∧ n ≤ 64) (hp : 3 ≤ p ∧ p ≤ 100003) : PC g yX9_cheapestMethod cX9_cheapestMethod (iX9_cheapestMethod mc ms) [.ref q, vi (n : Int)] S (Rt (some (vi (bmI (p : Int) n))) S) := by
  refine PC_of pnX9 rfl rfl rfl (Nat.le_of_ble_eq_true rfl) ?_
  have h0 := csI_bd (p : Int) hn 0
  have h1 := csI_bd (p : Int) hn 1
  have h2 := csI_bd (p : Int) hn 2
  have e2 : csI (p : Int) n (1 + 1) = csI (p : Int) n 2 := rfl
  refine r_iconst dX9_cheapestMethod_0 (r_istore_n dX9_cheapestMethod_1 (i := 2) rfl rfl (Nat.le_of_ble_eq_true rfl) (r_iconst dX9_cheapestMethod_2 (r_istore_n dX9_cheapestMethod_3 (i := 3) rfl rfl (Nat.le_of_ble_eq_true rfl) (r_iload_n dX9_cheapestMethod_4 (i := 3) rfl rfl ?_))))
  refine r_iconst dX9_cheapestMethod_5 ?_
  refine r_icmp_gt 42 dX9_cheapestMethod_6 (by decide) (by omega) (by omega) (fun c1 => ?_) (fun c1 => ?_)
  · omega
  · refine r_aload_n dX9_cheapestMethod_9 (i := 0) rfl rfl (r_iload_n dX9_cheapestMethod_10 (i := 1) rfl rfl (r_iload_n dX9_cheapestMethod_11 (i := 3) rfl rfl (c_sr dX9_cheapestMethod_12 (c_X9_methodCost h hn hp (by omega)) rfl rfl mq_X9_methodCost ml_X9_230 ⟨Nat.le_of_ble_eq_true rfl, Nat.le_of_ble_eq_true rfl⟩ rfl rfl (Nat.le_of_ble_eq_true rfl) (r_istore dX9_cheapestMethod_15 rfl (Nat.le_of_ble_eq_true rfl) ?_))))
    refine r_iload dX9_cheapestMethod_17 rfl (r_iconst dX9_cheapestMethod_19 ?_)
    try rw [e2]
    refine r_icmp_eq 36 dX9_cheapestMethod_20 (by decide) (by omega) (by omega) (fun c2 => ?_) (fun c2 => ?_)
    · refine r_iinc dX9_cheapestMethod_36 rfl rfl (r_goto 4 dX9_cheapestMethod_39 (by decide) (r_iload_n dX9_cheapestMethod_4 (i := 3) rfl rfl (r_iconst dX9_cheapestMethod_5 ?_)))
      refine r_icmp_gt 42 dX9_cheapestMethod_6 (by decide) (by omega) (by omega) (fun c3 => ?_) (fun c3 => ?_)
      · omega
      · refine r_aload_n dX9_cheapestMethod_9 (i := 0) rfl rfl (r_iload_n dX9_cheapestMethod_10 (i := 1) rfl rfl (r_iload_n dX9_cheapestMethod_11 (i := 3) rfl rfl (c_sr dX9_cheapestMethod_12 (c_X9_methodCost h hn hp (by omega)) rfl rfl mq_X9_methodCost ml_X9_230 ⟨Nat.le_of_ble_eq_true rfl, Nat.le_of_ble_eq_true rfl⟩ rfl rfl (Nat.le_of_ble_eq_true rfl) (r_istore dX9_cheapestMethod_15 rfl (Nat.le_of_ble_eq_true rfl) ?_))))
        refine r_iload dX9_cheapestMethod_17 rfl (r_iconst dX9_cheapestMethod_19 ?_)
        try rw [e2]
        refine r_icmp_eq 36 dX9_cheapestMethod_20 (by decide) (by omega) (by omega) (fun c4 => ?_) (fun c4 => ?_)
        · refine r_iinc dX9_cheapestMethod_36 rfl rfl (r_goto 4 dX9_cheapestMethod_39 (by decide) (r_iload_n dX9_cheapestMethod_4 (i := 3) rfl rfl (r_iconst dX9_cheapestMethod_5 ?_)))
          refine r_icmp_gt 42 dX9_cheapestMethod_6 (by decide) (by omega) (by omega) (fun c5 => ?_) (fun c5 => ?_)
          · refine r_iload_n dX9_cheapestMethod_42 (i := 2) rfl rfl ?_
            refine r_iret dX9_cheapestMethod_43 rfl rfl ?_
            exact ⟨by unfold bmI bm1; first | (rw [if_pos (show csI (p : Int) n 1 ≠ -1 ∧ csI (p : Int) n 1 < csI (p : Int) n 0 by omega)]; (first | rw [if_pos (by omega)] | rw [if_neg (by omega)]) <;> rfl) | (rw [if_neg (show ¬ (csI (p : Int) n 1 ≠ -1 ∧ csI (p : Int) n 1 < csI (p : Int) n 0) by omega)]; (first | rw [if_pos (by omega)] | rw [if_neg (by omega)]) <;> rfl), rfl⟩
          · omega
        · refine r_iload dX9_cheapestMethod_23 rfl (r_aload_n dX9_cheapestMethod_25 (i := 0) rfl rfl (r_iload_n dX9_cheapestMethod_26 (i := 1) rfl rfl (r_iload_n dX9_cheapestMethod_27 (i := 2) rfl rfl (c_sr dX9_cheapestMethod_28 (c_X9_methodCost h hn hp (by omega)) rfl rfl mq_X9_methodCost ml_X9_230 ⟨Nat.le_of_ble_eq_true rfl, Nat.le_of_ble_eq_true rfl⟩ rfl rfl (Nat.le_of_ble_eq_true rfl) ?_))))
          refine r_icmp_ge 36 dX9_cheapestMethod_31 (by decide) (by omega) (by omega) (fun c6 => ?_) (fun c6 => ?_)
          · refine r_iinc dX9_cheapestMethod_36 rfl rfl (r_goto 4 dX9_cheapestMethod_39 (by decide) (r_iload_n dX9_cheapestMethod_4 (i := 3) rfl rfl (r_iconst dX9_cheapestMethod_5 ?_)))
            refine r_icmp_gt 42 dX9_cheapestMethod_6 (by decide) (by omega) (by omega) (fun c7 => ?_) (fun c7 => ?_)
            · refine r_iload_n dX9_cheapestMethod_42 (i := 2) rfl rfl ?_
              refine r_iret dX9_cheapestMethod_43 rfl rfl ?_
              exact ⟨by unfold bmI bm1; first | (rw [if_pos (show csI (p : Int) n 1 ≠ -1 ∧ csI (p : Int) n 1 < csI (p : Int) n 0 by omega)]; (first | rw [if_pos (by omega)] | rw [if_neg (by omega)]) <;> rfl) | (rw [if_neg (show ¬ (csI (p : Int) n 1 ≠ -1 ∧ csI (p : Int) n 1 < csI (p : Int) n 0) by omega)]; (first | rw [if_pos (by omega)] | rw [if_neg (by omega)]) <;> rfl), rfl⟩
            · omega
          · refine r_iload_n dX9_cheapestMethod_34 (i := 3) rfl rfl (r_istore_n dX9_cheapestMethod_35 (i := 2) rfl rfl (Nat.le_of_ble_eq_true rfl) (r_iinc dX9_cheapestMethod_36 rfl rfl (r_goto 4 dX9_cheapestMethod_39 (by decide) (r_iload_n dX9_cheapestMethod_4 (i := 3) rfl rfl ?_))))
            refine r_iconst dX9_cheapestMethod_5 ?_
            refine r_icmp_gt 42 dX9_cheapestMethod_6 (by decide) (by omega) (by omega) (fun c8 => ?_) (fun c8 => ?_)
            · refine r_iload_n dX9_cheapestMethod_42 (i := 2) rfl rfl ?_
              refine r_iret dX9_cheapestMethod_43 rfl rfl ?_
              exact ⟨by unfold bmI bm1; first | (rw [if_pos (show csI (p : Int) n 1 ≠ -1 ∧ csI (p : Int) n 1 < csI (p : Int) n 0 by omega)]; (first | rw [if_pos (by omega)] | rw [if_neg (by omega)]) <;> rfl) | (rw [if_neg (show ¬ (csI (p : Int) n 1 ≠ -1 ∧ csI (p : Int) n 1 < csI (p : Int) n 0) by omega)]; (first | rw [if_pos (by omega)] | rw [if_neg (by omega)]) <;> rfl), rfl⟩
            · omega
    · refine r_iload dX9_cheapestMethod_23 rfl (r_aload_n dX9_cheapestMethod_25 (i := 0) rfl rfl (r_iload_n dX9_cheapestMethod_26 (i := 1) rfl rfl (r_iload_n dX9_cheapestMethod_27 (i := 2) rfl rfl (c_sr dX9_cheapestMethod_28 (c_X9_methodCost h hn hp (by omega)) rfl rfl mq_X9_methodCost ml_X9_230 ⟨Nat.le_of_ble_eq_true rfl, Nat.le_of_ble_eq_true rfl⟩ rfl rfl (Nat.le_of_ble_eq_true rfl) ?_))))
      refine r_icmp_ge 36 dX9_cheapestMethod_31 (by decide) (by omega) (by omega) (fun c9 => ?_) (fun c9 => ?_)
      · refine r_iinc dX9_cheapestMethod_36 rfl rfl (r_goto 4 dX9_cheapestMethod_39 (by decide) (r_iload_n dX9_cheapestMethod_4 (i := 3) rfl rfl (r_iconst dX9_cheapestMethod_5 ?_)))
        refine r_icmp_gt 42 dX9_cheapestMethod_6 (by decide) (by omega) (by omega) (fun c10 => ?_) (fun c10 => ?_)
        · omega
        · refine r_aload_n dX9_cheapestMethod_9 (i := 0) rfl rfl (r_iload_n dX9_cheapestMethod_10 (i := 1) rfl rfl (r_iload_n dX9_cheapestMethod_11 (i := 3) rfl rfl (c_sr dX9_cheapestMethod_12 (c_X9_methodCost h hn hp (by omega)) rfl rfl mq_X9_methodCost ml_X9_230 ⟨Nat.le_of_ble_eq_true rfl, Nat.le_of_ble_eq_true rfl⟩ rfl rfl (Nat.le_of_ble_eq_true rfl) (r_istore dX9_cheapestMethod_15 rfl (Nat.le_of_ble_eq_true rfl) ?_))))
          refine r_iload dX9_cheapestMethod_17 rfl (r_iconst dX9_cheapestMethod_19 ?_)
          try rw [e2]
          refine r_icmp_eq 36 dX9_cheapestMethod_20 (by decide) (by omega) (by omega) (fun c11 => ?_) (fun c11 => ?_)
          · refine r_iinc dX9_cheapestMethod_36 rfl rfl (r_goto 4 dX9_cheapestMethod_39 (by decide) (r_iload_n dX9_cheapestMethod_4 (i := 3) rfl rfl (r_iconst dX9_cheapestMethod_5 ?_)))
            refine r_icmp_gt 42 dX9_cheapestMethod_6 (by decide) (by omega) (by omega) (fun c12 => ?_) (fun c12 => ?_)
            · refine r_iload_n dX9_cheapestMethod_42 (i := 2) rfl rfl ?_
              refine r_iret dX9_cheapestMethod_43 rfl rfl ?_
              exact ⟨by unfold bmI bm1; first | (rw [if_pos (show csI (p : Int) n 1 ≠ -1 ∧ csI (p : Int) n 1 < csI (p : Int) n 0 by omega)]; (first | rw [if_pos (by omega)] | rw [if_neg (by omega)]) <;> rfl) | (rw [if_neg (show ¬ (csI (p : Int) n 1 ≠ -1 ∧ csI (p : Int) n 1 < csI (p : Int) n 0) by omega)]; (first | rw [if_pos (by omega)] | rw [if_neg (by omega)]) <;> rfl), rfl⟩
            · omega
          · refine r_iload dX9_cheapestMethod_23 rfl (r_aload_n dX9_cheapestMethod_25 (i := 0) rfl rfl (r_iload_n dX9_cheapestMethod_26 (i := 1) rfl rfl (r_iload_n dX9_cheapestMethod_27 (i := 2) rfl rfl (c_sr dX9_cheapestMethod_28 (c_X9_methodCost h hn hp (by omega)) rfl rfl mq_X9_methodCost ml_X9_230 ⟨Nat.le_of_ble_eq_true rfl, Nat.le_of_ble_eq_true rfl⟩ rfl rfl (Nat.le_of_ble_eq_true rfl) ?_))))
            refine r_icmp_ge 36 dX9_cheapestMethod_31 (by decide) (by omega) (by omega) (fun c13 => ?_) (fun c13 => ?_)
            · refine r_iinc dX9_cheapestMethod_36 rfl rfl (r_goto 4 dX9_cheapestMethod_39 (by decide) (r_iload_n dX9_cheapestMethod_4 (i := 3) rfl rfl (r_iconst dX9_cheapestMethod_5 ?_)))
              refine r_icmp_gt 42 dX9_cheapestMethod_6 (by decide) (by omega) (by omega) (fun c14 => ?_) (fun c14 => ?_)
              · refine r_iload_n dX9_cheapestMethod_42 (i := 2) rfl rfl ?_
                refine r_iret dX9_cheapestMethod_43 rfl rfl ?_
                exact ⟨by unfold bmI bm1; first | (rw [if_pos (show csI (p : Int) n 1 ≠ -1 ∧ csI (p : Int) n 1 < csI (p : Int) n 0 by omega)]; (first | rw [if_pos (by omega)] | rw [if_neg (by omega)]) <;> rfl) | (rw [if_neg (show ¬ (csI (p : Int) n 1 ≠ -1 ∧ csI (p : Int) n 1 < csI (p : Int) n 0) by omega)]; (first | rw [if_pos (by omega)] | rw [if_neg (by omega)]) <;> rfl), rfl⟩
              · omega
            · refine r_iload_n dX9_cheapestMethod_34 (i := 3) rfl rfl (r_istore_n dX9_cheapestMethod_35 (i := 2) rfl rfl (Nat.le_of_ble_eq_true rfl) (r_iinc dX9_cheapestMethod_36 rfl rfl (r_goto 4 dX9_cheapestMethod_39 (by decide) (r_iload_n dX9_cheapestMethod_4 (i := 3) rfl rfl ?_))))
              refine r_iconst dX9_cheapestMethod_5 ?_
              refine r_icmp_gt 42 dX9_cheapestMethod_6 (by decide) (by omega) (by omega) (fun c15 => ?_) (fun c15 => ?_)
              · refine r_iload_n dX9_cheapestMethod_42 (i := 2) rfl rfl ?_
                refine r_iret dX9_cheapestMethod_43 rfl rfl ?_
                exact ⟨by unfold bmI bm1; first | (rw [if_pos (show csI (p : Int) n 1 ≠ -1 ∧ csI (p : Int) n 1 < csI (p : Int) n 0 by omega)]; (first | rw [if_pos (by omega)] | rw [if_neg (by omega)]) <;> rfl) | (rw [if_neg (show ¬ (csI (p : Int) n 1 ≠ -1 ∧ csI (p : Int) n 1 < csI (p : Int) n 0) by omega)]; (first | rw [if_pos (by omega)] | rw [if_neg (by omega)]) <;> rfl), rfl⟩
              · omega
      · refine r_iload_n dX9_cheapestMethod_34 (i := 3) rfl rfl (r_istore_n dX9_cheapestMethod_35 (i := 2) rfl rfl (Nat.le_of_ble_eq_true rfl) (r_iinc dX9_cheapestMethod_36 rfl rfl (r_goto 4 dX9_cheapestMethod_39 (by decide) (r_iload_n dX9_cheapestMethod_4 (i := 3) rfl rfl ?_))))
        refine r_iconst dX9_cheapestMethod_5 ?_
        refine r_icmp_gt 42 dX9_cheapestMethod_6 (by decide) (by omega) (by omega) (fun c16 => ?_) (fun c16 => ?_)
        · omega
        · refine r_aload_n dX9_cheapestMethod_9 (i := 0) rfl rfl (r_iload_n dX9_cheapestMethod_10 (i := 1) rfl rfl (r_iload_n dX9_cheapestMethod_11 (i := 3) rfl rfl (c_sr dX9_cheapestMethod_12 (c_X9_methodCost h hn hp (by omega)) rfl rfl mq_X9_methodCost ml_X9_230 ⟨Nat.le_of_ble_eq_true rfl, Nat.le_of_ble_eq_true rfl⟩ rfl rfl (Nat.le_of_ble_eq_true rfl) (r_istore dX9_cheapestMethod_15 rfl (Nat.le_of_ble_eq_true rfl) ?_))))
          refine r_iload dX9_cheapestMethod_17 rfl (r_iconst dX9_cheapestMethod_19 ?_)
          try rw [e2]
          refine r_icmp_eq 36 dX9_cheapestMethod_20 (by decide) (by omega) (by omega) (fun c17 => ?_) (fun c17 => ?_)
          · refine r_iinc dX9_cheapestMethod_36 rfl rfl (r_goto 4 dX9_cheapestMethod_39 (by decide) (r_iload_n dX9_cheapestMethod_4 (i := 3) rfl rfl (r_iconst dX9_cheapestMethod_5 ?_)))
            refine r_icmp_gt 42 dX9_cheapestMethod_6 (by decide) (by omega) (by omega) (fun c18 => ?_) (fun c18 => ?_)
            · refine r_iload_n dX9_cheapestMethod_42 (i := 2) rfl rfl ?_
              refine r_iret dX9_cheapestMethod_43 rfl rfl ?_
              exact ⟨by unfold bmI bm1; first | (rw [if_pos (show csI (p : Int) n 1 ≠ -1 ∧ csI (p : Int) n 1 < csI (p : Int) n 0 by omega)]; (first | rw [if_pos (by omega)] | rw [if_neg (by omega)]) <;> rfl) | (rw [if_neg (show ¬ (csI (p : Int) n 1 ≠ -1 ∧ csI (p : Int) n 1 < csI (p : Int) n 0) by omega)]; (first | rw [if_pos (by omega)] | rw [if_neg (by omega)]) <;> rfl), rfl⟩
            · omega
          · refine r_iload dX9_cheapestMethod_23 rfl (r_aload_n dX9_cheapestMethod_25 (i := 0) rfl rfl (r_iload_n dX9_cheapestMethod_26 (i := 1) rfl rfl (r_iload_n dX9_cheapestMethod_27 (i := 2) rfl rfl (c_sr dX9_cheapestMethod_28 (c_X9_methodCost h hn hp (by omega)) rfl rfl mq_X9_methodCost ml_X9_230 ⟨Nat.le_of_ble_eq_true rfl, Nat.le_of_ble_eq_true rfl⟩ rfl rfl (Nat.le_of_ble_eq_true rfl) ?_))))
            refine r_icmp_ge 36 dX9_cheapestMethod_31 (by decide) (by omega) (by omega) (fun c19 => ?_) (fun c19 => ?_)
            · refine r_iinc dX9_cheapestMethod_36 rfl rfl (r_goto 4 dX9_cheapestMethod_39 (by decide) (r_iload_n dX9_cheapestMethod_4 (i := 3) rfl rfl (r_iconst dX9_cheapestMethod_5 ?_)))
              refine r_icmp_gt 42 dX9_cheapestMethod_6 (by decide) (by omega) (by omega) (fun c20 => ?_) (fun c20 => ?_)
              · refine r_iload_n dX9_cheapestMethod_42 (i := 2) rfl rfl ?_
                refine r_iret dX9_cheapestMethod_43 rfl rfl ?_
                exact ⟨by unfold bmI bm1; first | (rw [if_pos (show csI (p : Int) n 1 ≠ -1 ∧ csI (p : Int) n 1 < csI (p : Int) n 0 by omega)]; (first | rw [if_pos (by omega)] | rw [if_neg (by omega)]) <;> rfl) | (rw [if_neg (show ¬ (csI (p : Int) n 1 ≠ -1 ∧ csI (p : Int) n 1 < csI (p : Int) n 0) by omega)]; (first | rw [if_pos (by omega)] | rw [if_neg (by omega)]) <;> rfl), rfl⟩
              · omega
            · refine r_iload_n dX9_cheapestMethod_34 (i := 3) rfl rfl (r_istore_n dX9_cheapestMethod_35 (i := 2) rfl rfl (Nat.le_of_ble_eq_true rfl) (r_iinc dX9_cheapestMethod_36 rfl rfl (r_goto 4 dX9_cheapestMethod_39 (by decide) (r_iload_n dX9_cheapestMethod_4 (i := 3) rfl rfl ?_))))
              refine r_iconst dX9_cheapestMethod_5 ?_
              refine r_icmp_gt 42 dX9_cheapestMethod_6 (by decide) (by omega) (by omega) (fun c21 => ?_) (fun c21 => ?_)
              · refine r_iload_n dX9_cheapestMethod_42 (i := 2) rfl rfl ?_
                refine r_iret dX9_cheapestMethod_43 rfl rfl ?_
                exact ⟨by unfold bmI bm1; first | (rw [if_pos (show csI (p : Int) n 1 ≠ -1 ∧ csI (p : Int) n 1 < csI (p : Int) n 0 by omega)]; (first | rw [if_pos (by omega)] | rw [if_neg (by omega)]) <;> rfl) | (rw [if_neg (show ¬ (csI (p : Int) n 1 ≠ -1 ∧ csI (p : Int) n 1 < csI (p : Int) n 0) by omega)]; (first | rw [if_pos (by omega)] | rw [if_neg (by omega)]) <;> rfl), rfl⟩
              · omega
theorem l_leastP {n' ab f0 : Nat} (hn : 1 ≤ n' ∧ n' ≤ 128) {v : Int} (hq : Q (.inl (some (vi v))) S) : ∀ (u p : Nat), 100005 ≤ p + u → p ≤ 100200 → 1 ≤ u → pf u n' p = v →
    PW g cX9_leastPrime (iX9_leastPrime mc ms) 21 [(0, some (vi (n' : Int))), (1, some (vi (ab : Int))), (2, some (vi (f0 : Int))), (3, some (vi (p : Int)))] [] S kc ks Q := by
  intro u
  induction u with
  | zero =>
    intro p h1 h2 h3
    omega
  | succ u ih =>
    intro p h1 h2 h3 he
    have e : pf (u + 1) n' p = if 100003 < p then -1 else if prI p = 1 then (p : Int) else pf u n' (p + n') := rfl
    rw [e] at he
    have hcp : PC g yX9_isPrime cX9_isPrime (iX9_isPrime 0 0) [vi (p : Int)] S (Rt (some (vi (prI p))) S) := c_X9_isPrime (n := (p : Int)) (by omega)
    rcases Nat.lt_or_ge 100003 p with z | z
    · rw [if_pos z] at he
      subst he
      refine r_iload_n dX9_leastPrime_21 (i := 3) rfl rfl (r_ldc dX9_leastPrime_22 cst_X9_159 ?_)
      refine r_icmp_gt 43 dX9_leastPrime_24 (by decide) (by omega) (by omega) (fun c1 => ?_) (fun c1 => ?_)
      · refine r_iconst dX9_leastPrime_43 ?_
        refine r_iret dX9_leastPrime_44 rfl rfl ?_
        exact hq
      · omega
    · rw [if_neg (by omega)] at he
      refine r_iload_n dX9_leastPrime_21 (i := 3) rfl rfl (r_ldc dX9_leastPrime_22 cst_X9_159 ?_)
      refine r_icmp_gt 43 dX9_leastPrime_24 (by decide) (by omega) (by omega) (fun c1 => ?_) (fun c1 => ?_)
      · refine r_iconst dX9_leastPrime_43 ?_
        refine r_iret dX9_leastPrime_44 rfl rfl ?_
        first
          | omega
          | (rw [prI_t (by assumption), if_pos rfl] at he
             subst he
             exact hq)
      · refine r_iload_n dX9_leastPrime_27 (i := 3) rfl rfl (c_sr dX9_leastPrime_28 (hcp) rfl rfl mq_X9_isPrime ml_X9_383 ⟨Nat.le_of_ble_eq_true rfl, Nat.le_of_ble_eq_true rfl⟩ rfl rfl (Nat.le_of_ble_eq_true rfl) ?_)
        refine r_if_eq 36 dX9_leastPrime_31 (by decide) b2c_RI (fun c2 => ?_) (fun c2 => ?_)
        · replace c2 := b2c_eq c2
          refine r_iload_n dX9_leastPrime_36 (i := 3) rfl rfl (r_iload_n dX9_leastPrime_37 (i := 0) rfl rfl (r_iadd dX9_leastPrime_38 (r_istore_n dX9_leastPrime_39 (i := 3) rfl rfl (Nat.le_of_ble_eq_true rfl) (r_goto 21 dX9_leastPrime_40 (by decide) ?_))))
          rw [prI_f (by assumption), if_neg (by decide)] at he
          exact r_loc [(0, some (vi (n' : Int))), (1, some (vi (ab : Int))), (2, some (vi (f0 : Int))), (3, some (vi ((p + n' : Nat) : Int)))] ⟨Or.inl rfl, Or.inl rfl, Or.inl rfl, Or.inl rfl, trivial⟩ (ih (p + n') (by omega) (by omega) (by omega) he)
        · replace c2 := b2c_ne c2
          refine r_iload_n dX9_leastPrime_34 (i := 3) rfl rfl ?_
          refine r_iret dX9_leastPrime_35 rfl rfl ?_
          first
            | omega
            | (rw [prI_t (by assumption), if_pos rfl] at he
               subst he
               exact hq)
theorem c_X9_leastPrime {n above : Int} (hn : 1 ≤ n ∧ n ≤ 128) (hab : 2 ≤ above ∧ above ≤ 100002) : PC g yX9_leastPrime cX9_leastPrime (iX9_leastPrime mc ms) [vi n, vi above] S (Rt (some (vi (pfF n above))) S) := by
  refine PC_of pnX9 rfl rfl rfl (Nat.le_of_ble_eq_true rfl) ?_
  have hv : pf 100010 n.toNat (((above - 1) / n + 1) * n + 1).toNat = pfF n above := rfl
  obtain ⟨n', rfl⟩ := Int.eq_ofNat_of_zero_le (show 0 ≤ n by omega)
  obtain ⟨ab, rfl⟩ := Int.eq_ofNat_of_zero_le (show 0 ≤ above by omega)
  have q0 := Int.ediv_nonneg (show 0 ≤ (ab : Int) - 1 by omega) (show 0 ≤ (n' : Int) by omega)
  have q1 := Int.ediv_mul_le ((ab : Int) - 1) (show (n' : Int) ≠ 0 by omega)
  have q2 := Int.mul_nonneg q0 (show 0 ≤ (n' : Int) by omega)
  have e2 : (((ab : Int) - 1) / n' + 1) * n' = ((ab : Int) - 1) / n' * n' + n' := by rw [Int.add_mul, Int.one_mul]
  refine r_iload_n dX9_leastPrime_0 (i := 0) rfl rfl (r_iconst dX9_leastPrime_1 ?_)
  refine r_icmp_ge 7 dX9_leastPrime_2 (by decide) (by omega) (by omega) (fun c1 => ?_) (fun c1 => ?_)
  · refine r_iload_n dX9_leastPrime_7 (i := 1) rfl rfl (r_iconst dX9_leastPrime_8 (r_isub dX9_leastPrime_9 (r_iload_n dX9_leastPrime_10 (i := 0) rfl rfl (r_idivN dX9_leastPrime_11 (by omega) (by omega) (by omega) (by omega) ?_))))
    refine r_iconst dX9_leastPrime_12 (r_iadd dX9_leastPrime_13 (r_iload_n dX9_leastPrime_14 (i := 0) rfl rfl (r_imul dX9_leastPrime_15 (r_iconst dX9_leastPrime_16 ?_))))
    refine r_iadd dX9_leastPrime_17 (r_istore_n dX9_leastPrime_18 (i := 2) rfl rfl (Nat.le_of_ble_eq_true rfl) (r_iload_n dX9_leastPrime_19 (i := 2) rfl rfl (r_istore_n dX9_leastPrime_20 (i := 3) rfl rfl (Nat.le_of_ble_eq_true rfl) ?_)))
    have e3 : (((((ab : Int) - 1) / n' + 1) * n' + 1).toNat : Int) = (((ab : Int) - 1) / n' + 1) * n' + 1 := by omega
    exact r_loc [(0, some (vi (n' : Int))), (1, some (vi (ab : Int))), (2, some (vi (((((ab : Int) - 1) / n' + 1) * n' + 1).toNat : Int))), (3, some (vi (((((ab : Int) - 1) / n' + 1) * n' + 1).toNat : Int)))] ⟨Or.inl rfl, Or.inl rfl, Or.inl (lvi_eq e3), Or.inl (lvi_eq e3), trivial⟩ (l_leastP (by omega) ⟨rfl, rfl⟩ 100010 _ (by omega) (by omega) (by omega) hv)
  · refine r_iconst dX9_leastPrime_5 ?_
    refine r_iret dX9_leastPrime_6 rfl rfl ?_
    omega
end COST

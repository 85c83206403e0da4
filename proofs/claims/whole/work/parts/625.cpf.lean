/-! the class: copyFields -/
section CPF
variable {g : GT} {S : PS} {mc ms : Nat} {kc ks : Nat} {q0 q1 : Nat} {f h : Int → Option Nat}
theorem l_cpF (hq0 : S.1 q0 = some (cR 6 6 f)) (hq1 : S.1 q1 = some (cR 6 6 h)) (hne : q0 ≠ q1) (hel : ∀ i : Nat, i < 6 → ∀ y : Nat, f i = some y → ∃ fs, S.1 y = some (cO 1 fs)) : ∀ (n i : Nat), i + n = 6 → ∀ f' : Int → Option Nat, (∀ k : Int, 0 ≤ k → k < i → f' k = f k) →
    PW g cX9_copyFields (iX9_copyFields mc ms) 2 [(0, some (.ref q0)), (1, some (.ref q1)), (2, some (vi (i : Int)))] [] (ps_put S q1 (cR 6 6 f')) kc ks (Rt none (ps_put S q1 (cR 6 6 f))) := by
  intro n
  induction n with
  | zero =>
    intro i hi f' hf'
    have e : i = 6 := by omega
    subst e
    refine r_iload_n dX9_copyFields_2 (i := 2) rfl rfl (r_aload_n dX9_copyFields_3 (i := 0) rfl rfl (r_alen (z := 6) dX9_copyFields_4 (ps_ne hne hq0) rfl ?_))
    refine r_icmp_ge 26 dX9_copyFields_5 (by decide) (by omega) (by omega) (fun c1 => ?_) (fun c1 => ?_)
    · refine r_R (f' := f) ps_same (fun k k0 k1 => (hf' k k0 k1).symm) ?_
      rw [ps_put_put]
      refine r_vret dX9_copyFields_26 rfl ?_
      exact ⟨rfl, rfl⟩
    · omega
  | succ n ih =>
    intro i hi f' hf'
    refine r_iload_n dX9_copyFields_2 (i := 2) rfl rfl (r_aload_n dX9_copyFields_3 (i := 0) rfl rfl (r_alen (z := 6) dX9_copyFields_4 (ps_ne hne hq0) rfl ?_))
    refine r_icmp_ge 26 dX9_copyFields_5 (by decide) (by omega) (by omega) (fun c1 => ?_) (fun c1 => ?_)
    · omega
    refine r_iload_n dX9_copyFields_8 (i := 2) rfl rfl (r_aload_n dX9_copyFields_9 (i := 1) rfl rfl (r_alen (z := 6) dX9_copyFields_10 ps_same rfl ?_))
    refine r_icmp_ge 26 dX9_copyFields_11 (by decide) (by omega) (by omega) (fun c2 => ?_) (fun c2 => ?_)
    · omega
    refine r_aload_n dX9_copyFields_14 (i := 1) rfl rfl (r_iload_n dX9_copyFields_15 (i := 2) rfl rfl (r_aload_n dX9_copyFields_16 (i := 0) rfl rfl (r_iload_n dX9_copyFields_17 (i := 2) rfl rfl ?_)))
    refine r_aaldR dX9_copyFields_18 (ps_ne hne hq0) rfl (by omega) (by omega) (by omega) ?_
    refine r_aastR (ci := 1) dX9_copyFields_19 ps_same rfl rfl (fun v hv => ?_) (by omega) (by omega) (by omega) ?_
    · obtain ⟨fs, h1⟩ := hel i (by omega) v hv
      exact ⟨fs, ps_ne (fun e => by rw [e, hq1] at h1; cases h1) h1⟩
    rw [ps_put_put]
    refine r_iinc dX9_copyFields_20 rfl rfl (r_goto 2 dX9_copyFields_23 (by decide) ?_)
    refine r_loc [(0, some (.ref q0)), (1, some (.ref q1)), (2, some (vi ((i + 1 : Nat) : Int)))] ⟨Or.inl rfl, Or.inl rfl, Or.inl rfl, trivial⟩ (ih (i + 1) (by omega) _ (fun k k0 k1 => ?_))
    unfold upR
    by_cases e : k = (i : Int)
    · rw [if_pos e, e]
    · rw [if_neg e]
      exact hf' k k0 (by omega)
theorem c_X9_copyFields (hq0 : S.1 q0 = some (cR 6 6 f)) (hq1 : S.1 q1 = some (cR 6 6 h)) (hne : q0 ≠ q1) (hel : ∀ i : Nat, i < 6 → ∀ y : Nat, f i = some y → ∃ fs, S.1 y = some (cO 1 fs)) : PC g yX9_copyFields cX9_copyFields (iX9_copyFields mc ms) [.ref q0, .ref q1] S (Rt none (ps_put S q1 (cR 6 6 f))) := by
  refine PC_of pnX9 rfl rfl rfl (Nat.le_of_ble_eq_true rfl) ?_
  refine r_iconst dX9_copyFields_0 (r_istore_n dX9_copyFields_1 (i := 2) rfl rfl (Nat.le_of_ble_eq_true rfl) ?_)
  refine r_loc [(0, some (.ref q0)), (1, some (.ref q1)), (2, some (vi ((0 : Nat) : Int)))] ⟨Or.inl rfl, Or.inl rfl, Or.inl rfl, trivial⟩ ?_
  refine r_R (f' := h) hq1 (fun k k0 k1 => rfl) ?_
  exact l_cpF hq0 hq1 hne hel 6 0 rfl h (fun k k0 k1 => by omega)
end CPF

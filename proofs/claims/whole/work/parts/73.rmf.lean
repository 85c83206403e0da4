/-! the class: Bench.removeField -/
def mixR (lo i : Int) (A B : Int → Option Nat) : Int → Option Nat := fun x => if lo ≤ x ∧ x < i then A x else B x
theorem mixR_up {A B : Int → Option Nat} {lo i : Int} {v : Nat} (h : lo ≤ i) (hv : some v = A i) : upR (mixR lo i A B) i (some v) = mixR lo (i + 1) A B := by
  funext x
  unfold upR mixR
  by_cases e : x = i
  · subst e
    rw [if_pos rfl, if_pos ⟨h, by omega⟩, hv]
  · rw [if_neg e]
    by_cases e2 : lo ≤ x ∧ x < i
    · rw [if_pos e2, if_pos ⟨e2.1, by omega⟩]
    · rw [if_neg e2, if_neg (fun z => e2 ⟨z.1, by omega⟩)]
theorem mixR_0 {A B : Int → Option Nat} {lo : Int} : mixR lo lo A B = B := by
  funext x
  unfold mixR
  rw [if_neg (by omega)]
section RMF
variable {g : GT} {S : PS} {mc ms : Nat} {Q : PO → PS → Prop} {kc ks : Nat} {b F : Nat} {n q : Int} {r : Int → Option Nat}
theorem l_rmF (h : S.1 b = some (bO b (n - 1))) (hF : b + 14 ≤ F) (hn : 0 ≤ n ∧ n ≤ 6) (hr : ∀ i : Int, 0 ≤ i → i < n → ∃ y, r i = some y ∧ F ≤ y ∧ ∃ fs, S.1 y = some (cO 1 fs)) (hq : 0 ≤ q ∧ q < n) (hk : Q (.inl none) (ps_put S (b + 1) (cR 6 6 (mixR q (n - 1) (fun x => r (x + 1)) r)))) : ∀ (m i : Nat), (i : Int) + m = n - 1 → q ≤ (i : Int) →
    PW g cX0_removeField (iX0_removeField mc ms) 12 [(0, some (.ref b)), (1, some (vi q)), (2, some (vi (i : Int)))] [] (ps_put S (b + 1) (cR 6 6 (mixR q (i : Int) (fun x => r (x + 1)) r))) kc ks Q := by
  intro m
  induction m with
  | zero =>
    intro i hi hqi
    have h1 : (ps_put S (b + 1) (cR 6 6 (mixR q (i : Int) (fun x => r (x + 1)) r))).1 b = some (bO b (n - 1)) := ps_ne (by omega) h
    refine r_iload_n dX0_removeField_12 (i := 2) rfl rfl (r_aload_n dX0_removeField_13 (i := 0) rfl rfl (r_get dX0_removeField_14 fl_X0_36 h1 rfl ?_))
    refine r_icmp_ge 40 dX0_removeField_17 (by decide) (by omega) (by omega) (fun c1 => ?_) (fun c1 => ?_)
    · refine r_vret dX0_removeField_40 rfl ?_
      rw [show (i : Int) = n - 1 by omega]
      exact hk
    · omega
  | succ m ih =>
    intro i hi hqi
    have h1 : (ps_put S (b + 1) (cR 6 6 (mixR q (i : Int) (fun x => r (x + 1)) r))).1 b = some (bO b (n - 1)) := ps_ne (by omega) h
    obtain ⟨y, y1, y2, fs, y3⟩ := hr ((i : Int) + 1) (by omega) (by omega)
    have hy : mixR q (i : Int) (fun x => r (x + 1)) r ((i : Int) + 1) = some y := by
      unfold mixR
      rw [if_neg (by omega)]
      exact y1
    refine r_iload_n dX0_removeField_12 (i := 2) rfl rfl (r_aload_n dX0_removeField_13 (i := 0) rfl rfl (r_get dX0_removeField_14 fl_X0_36 h1 rfl ?_))
    refine r_icmp_ge 40 dX0_removeField_17 (by decide) (by omega) (by omega) (fun c1 => ?_) (fun c1 => ?_)
    · omega
    · refine r_aload_n dX0_removeField_20 (i := 0) rfl rfl (r_get dX0_removeField_21 fl_X0_11 h1 rfl (r_iload_n dX0_removeField_24 (i := 2) rfl rfl (r_aload_n dX0_removeField_25 (i := 0) rfl rfl (r_get dX0_removeField_26 fl_X0_11 h1 rfl ?_))))
      refine r_iload_n dX0_removeField_29 (i := 2) rfl rfl (r_iconst dX0_removeField_30 (r_iadd dX0_removeField_31 (r_aald dX0_removeField_32 ps_same rfl (by omega) (by omega) (by omega) hy ?_)))
      refine r_aast dX0_removeField_33 ps_same rfl rfl (ps_ne (by omega) y3) (by omega) (by omega) (by omega) (r_iinc dX0_removeField_34 rfl rfl (r_goto 12 dX0_removeField_37 (by decide) ?_))
      rw [ps_put_put, mixR_up hqi y1.symm]
      exact r_loc [(0, some (.ref b)), (1, some (vi q)), (2, some (vi ((i + 1 : Nat) : Int)))] ⟨Or.inl rfl, Or.inl rfl, Or.inl rfl, trivial⟩ (ih (i + 1) (by omega) (by omega))
theorem c_X0_removeField (h : S.1 b = some (bO b n)) (h1 : S.1 (b + 1) = some (cR 6 6 r)) (hF : b + 14 ≤ F) (hn : 0 ≤ n ∧ n ≤ 6) (hr : ∀ i : Int, 0 ≤ i → i < n → ∃ y, r i = some y ∧ F ≤ y ∧ ∃ fs, S.1 y = some (cO 1 fs)) (hq : 0 ≤ q ∧ q < n) : PC g yX0_removeField cX0_removeField (iX0_removeField mc ms) [.ref b, vi q] S (Rt none (ps_put (ps_put S b (bO b (n - 1))) (b + 1) (cR 6 6 (mixR q (n - 1) (fun x => r (x + 1)) r)))) := by
  refine PC_of pnX0 rfl rfl rfl (Nat.le_of_ble_eq_true rfl) ?_
  obtain ⟨i, rfl⟩ := Int.eq_ofNat_of_zero_le hq.1
  refine r_aload_n dX0_removeField_0 (i := 0) rfl rfl (r_dup dX0_removeField_1 rfl (r_get dX0_removeField_2 fl_X0_36 h rfl (r_iconst dX0_removeField_5 (r_isub dX0_removeField_6 ?_))))
  refine r_put dX0_removeField_7 fl_X0_36 h rfl rfl (Nat.le_of_ble_eq_true rfl) (r_iload_n dX0_removeField_10 (i := 1) rfl rfl (r_istore_n dX0_removeField_11 (i := 2) rfl rfl (Nat.le_of_ble_eq_true rfl) ?_))
  have hA : ∀ S0 : PS, S0.1 (b + 1) = some (cR 6 6 r) → S0 = ps_put S0 (b + 1) (cR 6 6 (mixR (i : Int) (i : Int) (fun x => r (x + 1)) r)) := fun S0 h9 => by
    rw [mixR_0]
    exact (ps_put_self h9).symm
  refine r_ps (hA _ (ps_ne (by omega) h1)) ?_
  refine r_loc [(0, some (.ref b)), (1, some (vi (i : Int))), (2, some (vi (i : Int)))] ⟨Or.inl rfl, Or.inl rfl, Or.inl rfl, trivial⟩ ?_
  refine l_rmF ps_same hF hn (fun j j0 j1 => ?_) hq ?_ (n - 1 - (i : Int)).toNat i (by omega) (Int.le_refl _)
  · obtain ⟨y, y1, y2, fs, y3⟩ := hr j j0 j1
    exact ⟨y, y1, y2, fs, ps_ne (by omega) y3⟩
  · exact ⟨rfl, rfl⟩
end RMF

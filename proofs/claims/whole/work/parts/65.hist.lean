/-! the class: History -/
def upH (H : Int → Int → Int) (i : Int) (a : Int → Int) : Int → Int → Int := fun j => if j = i then a else H j
/-- the ring of eight benches -/
def HiAt (S : PS) (h F : Nat) (nx ct : Int) (H : Int → Int → Int) : Prop := S.1 h = some (cO 2 [.ref (h + 1), vi nx, vi ct]) ∧ S.1 (h + 1) = some (cR 4 8 (fun i => some (h + 2 + 14 * i.toNat))) ∧ ∀ i : Nat, i < 8 → BnAt S (h + 2 + 14 * i) F (H i)
def FrX (lo hi : Nat) (S S' : PS) : Prop := (∀ z : Nat, z < lo ∨ hi ≤ z → S'.1 z = S.1 z) ∧ S'.2 = S.2
theorem FrX.ext {lo hi F : Nat} {S S' : PS} (h : FrX lo hi S S') (hF : hi ≤ F) : Ext F S S' := fun z hz c hc => by
  rw [h.1 z (by omega)]
  exact hc
theorem FrX.bn {lo hi b F : Nat} {S S' : PS} {a : Int → Int} (h : FrX lo hi S S') (hF : hi ≤ F) (hne : b + 13 < lo ∨ hi ≤ b) (hb : BnAt S b F a) : BnAt S' b F a := hb.frame (h.ext hF) (fun z z1 z2 => h.1 z (by omega))
section HIST
variable {g : GT} {S : PS} {mc ms : Nat} {Q : PO → PS → Prop} {kc ks : Nat} {b h F : Nat} {a : Int → Int} {nx ct : Int} {H : Int → Int → Int}
theorem c_X2_keep (hF : h + 114 ≤ F) (hne : b + 13 < h ∨ h + 114 ≤ b) (hh : HiAt S h F nx ct H) (hn : 0 ≤ nx ∧ nx < 8) (hc : 0 ≤ ct ∧ ct ≤ 8) (hb : BnAt S b F a) : PC g yX2_keep cX2_keep (iX2_keep mc ms) [.ref h, .ref b] S (fun o S' => o = .inl none ∧ FrX h (h + 114) S S' ∧ HiAt S' h F ((nx + 1) % 8) (min (ct + 1) 8) (upH H nx a)) := by
  refine PC_of pnX2 rfl rfl rfl (Nat.le_of_ble_eq_true rfl) ?_
  obtain ⟨h1, h2, h3⟩ := hh
  obtain ⟨i, rfl⟩ := Int.eq_ofNat_of_zero_le hn.1
  have hbi := h3 i (by omega)
  have e0 : (some (h + 2 + 14 * ((i : Int)).toNat) : Option Nat) = some (h + 2 + 14 * i) := rfl
  refine r_aload_n dX2_keep_0 (i := 0) rfl rfl (r_get dX2_keep_1 fl_X2_11 h1 rfl (r_aload_n dX2_keep_4 (i := 0) rfl rfl (r_get dX2_keep_5 fl_X2_18 h1 rfl (r_aald dX2_keep_8 h2 rfl (by omega) (by omega) (by omega) e0 ?_))))
  refine r_aload_n dX2_keep_9 (i := 1) rfl rfl ?_
  refine c_vq dX2_keep_10 (c_X0_copyFrom (b := h + 2 + 14 * i) (b' := b) (by omega) (by omega) hbi hb) rfl rfl mq_X0_copyFrom ml_X2_22 ⟨Nat.le_of_ble_eq_true rfl, Nat.le_of_ble_eq_true rfl⟩ hbi.1.1 rfl rfl rfl (Nat.le_of_ble_eq_true rfl) (fun E S' h => by simp at h) (fun v S' hq => ?_)
  obtain ⟨e1, f1, f2⟩ := hq
  cases e1
  have g1 : S'.1 h = some (cO 2 [.ref (h + 1), vi (i : Int), vi ct]) := by
    rw [f1.1 h (by omega)]
    exact h1
  show PW _ _ _ 13 _ [] _ _ _ _
  refine r_aload_n dX2_keep_13 (i := 0) rfl rfl (r_aload_n dX2_keep_14 (i := 0) rfl rfl (r_get dX2_keep_15 fl_X2_18 g1 rfl (r_iconst dX2_keep_18 (r_iadd dX2_keep_19 ?_))))
  refine r_bipush dX2_keep_20 (by decide) (r_iremN dX2_keep_22 (by omega) (by omega) (by omega) (by omega) (r_put dX2_keep_23 fl_X2_18 g1 rfl rfl (Nat.le_of_ble_eq_true rfl) (r_aload_n dX2_keep_26 (i := 0) rfl rfl (r_aload_n dX2_keep_27 (i := 0) rfl rfl ?_))))
  refine r_get dX2_keep_28 fl_X2_26 ps_same rfl (r_iconst dX2_keep_31 (r_iadd dX2_keep_32 (r_bipush dX2_keep_33 (by decide) (r_mmin dX2_keep_35 mw_X2_29 (by omega) (by omega) (Nat.le_of_ble_eq_true rfl) (Nat.le_of_ble_eq_true rfl) ?_))))
  refine r_put dX2_keep_38 fl_X2_26 ps_same rfl rfl (Nat.le_of_ble_eq_true rfl) (r_vret dX2_keep_41 rfl ?_)
  rw [ps_put_put]
  have hE : ∀ (e : PE) (z : Nat), z ≠ h → (ps_put S' h e).1 z = S'.1 z := fun e z hz => ps_ne hz rfl
  have hX : ∀ e : PE, Ext F S' (ps_put S' h e) := fun e z hz c hc => by
    rw [hE e z (by omega)]
    exact hc
  refine ⟨rfl, ⟨fun z hz => ?_, f1.2⟩, ps_same, ?_, fun j hj => ?_⟩
  · rw [hE _ z (by omega)]
    exact f1.1 z (by omega)
  · rw [hE _ _ (by omega), f1.1 _ (by omega)]
    exact h2
  · unfold upH
    by_cases e : j = i
    · subst e
      rw [if_pos rfl]
      exact f2.frame (hX _) (fun z z1 z2 => hE _ z (by omega))
    · rw [if_neg (by omega)]
      exact (f1.bn (by omega) (by omega) (h3 j hj)).frame (hX _) (fun z z1 z2 => hE _ z (by omega))
/-- the state before the latest change comes back -/
theorem c_X2_giveBack (hF : h + 114 ≤ F) (hFb : b + 14 ≤ F) (hne : b + 13 < h ∨ h + 114 ≤ b) (hh : HiAt S h F nx ct H) (hn : 0 ≤ nx ∧ nx < 8) (hc : 1 ≤ ct ∧ ct ≤ 8) (hb : BnAt S b F a) : PC g yX2_giveBack cX2_giveBack (iX2_giveBack mc ms) [.ref h, .ref b] S (fun o S' => o = .inl none ∧ ((∀ z : Nat, z ≠ h → z < b ∨ b + 14 ≤ z → S'.1 z = S.1 z) ∧ S'.2 = S.2) ∧ HiAt S' h F ((nx + 7) % 8) (ct - 1) H ∧ BnAt S' b F (H ((nx + 7) % 8))) := by
  refine PC_of pnX2 rfl rfl rfl (Nat.le_of_ble_eq_true rfl) ?_
  obtain ⟨h1, h2, h3⟩ := hh
  obtain ⟨i, hi⟩ := Int.eq_ofNat_of_zero_le (show 0 ≤ (nx + 7) % 8 by omega)
  have hi8 : i < 8 := by omega
  have ex : nx + 8 - 1 = nx + 7 := by omega
  have e0 : (some (h + 2 + 14 * ((i : Int)).toNat) : Option Nat) = some (h + 2 + 14 * i) := rfl
  refine r_aload_n dX2_giveBack_0 (i := 0) rfl rfl (r_aload_n dX2_giveBack_1 (i := 0) rfl rfl (r_get dX2_giveBack_2 fl_X2_18 h1 rfl (r_bipush dX2_giveBack_5 (by decide) (r_iadd dX2_giveBack_7 ?_))))
  refine r_iconst dX2_giveBack_8 (r_isub dX2_giveBack_9 ?_)
  rw [ex]
  refine r_bipush dX2_giveBack_10 (by decide) (r_iremN dX2_giveBack_12 (by omega) (by omega) (by omega) (by omega) ?_)
  rw [hi]
  have k2 : (ps_put (ps_put S h (cO 2 [.ref (h + 1), vi (i : Int), vi ct])) h (cO 2 [.ref (h + 1), vi (i : Int), vi (ct - 1)])).1 (h + 1) = some (cR 4 8 (fun i => some (h + 2 + 14 * i.toNat))) := ps_ne (by omega) (ps_ne (by omega) h2)
  refine r_put dX2_giveBack_13 fl_X2_18 h1 rfl rfl (Nat.le_of_ble_eq_true rfl) (r_aload_n dX2_giveBack_16 (i := 0) rfl rfl (r_dup dX2_giveBack_17 rfl (r_get dX2_giveBack_18 fl_X2_26 ps_same rfl (r_iconst dX2_giveBack_21 ?_))))
  refine r_isub dX2_giveBack_22 (r_put dX2_giveBack_23 fl_X2_26 ps_same rfl rfl (Nat.le_of_ble_eq_true rfl) (r_aload_n dX2_giveBack_26 (i := 1) rfl rfl (r_aload_n dX2_giveBack_27 (i := 0) rfl rfl (r_get dX2_giveBack_28 fl_X2_11 ps_same rfl ?_))))
  refine r_aload_n dX2_giveBack_31 (i := 0) rfl rfl (r_get dX2_giveBack_32 fl_X2_18 ps_same rfl (r_aald dX2_giveBack_35 k2 rfl (by omega) (by omega) (by omega) e0 ?_))
  rw [ps_put_put]
  have hE : ∀ (e : PE) (z : Nat), z ≠ h → (ps_put S h e).1 z = S.1 z := fun e z hz => ps_ne hz rfl
  have hX : ∀ e : PE, Ext F S (ps_put S h e) := fun e z hz c hc => by
    rw [hE e z (by omega)]
    exact hc
  have hB : ∀ (e : PE) (b0 : Nat) (a0 : Int → Int), b0 + 13 < h ∨ h + 1 ≤ b0 → BnAt S b0 F a0 → BnAt (ps_put S h e) b0 F a0 := fun e b0 a0 h0 hb0 => hb0.frame (hX e) (fun z z1 z2 => hE e z (by omega))
  have hbi := hB (cO 2 [.ref (h + 1), vi (i : Int), vi (ct - 1)]) _ _ (by omega) (h3 i hi8)
  have hbb := hB (cO 2 [.ref (h + 1), vi (i : Int), vi (ct - 1)]) _ _ (by omega) hb
  refine c_vq dX2_giveBack_36 (c_X0_copyFrom (b := b) (b' := h + 2 + 14 * i) hFb (by omega) hbb hbi) rfl rfl mq_X0_copyFrom ml_X2_22 ⟨Nat.le_of_ble_eq_true rfl, Nat.le_of_ble_eq_true rfl⟩ hbb.1.1 rfl rfl rfl (Nat.le_of_ble_eq_true rfl) (fun E S' h => by simp at h) (fun v S' hq => ?_)
  obtain ⟨e1, f1, f2⟩ := hq
  cases e1
  show PW _ _ _ 39 _ [] _ _ _ _
  refine r_vret dX2_giveBack_39 rfl ?_
  refine ⟨rfl, ⟨fun z z1 z2 => ?_, f1.2⟩, ⟨?_, ?_, fun j hj => ?_⟩, f2⟩
  · rw [f1.1 z z2]
    exact hE _ z z1
  · rw [f1.1 h (by omega)]
    exact ps_same
  · rw [f1.1 _ (by omega), hE _ _ (by omega)]
    exact h2
  · exact f1.bn hFb (by omega) (hB _ _ _ (by omega) (h3 j hj))
end HIST

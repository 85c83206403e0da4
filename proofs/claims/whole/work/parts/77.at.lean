/-! the class: fieldAt, sequenceAt, presentProduct -/
section AT
variable {g : GT} {S : PS} {mc ms : Nat} {x F : Nat} {a : Int → Int}
theorem c_X9_sequenceAt1 {s : Int} {w : Int → Nat} (hx : S.1 x = some (xO x)) (hb : S.1 (x + 1) = some (bO (x + 1) (a 0))) (h2 : S.1 (x + 1 + 2) = some (cR 5 4 (fun s => some (x + 1 + 6 + 2 * w s)))) (hs : RI s) (h : 0 ≤ s ∧ s ≤ 3) : PC g yX9_sequenceAt cX9_sequenceAt (iX9_sequenceAt mc ms) [.ref x, vi s] S (Rt (some (.ref (x + 1 + 6 + 2 * w s))) S) := by
  refine PC_of pnX9 rfl rfl rfl (Nat.le_of_ble_eq_true rfl) ?_
  refine r_aload_n dX9_sequenceAt_0 (i := 0) rfl rfl (r_iload_n dX9_sequenceAt_1 (i := 1) rfl rfl (c_vn dX9_sequenceAt_2 (c_X9_requireSlot1 hs h) rfl rfl mq_X9_requireSlot ml_X9_219 ⟨Nat.le_of_ble_eq_true rfl, Nat.le_of_ble_eq_true rfl⟩ hx rfl rfl rfl (Nat.le_of_ble_eq_true rfl) (r_aload_n dX9_sequenceAt_5 (i := 0) rfl rfl (r_get dX9_sequenceAt_6 fl_X9_10 hx rfl ?_))))
  refine r_get dX9_sequenceAt_9 fl_X9_368 hb rfl (r_iload_n dX9_sequenceAt_12 (i := 1) rfl rfl (r_aald dX9_sequenceAt_13 h2 rfl (by omega) (by omega) (by omega) rfl (r_aret dX9_sequenceAt_14 rfl ?_)))
  exact ⟨rfl, rfl⟩
theorem c_X9_sequenceAt0 {s : Int} (hx : S.1 x = some (xO x)) (hs : RI s) (h : ¬ (0 ≤ s ∧ s ≤ 3)) (hm : 1 ≤ mc) (hm2 : 6 ≤ ms) : PC g yX9_sequenceAt cX9_sequenceAt (iX9_sequenceAt mc ms) [.ref x, vi s] S (Th "java/lang/IndexOutOfBoundsException" S) := by
  refine PC_of pnX9 rfl rfl rfl (Nat.le_of_ble_eq_true rfl) ?_
  refine r_bud (kc' := 1) (ks' := 6) hm hm2 ?_
  refine r_aload_n dX9_sequenceAt_0 (i := 0) rfl rfl (r_iload_n dX9_sequenceAt_1 (i := 1) rfl rfl ?_)
  exact c_vx (E := "") dX9_sequenceAt_2 (c_X9_requireSlot0 (mc := 1) (ms := 6) hs h (by omega) (by omega)) rfl mq_X9_requireSlot ml_X9_219 ⟨Nat.le_of_ble_eq_true rfl, Nat.le_of_ble_eq_true rfl⟩ hx rfl rfl rfl (Nat.le_of_ble_eq_true rfl) (by show 1 ≤ 1; omega) (by show 6 ≤ 6; omega) (fun o S' ho => ⟨_, ho.1, rfl, ho.2⟩)
theorem c_X9_fieldAt1 {q : Int} {r : Int → Option Nat} {y : Nat} (hx : S.1 x = some (xO x)) (hb : S.1 (x + 1) = some (bO (x + 1) (a 0))) (h1 : S.1 (x + 1 + 1) = some (cR 6 6 r)) (hn : 0 ≤ a 0 ∧ a 0 ≤ 6) (hq : RI q) (h : 0 ≤ q ∧ q ≤ a 0 - 1) (hy : r q = some y) : PC g yX9_fieldAt cX9_fieldAt (iX9_fieldAt mc ms) [.ref x, vi q] S (Rt (some (.ref y)) S) := by
  refine PC_of pnX9 rfl rfl rfl (Nat.le_of_ble_eq_true rfl) ?_
  refine r_aload_n dX9_fieldAt_0 (i := 0) rfl rfl (r_iload_n dX9_fieldAt_1 (i := 1) rfl rfl (c_vn dX9_fieldAt_2 (c_X9_requirePrime1 hx hb hn hq h) rfl rfl mq_X9_requirePrime ml_X9_103 ⟨Nat.le_of_ble_eq_true rfl, Nat.le_of_ble_eq_true rfl⟩ hx rfl rfl rfl (Nat.le_of_ble_eq_true rfl) (r_aload_n dX9_fieldAt_5 (i := 0) rfl rfl (r_get dX9_fieldAt_6 fl_X9_10 hx rfl ?_))))
  refine r_get dX9_fieldAt_9 fl_X9_364 hb rfl (r_iload_n dX9_fieldAt_12 (i := 1) rfl rfl (r_aald dX9_fieldAt_13 h1 rfl (by omega) (by omega) (by omega) hy (r_aret dX9_fieldAt_14 rfl ?_)))
  exact ⟨rfl, rfl⟩
theorem c_X9_fieldAt0 {q : Int} (hx : S.1 x = some (xO x)) (hb : S.1 (x + 1) = some (bO (x + 1) (a 0))) (hn : 0 ≤ a 0 ∧ a 0 ≤ 6) (hq : RI q) (h : ¬ (0 ≤ q ∧ q ≤ a 0 - 1)) (hm : 1 ≤ mc) (hm2 : 6 ≤ ms) : PC g yX9_fieldAt cX9_fieldAt (iX9_fieldAt mc ms) [.ref x, vi q] S (Th "java/lang/IndexOutOfBoundsException" S) := by
  refine PC_of pnX9 rfl rfl rfl (Nat.le_of_ble_eq_true rfl) ?_
  refine r_bud (kc' := 1) (ks' := 6) hm hm2 ?_
  refine r_aload_n dX9_fieldAt_0 (i := 0) rfl rfl (r_iload_n dX9_fieldAt_1 (i := 1) rfl rfl ?_)
  exact c_vx (E := "") dX9_fieldAt_2 (c_X9_requirePrime0 (mc := 1) (ms := 6) hx hb hn hq h (by omega) (by omega)) rfl mq_X9_requirePrime ml_X9_103 ⟨Nat.le_of_ble_eq_true rfl, Nat.le_of_ble_eq_true rfl⟩ hx rfl rfl rfl (Nat.le_of_ble_eq_true rfl) (by show 1 ≤ 1; omega) (by show 6 ≤ 6; omega) (fun o S' ho => ⟨_, ho.1, rfl, ho.2⟩)
end AT

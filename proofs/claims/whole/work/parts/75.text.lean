/-! the class: TextReader's small helpers -/
abbrev rO (r : Nat) (fd en at' er ea : Int) : PE := cO 8 [.ref (r + 1), .ref (r + 2), vi fd, vi en, vi at', vi er, vi ea]
/-- a byte of the text from 0 to 255; -1 behind its end -/
def seeI (tx : Int → Int) (n k : Int) : Int := if 0 ≤ k ∧ k < n then tx k % 256 else -1
theorem seeI_bd (tx : Int → Int) (n k : Int) : -1 ≤ seeI tx n k ∧ seeI tx n k ≤ 255 := by
  unfold seeI
  split <;> omega
/-- behind what has a property, u places at most -/
def skP (P : Int → Bool) : Nat → Int → Int
  | 0, p => p
  | u + 1, p => if P p = true then skP P u (p + 1) else p
section TEXT
variable {g : GT} {S : PS} {mc ms : Nat} {Q : PO → PS → Prop} {kc ks : Nat} {r : Nat} {fd en at' er ea : Int} {tx : Int → Int}
theorem c_X8_hasSpace (h : S.1 r = some (rO r fd en at' er ea)) (hf : 0 ≤ fd ∧ fd ≤ 600) : PC g yX8_hasSpace cX8_hasSpace (iX8_hasSpace mc ms) [.ref r] S (Rt (some (vi (b2i (fd + 20 ≤ 600)))) S) := by
  refine PC_of pnX8 rfl rfl rfl (Nat.le_of_ble_eq_true rfl) ?_
  refine r_aload_n dX8_hasSpace_0 (i := 0) rfl rfl (r_get dX8_hasSpace_1 fl_X8_26 h rfl (r_bipush dX8_hasSpace_4 (by decide) (r_iadd dX8_hasSpace_6 (r_sipush dX8_hasSpace_7 (by decide) ?_))))
  refine r_icmp_gt 17 dX8_hasSpace_10 (by decide) (by omega) (by omega) (fun c1 => ?_) (fun c1 => ?_)
  · refine r_iconst dX8_hasSpace_17 ?_
    refine r_iret dX8_hasSpace_18 rfl (q_narZ (by first | exact Or.inl rfl | exact Or.inr rfl)) ?_
    first | omega | exact ⟨rfl, rfl⟩ | exact ⟨by rw [b2i_t (by omega)], rfl⟩ | exact ⟨by rw [b2i_f (by omega)], rfl⟩
  · refine r_iconst dX8_hasSpace_13 (r_goto 18 dX8_hasSpace_14 (by decide) ?_)
    refine r_iret dX8_hasSpace_18 rfl (q_narZ (by first | exact Or.inl rfl | exact Or.inr rfl)) ?_
    first | omega | exact ⟨rfl, rfl⟩ | exact ⟨by rw [b2i_t (by omega)], rfl⟩ | exact ⟨by rw [b2i_f (by omega)], rfl⟩
theorem c_X8_isDigit {z : Int} (hz : RI z) : PC g yX8_isDigit cX8_isDigit (iX8_isDigit mc ms) [vi z] S (Rt (some (vi (b2i (48 ≤ z ∧ z ≤ 57)))) S) := by
  refine PC_of pnX8 rfl rfl rfl (Nat.le_of_ble_eq_true rfl) ?_
  refine r_iload_n dX8_isDigit_0 (i := 0) rfl rfl (r_bipush dX8_isDigit_1 (by decide) ?_)
  refine r_icmp_lt 16 dX8_isDigit_3 (by decide) (by omega) (by omega) (fun c1 => ?_) (fun c1 => ?_)
  · refine r_iconst dX8_isDigit_16 ?_
    refine r_iret dX8_isDigit_17 rfl (q_narZ (by first | exact Or.inl rfl | exact Or.inr rfl)) ?_
    first | omega | exact ⟨rfl, rfl⟩ | exact ⟨by rw [b2i_t (by omega)], rfl⟩ | exact ⟨by rw [b2i_f (by omega)], rfl⟩
  · refine r_iload_n dX8_isDigit_6 (i := 0) rfl rfl (r_bipush dX8_isDigit_7 (by decide) ?_)
    refine r_icmp_gt 16 dX8_isDigit_9 (by decide) (by omega) (by omega) (fun c2 => ?_) (fun c2 => ?_)
    · refine r_iconst dX8_isDigit_16 ?_
      refine r_iret dX8_isDigit_17 rfl (q_narZ (by first | exact Or.inl rfl | exact Or.inr rfl)) ?_
      first | omega | exact ⟨rfl, rfl⟩ | exact ⟨by rw [b2i_t (by omega)], rfl⟩ | exact ⟨by rw [b2i_f (by omega)], rfl⟩
    · refine r_iconst dX8_isDigit_12 (r_goto 17 dX8_isDigit_13 (by decide) ?_)
      refine r_iret dX8_isDigit_17 rfl (q_narZ (by first | exact Or.inl rfl | exact Or.inr rfl)) ?_
      first | omega | exact ⟨rfl, rfl⟩ | exact ⟨by rw [b2i_t (by omega)], rfl⟩ | exact ⟨by rw [b2i_f (by omega)], rfl⟩
theorem c_X8_isLetter {z : Int} (hz : RI z) : PC g yX8_isLetter cX8_isLetter (iX8_isLetter mc ms) [vi z] S (Rt (some (vi (b2i (97 ≤ z ∧ z ≤ 122)))) S) := by
  refine PC_of pnX8 rfl rfl rfl (Nat.le_of_ble_eq_true rfl) ?_
  refine r_iload_n dX8_isLetter_0 (i := 0) rfl rfl (r_bipush dX8_isLetter_1 (by decide) ?_)
  refine r_icmp_lt 16 dX8_isLetter_3 (by decide) (by omega) (by omega) (fun c1 => ?_) (fun c1 => ?_)
  · refine r_iconst dX8_isLetter_16 ?_
    refine r_iret dX8_isLetter_17 rfl (q_narZ (by first | exact Or.inl rfl | exact Or.inr rfl)) ?_
    first | omega | exact ⟨rfl, rfl⟩ | exact ⟨by rw [b2i_t (by omega)], rfl⟩ | exact ⟨by rw [b2i_f (by omega)], rfl⟩
  · refine r_iload_n dX8_isLetter_6 (i := 0) rfl rfl (r_bipush dX8_isLetter_7 (by decide) ?_)
    refine r_icmp_gt 16 dX8_isLetter_9 (by decide) (by omega) (by omega) (fun c2 => ?_) (fun c2 => ?_)
    · refine r_iconst dX8_isLetter_16 ?_
      refine r_iret dX8_isLetter_17 rfl (q_narZ (by first | exact Or.inl rfl | exact Or.inr rfl)) ?_
      first | omega | exact ⟨rfl, rfl⟩ | exact ⟨by rw [b2i_t (by omega)], rfl⟩ | exact ⟨by rw [b2i_f (by omega)], rfl⟩
    · refine r_iconst dX8_isLetter_12 (r_goto 17 dX8_isLetter_13 (by decide) ?_)
      refine r_iret dX8_isLetter_17 rfl (q_narZ (by first | exact Or.inl rfl | exact Or.inr rfl)) ?_
      first | omega | exact ⟨rfl, rfl⟩ | exact ⟨by rw [b2i_t (by omega)], rfl⟩ | exact ⟨by rw [b2i_f (by omega)], rfl⟩
theorem c_X8_fail {c p : Int} (h : S.1 r = some (rO r fd en at' er ea)) : PC g yX8_fail cX8_fail (iX8_fail mc ms) [.ref r, vi c, vi p] S (Rt none (ps_put S r (rO r fd en at' c p))) := by
  refine PC_of pnX8 rfl rfl rfl (Nat.le_of_ble_eq_true rfl) ?_
  refine r_aload_n dX8_fail_0 (i := 0) rfl rfl (r_iload_n dX8_fail_1 (i := 1) rfl rfl (r_put dX8_fail_2 fl_X8_41 h rfl rfl (Nat.le_of_ble_eq_true rfl) (r_aload_n dX8_fail_5 (i := 0) rfl rfl (r_iload_n dX8_fail_6 (i := 2) rfl rfl ?_))))
  refine r_put dX8_fail_7 fl_X8_22 ps_same rfl rfl (Nat.le_of_ble_eq_true rfl) (r_vret dX8_fail_10 rfl ?_)
  rw [ps_put_put]
  exact ⟨rfl, rfl⟩
theorem c_X8_byteAt {k : Int} (h : S.1 r = some (rO r fd en at' er ea)) (ht : S.1 (r + 1) = some (cB 600 tx)) (hb : ∀ i : Int, 0 ≤ i → i < en → -128 ≤ tx i ∧ tx i ≤ 127) (he : 0 ≤ en ∧ en ≤ 600) (hk : RI k) : PC g yX8_byteAt cX8_byteAt (iX8_byteAt mc ms) [.ref r, vi k] S (Rt (some (vi (seeI tx en k))) S) := by
  refine PC_of pnX8 rfl rfl rfl (Nat.le_of_ble_eq_true rfl) ?_
  refine r_iload_n dX8_byteAt_0 (i := 1) rfl rfl ?_
  refine r_if_lt 25 dX8_byteAt_1 (by decide) (by omega) (fun c1 => ?_) (fun c1 => ?_)
  · refine r_iconst dX8_byteAt_25 (r_iret dX8_byteAt_26 rfl rfl ?_)
    exact ⟨by unfold seeI; rw [if_neg (by omega)], rfl⟩
  · refine r_iload_n dX8_byteAt_4 (i := 1) rfl rfl (r_aload_n dX8_byteAt_5 (i := 0) rfl rfl (r_get dX8_byteAt_6 fl_X8_35 h rfl ?_))
    refine r_icmp_ge 25 dX8_byteAt_9 (by decide) (by omega) (by omega) (fun c2 => ?_) (fun c2 => ?_)
    · refine r_iconst dX8_byteAt_25 (r_iret dX8_byteAt_26 rfl rfl ?_)
      exact ⟨by unfold seeI; rw [if_neg (by omega)], rfl⟩
    · refine r_aload_n dX8_byteAt_12 (i := 0) rfl rfl (r_get dX8_byteAt_13 fl_X8_9 h rfl (r_iload_n dX8_byteAt_16 (i := 1) rfl rfl ?_))
      refine r_bald dX8_byteAt_17 ht (by omega) (by omega) (by omega) ?_
      refine r_sipush dX8_byteAt_18 (by decide) ?_
      have hbk := hb k (by omega) (by omega)
      refine r_iand (tx k % 256) dX8_byteAt_21 (q_and255 ⟨by omega, by omega⟩) ?_
      refine r_goto 26 dX8_byteAt_22 (by decide) (r_iret dX8_byteAt_26 rfl rfl ?_)
      exact ⟨by unfold seeI; rw [if_pos (by omega)], rfl⟩
theorem l_spaces (ht : S.1 (r + 1) = some (cB 600 tx)) (hb : ∀ i : Int, 0 ≤ i → i < en → -128 ≤ tx i ∧ tx i ≤ 127) (he : 0 ≤ en ∧ en ≤ 600) {z : Int} (hq : Q (.inl none) (ps_put S r (rO r fd en z er ea))) : ∀ (u : Nat) (p : Int), 0 ≤ p → p ≤ en → en ≤ p + u → skP (fun k => decide (seeI tx en k = 32)) u p = z →
    PW g cX8_passSpaces (iX8_passSpaces mc ms) 0 [(0, some (.ref r))] [] (ps_put S r (rO r fd en p er ea)) kc ks Q := by
  intro u
  induction u with
  | zero =>
    intro p p0 p1 p2 hz
    have e : p = z := hz
    subst e
    refine r_aload_n dX8_passSpaces_0 (i := 0) rfl rfl (r_get dX8_passSpaces_1 fl_X8_38 ps_same rfl (r_aload_n dX8_passSpaces_4 (i := 0) rfl rfl (r_get dX8_passSpaces_5 fl_X8_35 ps_same rfl ?_)))
    refine r_icmp_ge 37 dX8_passSpaces_8 (by decide) (by omega) (by omega) (fun c1 => ?_) (fun c1 => ?_)
    · refine r_vret dX8_passSpaces_37 rfl ?_
      exact hq
    · omega
  | succ u ih =>
    intro p p0 p1 p2 hz
    have e : skP (fun k => decide (seeI tx en k = 32)) (u + 1) p = if decide (seeI tx en p = 32) = true then skP (fun k => decide (seeI tx en k = 32)) u (p + 1) else p := rfl
    rw [e] at hz
    have hs := seeI_bd tx en p
    have hsE : p = en → seeI tx en p = -1 := fun z => by unfold seeI; rw [if_neg (by omega)]
    have ht' : (ps_put S r (rO r fd en p er ea)).1 (r + 1) = some (cB 600 tx) := ps_ne (by omega) ht
    refine r_aload_n dX8_passSpaces_0 (i := 0) rfl rfl (r_get dX8_passSpaces_1 fl_X8_38 ps_same rfl (r_aload_n dX8_passSpaces_4 (i := 0) rfl rfl (r_get dX8_passSpaces_5 fl_X8_35 ps_same rfl ?_)))
    refine r_icmp_ge 37 dX8_passSpaces_8 (by decide) (by omega) (by omega) (fun c1 => ?_) (fun c1 => ?_)
    · refine r_vret dX8_passSpaces_37 rfl ?_
      rw [if_neg (fun w => by have := of_decide_eq_true w; omega)] at hz
      rw [hz]
      exact hq
    · refine r_aload_n dX8_passSpaces_11 (i := 0) rfl rfl (r_aload_n dX8_passSpaces_12 (i := 0) rfl rfl (r_get dX8_passSpaces_13 fl_X8_38 ps_same rfl (c_vr dX8_passSpaces_16 (c_X8_byteAt ps_same ht' hb he ⟨by omega, by omega⟩) rfl rfl mq_X8_byteAt ml_X8_99 ⟨Nat.le_of_ble_eq_true rfl, Nat.le_of_ble_eq_true rfl⟩ ps_same rfl rfl rfl (Nat.le_of_ble_eq_true rfl) (r_bipush dX8_passSpaces_19 (by decide) ?_))))
      refine r_icmp_ne 37 dX8_passSpaces_21 (by decide) (by omega) (by omega) (fun c2 => ?_) (fun c2 => ?_)
      · refine r_vret dX8_passSpaces_37 rfl ?_
        rw [if_neg (fun w => by have := of_decide_eq_true w; omega)] at hz
        rw [hz]
        exact hq
      · refine r_aload_n dX8_passSpaces_24 (i := 0) rfl rfl (r_dup dX8_passSpaces_25 rfl (r_get dX8_passSpaces_26 fl_X8_38 ps_same rfl (r_iconst dX8_passSpaces_29 (r_iadd dX8_passSpaces_30 ?_))))
        refine r_put dX8_passSpaces_31 fl_X8_38 ps_same rfl rfl (Nat.le_of_ble_eq_true rfl) (r_goto 0 dX8_passSpaces_34 (by decide) ?_)
        rw [ps_put_put]
        rw [if_pos (decide_eq_true (by assumption))] at hz
        exact ih (p + 1) (by omega) (by omega) (by omega) hz
theorem c_X8_passSpaces (h : S.1 r = some (rO r fd en at' er ea)) (ht : S.1 (r + 1) = some (cB 600 tx)) (hb : ∀ i : Int, 0 ≤ i → i < en → -128 ≤ tx i ∧ tx i ≤ 127) (he : 0 ≤ en ∧ en ≤ 600) (ha : 0 ≤ at' ∧ at' ≤ en) : PC g yX8_passSpaces cX8_passSpaces (iX8_passSpaces mc ms) [.ref r] S (Rt none (ps_put S r (rO r fd en (skP (fun k => decide (seeI tx en k = 32)) 600 at') er ea))) := by
  refine PC_of pnX8 rfl rfl rfl (Nat.le_of_ble_eq_true rfl) ?_
  refine r_ps (ps_put_self h).symm ?_
  refine r_loc [(0, some (.ref r))] ⟨Or.inl rfl, trivial⟩ ?_
  refine l_spaces ht hb he ?_ 600 at' ha.1 ha.2 (by omega) rfl
  exact ⟨rfl, rfl⟩
end TEXT

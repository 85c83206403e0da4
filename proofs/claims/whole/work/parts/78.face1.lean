/-! the class's face: how a call ends; length, primes, errorPosition -/
/-- k = 0: the answer v, and P of the heap; k = i: the i-th of the exceptions, the cells as they were -/
def Out (codes : List String) (k : Int) (v : Value) (S : PS) (P : PS → Prop) : PO → PS → Prop := fun o S' => (k = 0 ∧ o = .inl (some v) ∧ P S') ∨ (0 < k ∧ ∃ E, codes[(k - 1).toNat]? = some E ∧ Th E S o S')
theorem Out.ok {codes : List String} {k : Int} {v v' : Value} {S S' : PS} {P : PS → Prop} (h : k = 0) (hv : v' = v) (hp : P S') : Out codes k v S P (.inl (some v')) S' := Or.inl ⟨h, by rw [hv], hp⟩
theorem Out.th {codes : List String} {k : Int} {v : Value} {S S' : PS} {P : PS → Prop} {E : String} {o : PO} (n : Nat) (h : k = (n : Int) + 1) (he : codes[n]? = some E) (ht : Th E S o S') : Out codes k v S P o S' := Or.inr ⟨by omega, E, by rw [show (k - 1).toNat = n by omega]; exact he, ht⟩
section FACE1
variable {g : GT} {S : PS} {mc ms : Nat} {x F : Nat} {a : Int → Int}
theorem c_X9_length {s : Int} (hx : S.1 x = some (xO x)) (hb : BnAt S (x + 1) F a) (hs : RI s) (hm : 1 ≤ mc) (hm2 : 6 ≤ ms) : PC g yX9_length cX9_length (iX9_length mc ms) [.ref x, vi s] S (Out ["java/lang/IndexOutOfBoundsException"] (kLength s) (vi (a (7 + s))) S (fun S' => S' = S)) := by
  by_cases h : 0 ≤ s ∧ s ≤ 3
  · obtain ⟨hpm, ⟨w, w1, w2, w3, w4⟩, -⟩ := hb
    obtain ⟨f, s1, -⟩ := w4 s h.1 (by omega)
    refine PC_of pnX9 rfl rfl rfl (Nat.le_of_ble_eq_true rfl) ?_
    refine r_aload_n dX9_length_0 (i := 0) rfl rfl (r_iload_n dX9_length_1 (i := 1) rfl rfl (c_vr dX9_length_2 (c_X9_sequenceAt1 hx hpm.1 w3 hs h) rfl rfl mq_X9_sequenceAt ml_X9_177 ⟨Nat.le_of_ble_eq_true rfl, Nat.le_of_ble_eq_true rfl⟩ hx rfl rfl rfl (Nat.le_of_ble_eq_true rfl) (r_get dX9_length_5 fl_X9_181 s1.1 rfl (r_iret dX9_length_8 rfl rfl ?_))))
    exact Out.ok (by unfold kLength; rw [if_pos h]) rfl rfl
  · refine PC.mono (Q' := Th "java/lang/IndexOutOfBoundsException" S) (fun o S' ho => Out.th 0 (by unfold kLength; rw [if_neg h]; rfl) rfl ho) ?_
    refine PC_of pnX9 rfl rfl rfl (Nat.le_of_ble_eq_true rfl) ?_
    refine r_bud (kc' := 1) (ks' := 6) hm hm2 ?_
    refine r_aload_n dX9_length_0 (i := 0) rfl rfl (r_iload_n dX9_length_1 (i := 1) rfl rfl ?_)
    exact c_vx (E := "") dX9_length_2 (c_X9_sequenceAt0 (mc := 1) (ms := 6) hx hs h (by omega) (by omega)) rfl mq_X9_sequenceAt ml_X9_177 ⟨Nat.le_of_ble_eq_true rfl, Nat.le_of_ble_eq_true rfl⟩ hx rfl rfl rfl (Nat.le_of_ble_eq_true rfl) (by show 1 ≤ 1; omega) (by show 6 ≤ 6; omega) (fun o S' ho => ⟨_, ho.1, rfl, ho.2⟩)
theorem c_X9_primes (hx : S.1 x = some (xO x)) (hb : S.1 (x + 1) = some (bO (x + 1) (a 0))) : PC g yX9_primes cX9_primes (iX9_primes mc ms) [.ref x] S (Rt (some (vi (a 0))) S) := by
  refine PC_of pnX9 rfl rfl rfl (Nat.le_of_ble_eq_true rfl) ?_
  refine r_aload_n dX9_primes_0 (i := 0) rfl rfl (r_get dX9_primes_1 fl_X9_10 hx rfl (r_get dX9_primes_4 fl_X9_88 hb rfl (r_iret dX9_primes_7 rfl rfl ?_)))
  exact ⟨rfl, rfl⟩
theorem c_X9_errorPosition {fd en at' er ea : Int} (hx : S.1 x = some (xO x)) (hr : S.1 (x + 129) = some (rO (x + 129) fd en at' er ea)) : PC g yX9_errorPosition cX9_errorPosition (iX9_errorPosition mc ms) [.ref x] S (Rt (some (vi ea)) S) := by
  refine PC_of pnX9 rfl rfl rfl (Nat.le_of_ble_eq_true rfl) ?_
  refine r_aload_n dX9_errorPosition_0 (i := 0) rfl rfl (r_get dX9_errorPosition_1 fl_X9_26 hx rfl (r_get dX9_errorPosition_4 fl_X9_91 hr rfl (r_iret dX9_errorPosition_7 rfl rfl ?_)))
  exact ⟨rfl, rfl⟩
end FACE1

/-! the model's texts: its bytes and tokens -/
theorem pat_J {D : va_G} {K : State} {q : Nat} {H : Heap} {n : Nat} {f f' : Int → Int} (h : ∀ i : Int, 0 ≤ i → i < n → f' i = f i) (hp : pat D K q (cJ n f) H) : pat D K q (cJ n f') H := by
  obtain ⟨cA, h1, h2, h3⟩ := hp
  refine ⟨cA, h1, h2, h3.trans ?_⟩
  show some (arrV cA n (fun j => .long (Int64.ofInt (f j)))) = some (arrV cA n (fun j => .long (Int64.ofInt (f' j))))
  unfold arrV
  congr 3
  funext j
  have hj := j.isLt
  show Value.long (Int64.ofInt (f ((j : Nat) : Int))) = Value.long (Int64.ofInt (f' ((j : Nat) : Int)))
  rw [h ((j : Nat) : Int) (by omega) (by omega)]
section ROWJ
variable {g : GT} {cc : ByteArray} {X : MI} {pc : Nat} {L : List (Nat × Option Value)} {st : List Value} {S : PS} {kc ks : Nat} {Q : PO → PS → Prop}
/-- an array of longs: what lies behind its length does not matter -/
theorem r_J {q n : Nat} {f f' : Int → Int} (hq : S.1 q = some (cJ n f)) (h : ∀ i : Int, 0 ≤ i → i < n → f' i = f i) (k : PW g cc X pc L st (ps_put S q (cJ n f')) kc ks Q) : PW g cc X pc L st S kc ks Q := by
  intro p e s m args below meth c H locs ls cells slots C hP hz hlo hL h1 h2
  refine k p e s m args below meth c H locs ls cells slots C ⟨hP.1, hP.2.1, hP.2.2.1, fun x e' hx => ?_⟩ hz hlo hL h1 h2
  by_cases ex : x = q
  · subst ex
    have e0 : (ps_put S x (cJ n f')).1 x = some (cJ n f') := if_pos rfl
    rw [e0] at hx
    cases hx
    exact ⟨(hP.2.2.2 x _ hq).1, pat_J h (hP.2.2.2 x _ hq).2⟩
  · have e0 : (ps_put S q (cJ n f')).1 x = S.1 x := if_neg ex
    rw [e0] at hx
    exact hP.2.2.2 x e' hx
end ROWJ
/-- a number as the model reads it: it grows no more from a million on -/
def nmM (B : Int → Int) : Nat → Int → Int → Int
  | 0, _, acc => acc
  | u + 1, p, acc => if dgB B p = true then nmM B u (p + 1) (if acc < 1000000 then 10 * acc + B p - 48 else acc) else acc
theorem nmM_nmB (B : Int → Int) : ∀ (u : Nat) (p a b : Int), (0 ≤ a ∧ a ≤ 20000000) → ((a = b ∧ a < 1000000) ∨ (b = 1000000 ∧ 1000000 ≤ a)) → (0 ≤ nmM B u p a ∧ nmM B u p a ≤ 20000000) ∧ ((nmM B u p a = nmB B u p b ∧ nmM B u p a < 1000000) ∨ (nmB B u p b = 1000000 ∧ 1000000 ≤ nmM B u p a))
  | 0, p, a, b, ha, h => ⟨ha, h⟩
  | u + 1, p, a, b, ha, h => by
    have e1 : nmM B (u + 1) p a = if dgB B p = true then nmM B u (p + 1) (if a < 1000000 then 10 * a + B p - 48 else a) else a := rfl
    have e2 : nmB B (u + 1) p b = if dgB B p = true then nmB B u (p + 1) (min (10 * b + B p - 48) 1000000) else b := rfl
    rw [e1, e2]
    by_cases c : dgB B p = true
    · have hd := of_decide_eq_true c
      rw [if_pos c, if_pos c]
      by_cases c2 : a < 1000000
      · rw [if_pos c2]
        exact nmM_nmB B u (p + 1) _ _ (by omega) (by omega)
      · rw [if_neg c2]
        exact nmM_nmB B u (p + 1) _ _ ha (by omega)
    · rw [if_neg c, if_neg c]
      exact ⟨ha, h⟩
/-- the token at q: its end, its kind, the number -/
def tkE (B : Int → Int) (n q : Int) : Int := if n ≤ q then q else if ltB B q = true then ltE B q else if dgB B q = true then dgE B q else q + 1
def tkK (B : Int → Int) (n q : Int) : Int := if n ≤ q then 3 else if ltB B q = true then 0 else if dgB B q = true then 1 else 2
def tkN (B : Int → Int) (n q nu : Int) : Int := if n ≤ q then nu else if ltB B q = true then nu else if dgB B q = true then nmM B 600 q 0 else nu
theorem tkN_bd {B : Int → Int} {n q nu : Int} (h : 0 ≤ nu ∧ nu ≤ 20000000) : 0 ≤ tkN B n q nu ∧ tkN B n q nu ≤ 20000000 := by
  unfold tkN
  split
  · exact h
  · split
    · exact h
    · split
      · exact (nmM_nmB B 600 q 0 0 (by omega) (by omega)).1
      · exact h
theorem tkE_ok {B : Int → Int} {n q : Int} (hB : BOk B n) (h0 : 0 ≤ q) (h1 : q ≤ n) : q ≤ tkE B n q ∧ tkE B n q ≤ n := by
  unfold tkE
  have := ltE_ok hB h0 h1
  have := dgE_ok hB h0 h1
  split
  · omega
  · split
    · omega
    · split
      · omega
      · omega
section MTEXT
variable {g : GT} {S : PS} {mc ms : Nat} {Q : PO → PS → Prop} {kc ks : Nat} {m : Nat} {bf : Int → Int} {km th bu sz at' be ki wr wa ea nu bs bw bt' : Int}
theorem c_X10_see {k : Int} (h : S.1 m = some (mO m km th bu sz at' be ki wr wa ea nu bs bw bt')) (h4 : S.1 (m + 4) = some (cI 600 bf)) (hb : ∀ i : Int, 0 ≤ i → i < sz → 0 ≤ bf i ∧ bf i ≤ 255) (hs : 0 ≤ sz ∧ sz ≤ 600) (hk : 0 ≤ k ∧ k ≤ 2000) : PC g yX10_see cX10_see (iX10_see mc ms) [.ref m, vi k] S (Rt (some (vi (seeI bf sz k))) S) := by
  refine PC_of pnX10 rfl rfl rfl (Nat.le_of_ble_eq_true rfl) ?_
  refine r_iload_n dX10_see_0 (i := 1) rfl rfl (r_aload_n dX10_see_1 (i := 0) rfl rfl (r_get dX10_see_2 fl_X10_39 h rfl ?_))
  refine r_icmp_ge 17 dX10_see_5 (by decide) (by omega) (by omega) (fun c1 => ?_) (fun c1 => ?_)
  · refine r_iconst dX10_see_17 (r_iret dX10_see_18 rfl rfl ?_)
    exact ⟨by unfold seeI; rw [if_neg (by omega)], rfl⟩
  · have hbk := hb k hk.1 (by omega)
    refine r_aload_n dX10_see_8 (i := 0) rfl rfl (r_get dX10_see_9 fl_X10_19 h rfl (r_iload_n dX10_see_12 (i := 1) rfl rfl (r_iald dX10_see_13 h4 (by omega) (by omega) (by omega) (r_goto 18 dX10_see_14 (by decide) ?_))))
    refine r_iret dX10_see_18 rfl rfl ?_
    exact ⟨by unfold seeI; rw [if_pos (by omega), Int.emod_eq_of_lt hbk.1 (by omega)], rfl⟩
theorem c_X10_isLetter {z : Int} (hz : RI z) : PC g yX10_isLetter cX10_isLetter (iX10_isLetter mc ms) [vi z] S (Rt (some (vi (b2i (97 ≤ z ∧ z ≤ 122)))) S) := by
  refine PC_of pnX10 rfl rfl rfl (Nat.le_of_ble_eq_true rfl) ?_
  refine r_iload_n dX10_isLetter_0 (i := 0) rfl rfl (r_i2l dX10_isLetter_1 (by omega) (r_ldc2 dX10_isLetter_2 csj_X10_42 (r_ldc2 dX10_isLetter_5 csj_X10_44 (c_sr dX10_isLetter_8 (c_X10_isIn ⟨by omega, by omega⟩ ⟨by omega, by omega⟩ ⟨by omega, by omega⟩) rfl rfl mq_X10_isIn ml_X10_46 ⟨Nat.le_of_ble_eq_true rfl, Nat.le_of_ble_eq_true rfl⟩ rfl rfl (Nat.le_of_ble_eq_true rfl) ?_))))
  refine r_iret dX10_isLetter_11 rfl b2i_narZ ?_
  first | omega | exact ⟨rfl, rfl⟩ | exact ⟨by rw [b2i_t (by omega)], rfl⟩ | exact ⟨by rw [b2i_f (by omega)], rfl⟩
theorem c_X10_isDigit {z : Int} (hz : RI z) : PC g yX10_isDigit cX10_isDigit (iX10_isDigit mc ms) [vi z] S (Rt (some (vi (b2i (48 ≤ z ∧ z ≤ 57)))) S) := by
  refine PC_of pnX10 rfl rfl rfl (Nat.le_of_ble_eq_true rfl) ?_
  refine r_iload_n dX10_isDigit_0 (i := 0) rfl rfl (r_i2l dX10_isDigit_1 (by omega) (r_ldc2 dX10_isDigit_2 csj_X10_50 (r_ldc2 dX10_isDigit_5 csj_X10_52 (c_sr dX10_isDigit_8 (c_X10_isIn ⟨by omega, by omega⟩ ⟨by omega, by omega⟩ ⟨by omega, by omega⟩) rfl rfl mq_X10_isIn ml_X10_46 ⟨Nat.le_of_ble_eq_true rfl, Nat.le_of_ble_eq_true rfl⟩ rfl rfl (Nat.le_of_ble_eq_true rfl) ?_))))
  refine r_iret dX10_isDigit_11 rfl b2i_narZ ?_
  first | omega | exact ⟨rfl, rfl⟩ | exact ⟨by rw [b2i_t (by omega)], rfl⟩ | exact ⟨by rw [b2i_f (by omega)], rfl⟩
theorem c_X10_fails0 {c : Int} (h : S.1 m = some (mO m km th bu sz at' be ki 0 wa ea nu bs bw bt')) : PC g yX10_fails cX10_fails (iX10_fails mc ms) [.ref m, vi c] S (Rt none (ps_put S m (mO m km th bu sz at' be ki c at' ea nu bs bw bt'))) := by
  refine PC_of pnX10 rfl rfl rfl (Nat.le_of_ble_eq_true rfl) ?_
  refine r_aload_n dX10_fails_0 (i := 0) rfl rfl (r_get dX10_fails_1 fl_X10_82 h rfl ?_)
  refine r_if_eq 8 dX10_fails_4 (by decide) (by omega) (fun c1 => ?_) (fun c1 => ?_)
  · refine r_aload_n dX10_fails_8 (i := 0) rfl rfl (r_iload_n dX10_fails_9 (i := 1) rfl rfl (r_put dX10_fails_10 fl_X10_82 h rfl rfl (Nat.le_of_ble_eq_true rfl) (r_aload_n dX10_fails_13 (i := 0) rfl rfl (r_aload_n dX10_fails_14 (i := 0) rfl rfl ?_))))
    refine r_get dX10_fails_15 fl_X10_57 ps_same rfl (r_put dX10_fails_18 fl_X10_95 ps_same rfl rfl (Nat.le_of_ble_eq_true rfl) (r_vret dX10_fails_21 rfl ?_))
    rw [ps_put_put]
    exact ⟨rfl, rfl⟩
  · omega
theorem c_X10_fails1 {c : Int} (h : S.1 m = some (mO m km th bu sz at' be ki wr wa ea nu bs bw bt')) (hw : RI wr) (hn : wr ≠ 0) : PC g yX10_fails cX10_fails (iX10_fails mc ms) [.ref m, vi c] S (Rt none S) := by
  refine PC_of pnX10 rfl rfl rfl (Nat.le_of_ble_eq_true rfl) ?_
  refine r_aload_n dX10_fails_0 (i := 0) rfl rfl (r_get dX10_fails_1 fl_X10_82 h rfl ?_)
  refine r_if_eq 8 dX10_fails_4 (by decide) (by omega) (fun c1 => ?_) (fun c1 => ?_)
  · exact absurd c1 hn
  · refine r_vret dX10_fails_7 rfl ?_
    exact ⟨rfl, rfl⟩
theorem l_msp (h4 : S.1 (m + 4) = some (cI 600 bf)) (hb : ∀ i : Int, 0 ≤ i → i < sz → 0 ≤ bf i ∧ bf i ≤ 255) (hs : 0 ≤ sz ∧ sz ≤ 600) {z : Int} (hq : PW g cX10_next (iX10_next mc ms) 34 [(0, some (.ref m))] [] (ps_put S m (mO m km th bu sz z be ki wr wa ea nu bs bw bt')) kc ks Q) : ∀ (u : Nat) (p : Int), 0 ≤ p → p ≤ sz → sz ≤ p + u → skP (spB (seeI bf sz)) u p = z →
    PW g cX10_next (iX10_next mc ms) 8 [(0, some (.ref m))] [] (ps_put S m (mO m km th bu sz p be ki wr wa ea nu bs bw bt')) kc ks Q := by
  have hB : BOk (seeI bf sz) sz := seeI_ok hs
  intro u
  induction u with
  | zero =>
    intro p p0 p1 p2 hz
    have e : p = z := hz
    subst e
    have hm1 := hB.2.2 p (by omega)
    refine r_aload_n dX10_next_8 (i := 0) rfl rfl (r_aload_n dX10_next_9 (i := 0) rfl rfl (r_get dX10_next_10 fl_X10_57 ps_same rfl (c_vr dX10_next_13 (c_X10_see ps_same (ps_ne (by omega) h4) hb hs ⟨by omega, by omega⟩) rfl rfl mq_X10_see ml_X10_60 ⟨Nat.le_of_ble_eq_true rfl, Nat.le_of_ble_eq_true rfl⟩ ps_same rfl rfl rfl (Nat.le_of_ble_eq_true rfl) (r_bipush dX10_next_16 (by decide) ?_))))
    refine r_icmp_ne 34 dX10_next_18 (by decide) (by omega) (by omega) (fun c1 => ?_) (fun c1 => ?_)
    · exact hq
    · omega
  | succ u ih =>
    intro p p0 p1 p2 hz
    have e : skP (spB (seeI bf sz)) (u + 1) p = if spB (seeI bf sz) p = true then skP (spB (seeI bf sz)) u (p + 1) else p := rfl
    rw [e] at hz
    have hsb := seeI_bd bf sz p
    refine r_aload_n dX10_next_8 (i := 0) rfl rfl (r_aload_n dX10_next_9 (i := 0) rfl rfl (r_get dX10_next_10 fl_X10_57 ps_same rfl (c_vr dX10_next_13 (c_X10_see ps_same (ps_ne (by omega) h4) hb hs ⟨by omega, by omega⟩) rfl rfl mq_X10_see ml_X10_60 ⟨Nat.le_of_ble_eq_true rfl, Nat.le_of_ble_eq_true rfl⟩ ps_same rfl rfl rfl (Nat.le_of_ble_eq_true rfl) (r_bipush dX10_next_16 (by decide) ?_))))
    refine r_icmp_ne 34 dX10_next_18 (by decide) (by omega) (by omega) (fun c1 => ?_) (fun c1 => ?_)
    · rw [if_neg (by unfold spB; rw [decide_eq_true_eq]; exact c1)] at hz
      subst hz
      exact hq
    · have hlt : p < sz := by
        rcases Int.lt_or_le p sz with y | y
        · exact y
        · have := hB.2.2 p y
          omega
      rw [if_pos (by unfold spB; rw [decide_eq_true_eq]; omega)] at hz
      refine r_aload_n dX10_next_21 (i := 0) rfl rfl (r_dup dX10_next_22 rfl (r_get dX10_next_23 fl_X10_57 ps_same rfl (r_iconst dX10_next_26 (r_iadd dX10_next_27 ?_))))
      refine r_put dX10_next_28 fl_X10_57 ps_same rfl rfl (Nat.le_of_ble_eq_true rfl) (r_goto 8 dX10_next_31 (by decide) ?_)
      rw [ps_put_put]
      exact ih (p + 1) (by omega) (by omega) (by omega) hz
theorem l_mlt (h4 : S.1 (m + 4) = some (cI 600 bf)) (hb : ∀ i : Int, 0 ≤ i → i < sz → 0 ≤ bf i ∧ bf i ≤ 255) (hs : 0 ≤ sz ∧ sz ≤ 600) {z : Int} (hq : PW g cX10_next (iX10_next mc ms) 102 [(0, some (.ref m))] [] (ps_put S m (mO m km th bu sz at' z ki wr wa ea nu bs bw bt')) kc ks Q) : ∀ (u : Nat) (p : Int), 0 ≤ p → p ≤ sz → sz ≤ p + u → skP (ltB (seeI bf sz)) u p = z →
    PW g cX10_next (iX10_next mc ms) 75 [(0, some (.ref m))] [] (ps_put S m (mO m km th bu sz at' p ki wr wa ea nu bs bw bt')) kc ks Q := by
  have hB : BOk (seeI bf sz) sz := seeI_ok hs
  intro u
  induction u with
  | zero =>
    intro p p0 p1 p2 hz
    have e : p = z := hz
    subst e
    have hm1 := hB.2.2 p (by omega)
    refine r_aload_n dX10_next_75 (i := 0) rfl rfl (r_aload_n dX10_next_76 (i := 0) rfl rfl (r_get dX10_next_77 fl_X10_54 ps_same rfl (c_vr dX10_next_80 (c_X10_see ps_same (ps_ne (by omega) h4) hb hs ⟨by omega, by omega⟩) rfl rfl mq_X10_see ml_X10_60 ⟨Nat.le_of_ble_eq_true rfl, Nat.le_of_ble_eq_true rfl⟩ ps_same rfl rfl rfl (Nat.le_of_ble_eq_true rfl) (c_sr dX10_next_83 (c_X10_isLetter ⟨by omega, by omega⟩) rfl rfl mq_X10_isLetter ml_X10_67 ⟨Nat.le_of_ble_eq_true rfl, Nat.le_of_ble_eq_true rfl⟩ rfl rfl (Nat.le_of_ble_eq_true rfl) ?_))))
    refine r_if_eq 102 dX10_next_86 (by decide) b2i_RI (fun c1 => ?_) (fun c1 => ?_)
    · exact hq
    · have := b2i_ne c1
      omega
  | succ u ih =>
    intro p p0 p1 p2 hz
    have e : skP (ltB (seeI bf sz)) (u + 1) p = if ltB (seeI bf sz) p = true then skP (ltB (seeI bf sz)) u (p + 1) else p := rfl
    rw [e] at hz
    have hsb := seeI_bd bf sz p
    refine r_aload_n dX10_next_75 (i := 0) rfl rfl (r_aload_n dX10_next_76 (i := 0) rfl rfl (r_get dX10_next_77 fl_X10_54 ps_same rfl (c_vr dX10_next_80 (c_X10_see ps_same (ps_ne (by omega) h4) hb hs ⟨by omega, by omega⟩) rfl rfl mq_X10_see ml_X10_60 ⟨Nat.le_of_ble_eq_true rfl, Nat.le_of_ble_eq_true rfl⟩ ps_same rfl rfl rfl (Nat.le_of_ble_eq_true rfl) (c_sr dX10_next_83 (c_X10_isLetter ⟨by omega, by omega⟩) rfl rfl mq_X10_isLetter ml_X10_67 ⟨Nat.le_of_ble_eq_true rfl, Nat.le_of_ble_eq_true rfl⟩ rfl rfl (Nat.le_of_ble_eq_true rfl) ?_))))
    refine r_if_eq 102 dX10_next_86 (by decide) b2i_RI (fun c1 => ?_) (fun c1 => ?_)
    · rw [if_neg (by unfold ltB; rw [decide_eq_true_eq]; exact b2i_eq c1)] at hz
      subst hz
      exact hq
    · replace c1 := b2i_ne c1
      have hlt : p < sz := by
        rcases Int.lt_or_le p sz with y | y
        · exact y
        · have := hB.2.2 p y
          omega
      rw [if_pos (by unfold ltB; rw [decide_eq_true_eq]; exact c1)] at hz
      refine r_aload_n dX10_next_89 (i := 0) rfl rfl (r_dup dX10_next_90 rfl (r_get dX10_next_91 fl_X10_54 ps_same rfl (r_iconst dX10_next_94 (r_iadd dX10_next_95 ?_))))
      refine r_put dX10_next_96 fl_X10_54 ps_same rfl rfl (Nat.le_of_ble_eq_true rfl) (r_goto 75 dX10_next_99 (by decide) ?_)
      rw [ps_put_put]
      exact ih (p + 1) (by omega) (by omega) (by omega) hz
theorem l_mdg (h4 : S.1 (m + 4) = some (cI 600 bf)) (hb : ∀ i : Int, 0 ≤ i → i < sz → 0 ≤ bf i ∧ bf i ≤ 255) (hs : 0 ≤ sz ∧ sz ≤ 600) {z v : Int} (hq : PW g cX10_next (iX10_next mc ms) 193 [(0, some (.ref m))] [] (ps_put S m (mO m km th bu sz at' z ki wr wa ea v bs bw bt')) kc ks Q) : ∀ (u : Nat) (p acc : Int), 0 ≤ p → p ≤ sz → sz ≤ p + u → (0 ≤ acc ∧ acc ≤ 20000000) → skP (dgB (seeI bf sz)) u p = z → nmM (seeI bf sz) u p acc = v →
    PW g cX10_next (iX10_next mc ms) 129 [(0, some (.ref m))] [] (ps_put S m (mO m km th bu sz at' p ki wr wa ea acc bs bw bt')) kc ks Q := by
  have hB : BOk (seeI bf sz) sz := seeI_ok hs
  intro u
  induction u with
  | zero =>
    intro p acc p0 p1 p2 ha hz hv
    have e : p = z := hz
    have e2 : acc = v := hv
    subst e
    subst e2
    have hm1 := hB.2.2 p (by omega)
    refine r_aload_n dX10_next_129 (i := 0) rfl rfl (r_aload_n dX10_next_130 (i := 0) rfl rfl (r_get dX10_next_131 fl_X10_54 ps_same rfl (c_vr dX10_next_134 (c_X10_see ps_same (ps_ne (by omega) h4) hb hs ⟨by omega, by omega⟩) rfl rfl mq_X10_see ml_X10_60 ⟨Nat.le_of_ble_eq_true rfl, Nat.le_of_ble_eq_true rfl⟩ ps_same rfl rfl rfl (Nat.le_of_ble_eq_true rfl) (c_sr dX10_next_137 (c_X10_isDigit ⟨by omega, by omega⟩) rfl rfl mq_X10_isDigit ml_X10_71 ⟨Nat.le_of_ble_eq_true rfl, Nat.le_of_ble_eq_true rfl⟩ rfl rfl (Nat.le_of_ble_eq_true rfl) ?_))))
    refine r_if_eq 193 dX10_next_140 (by decide) b2i_RI (fun c1 => ?_) (fun c1 => ?_)
    · exact hq
    · have := b2i_ne c1
      omega
  | succ u ih =>
    intro p acc p0 p1 p2 ha hz hv
    have e : skP (dgB (seeI bf sz)) (u + 1) p = if dgB (seeI bf sz) p = true then skP (dgB (seeI bf sz)) u (p + 1) else p := rfl
    have e2 : nmM (seeI bf sz) (u + 1) p acc = if dgB (seeI bf sz) p = true then nmM (seeI bf sz) u (p + 1) (if acc < 1000000 then 10 * acc + seeI bf sz p - 48 else acc) else acc := rfl
    rw [e] at hz
    rw [e2] at hv
    have hsb := seeI_bd bf sz p
    refine r_aload_n dX10_next_129 (i := 0) rfl rfl (r_aload_n dX10_next_130 (i := 0) rfl rfl (r_get dX10_next_131 fl_X10_54 ps_same rfl (c_vr dX10_next_134 (c_X10_see ps_same (ps_ne (by omega) h4) hb hs ⟨by omega, by omega⟩) rfl rfl mq_X10_see ml_X10_60 ⟨Nat.le_of_ble_eq_true rfl, Nat.le_of_ble_eq_true rfl⟩ ps_same rfl rfl rfl (Nat.le_of_ble_eq_true rfl) (c_sr dX10_next_137 (c_X10_isDigit ⟨by omega, by omega⟩) rfl rfl mq_X10_isDigit ml_X10_71 ⟨Nat.le_of_ble_eq_true rfl, Nat.le_of_ble_eq_true rfl⟩ rfl rfl (Nat.le_of_ble_eq_true rfl) ?_))))
    refine r_if_eq 193 dX10_next_140 (by decide) b2i_RI (fun c1 => ?_) (fun c1 => ?_)
    · rw [if_neg (by unfold dgB; rw [decide_eq_true_eq]; exact b2i_eq c1)] at hz hv
      subst hz
      subst hv
      exact hq
    · replace c1 := b2i_ne c1
      have hlt : p < sz := by
        rcases Int.lt_or_le p sz with y | y
        · exact y
        · have := hB.2.2 p y
          omega
      rw [if_pos (by unfold dgB; rw [decide_eq_true_eq]; exact c1)] at hz hv
      refine r_aload_n dX10_next_143 (i := 0) rfl rfl (r_get dX10_next_144 fl_X10_74 ps_same rfl (r_ldc2 dX10_next_147 csj_X10_78 ?_))
      refine r_lcmp_ge 180 dX10_next_150 dX10_next_151 (by decide) (by omega) (by omega) (fun c2 => ?_) (fun c2 => ?_)
      · rw [if_neg (by omega)] at hv
        refine r_aload_n dX10_next_180 (i := 0) rfl rfl (r_dup dX10_next_181 rfl (r_get dX10_next_182 fl_X10_54 ps_same rfl (r_iconst dX10_next_185 (r_iadd dX10_next_186 ?_))))
        refine r_put dX10_next_187 fl_X10_54 ps_same rfl rfl (Nat.le_of_ble_eq_true rfl) (r_goto 129 dX10_next_190 (by decide) ?_)
        rw [ps_put_put]
        exact ih (p + 1) acc (by omega) (by omega) (by omega) ha hz hv
      · rw [if_pos (by omega)] at hv
        refine r_aload_n dX10_next_154 (i := 0) rfl rfl (r_ldc2 dX10_next_155 csj_X10_80 (r_aload_n dX10_next_158 (i := 0) rfl rfl (r_get dX10_next_159 fl_X10_74 ps_same rfl (r_lmul dX10_next_162 ?_))))
        refine r_aload_n dX10_next_163 (i := 0) rfl rfl (r_aload_n dX10_next_164 (i := 0) rfl rfl (r_get dX10_next_165 fl_X10_54 ps_same rfl (c_vr dX10_next_168 (c_X10_see ps_same (ps_ne (by omega) h4) hb hs ⟨by omega, by omega⟩) rfl rfl mq_X10_see ml_X10_60 ⟨Nat.le_of_ble_eq_true rfl, Nat.le_of_ble_eq_true rfl⟩ ps_same rfl rfl rfl (Nat.le_of_ble_eq_true rfl) (r_i2l dX10_next_171 (by omega) ?_))))
        refine r_ladd dX10_next_172 (r_ldc2 dX10_next_173 csj_X10_50 (r_lsub dX10_next_176 (r_put dX10_next_177 fl_X10_74 ps_same rfl rfl (Nat.le_of_ble_eq_true rfl) ?_)))
        rw [ps_put_put]
        refine r_aload_n dX10_next_180 (i := 0) rfl rfl (r_dup dX10_next_181 rfl (r_get dX10_next_182 fl_X10_54 ps_same rfl (r_iconst dX10_next_185 (r_iadd dX10_next_186 ?_))))
        refine r_put dX10_next_187 fl_X10_54 ps_same rfl rfl (Nat.le_of_ble_eq_true rfl) (r_goto 129 dX10_next_190 (by decide) ?_)
        rw [ps_put_put]
        exact ih (p + 1) _ (by omega) (by omega) (by omega) (by omega) hz hv
theorem c_X10_next (h : S.1 m = some (mO m km th bu sz at' be ki wr wa ea nu bs bw bt')) (h4 : S.1 (m + 4) = some (cI 600 bf)) (hb : ∀ i : Int, 0 ≤ i → i < sz → 0 ≤ bf i ∧ bf i ≤ 255) (hs : 0 ≤ sz ∧ sz ≤ 600) (he : 0 ≤ be ∧ be ≤ sz) : PC g yX10_next cX10_next (iX10_next mc ms) [.ref m] S (Rt none (ps_put S m (mO m km th bu sz (sk (seeI bf sz) be) (tkE (seeI bf sz) sz (sk (seeI bf sz) be)) (tkK (seeI bf sz) sz (sk (seeI bf sz) be)) wr wa ea (tkN (seeI bf sz) sz (sk (seeI bf sz) be) nu) bs bw bt'))) := by
  have hB : BOk (seeI bf sz) sz := seeI_ok hs
  have hk := sk_ok hB he.1 he.2
  have hsb := seeI_bd bf sz (sk (seeI bf sz) be)
  refine PC_of pnX10 rfl rfl rfl (Nat.le_of_ble_eq_true rfl) ?_
  refine r_aload_n dX10_next_0 (i := 0) rfl rfl (r_aload_n dX10_next_1 (i := 0) rfl rfl (r_get dX10_next_2 fl_X10_54 h rfl (r_put dX10_next_5 fl_X10_57 h rfl rfl (Nat.le_of_ble_eq_true rfl) ?_)))
  refine l_msp (z := sk (seeI bf sz) be) h4 hb hs ?_ 600 be he.1 he.2 (by omega) rfl
  generalize sk (seeI bf sz) be = q at hk hsb ⊢
  refine r_aload_n dX10_next_34 (i := 0) rfl rfl (r_aload_n dX10_next_35 (i := 0) rfl rfl (r_get dX10_next_36 fl_X10_57 ps_same rfl (r_put dX10_next_39 fl_X10_54 ps_same rfl rfl (Nat.le_of_ble_eq_true rfl) (r_aload_n dX10_next_42 (i := 0) rfl rfl ?_))))
  refine r_get dX10_next_43 fl_X10_57 ps_same rfl (r_aload_n dX10_next_46 (i := 0) rfl rfl (r_get dX10_next_47 fl_X10_39 ps_same rfl ?_))
  rw [ps_put_put]
  refine r_icmp_lt 61 dX10_next_50 (by decide) (by omega) (by omega) (fun c1 => ?_) (fun c1 => ?_)
  · refine r_aload_n dX10_next_61 (i := 0) rfl rfl (r_aload_n dX10_next_62 (i := 0) rfl rfl (r_get dX10_next_63 fl_X10_57 ps_same rfl (c_vr dX10_next_66 (c_X10_see ps_same (ps_ne (by omega) h4) hb hs ⟨by omega, by omega⟩) rfl rfl mq_X10_see ml_X10_60 ⟨Nat.le_of_ble_eq_true rfl, Nat.le_of_ble_eq_true rfl⟩ ps_same rfl rfl rfl (Nat.le_of_ble_eq_true rfl) (c_sr dX10_next_69 (c_X10_isLetter ⟨by omega, by omega⟩) rfl rfl mq_X10_isLetter ml_X10_67 ⟨Nat.le_of_ble_eq_true rfl, Nat.le_of_ble_eq_true rfl⟩ rfl rfl (Nat.le_of_ble_eq_true rfl) ?_))))
    refine r_if_eq 110 dX10_next_72 (by decide) b2i_RI (fun c2 => ?_) (fun c2 => ?_)
    · replace c2 := b2i_eq c2
      have l0 : ¬ ltB (seeI bf sz) q = true := by unfold ltB; rw [decide_eq_true_eq]; exact c2
      refine r_aload_n dX10_next_110 (i := 0) rfl rfl (r_aload_n dX10_next_111 (i := 0) rfl rfl (r_get dX10_next_112 fl_X10_57 ps_same rfl (c_vr dX10_next_115 (c_X10_see ps_same (ps_ne (by omega) h4) hb hs ⟨by omega, by omega⟩) rfl rfl mq_X10_see ml_X10_60 ⟨Nat.le_of_ble_eq_true rfl, Nat.le_of_ble_eq_true rfl⟩ ps_same rfl rfl rfl (Nat.le_of_ble_eq_true rfl) (c_sr dX10_next_118 (c_X10_isDigit ⟨by omega, by omega⟩) rfl rfl mq_X10_isDigit ml_X10_71 ⟨Nat.le_of_ble_eq_true rfl, Nat.le_of_ble_eq_true rfl⟩ rfl rfl (Nat.le_of_ble_eq_true rfl) ?_))))
      refine r_if_eq 201 dX10_next_121 (by decide) b2i_RI (fun c3 => ?_) (fun c3 => ?_)
      · replace c3 := b2i_eq c3
        have d0 : ¬ dgB (seeI bf sz) q = true := by unfold dgB; rw [decide_eq_true_eq]; exact c3
        refine r_aload_n dX10_next_201 (i := 0) rfl rfl (r_dup dX10_next_202 rfl (r_get dX10_next_203 fl_X10_54 ps_same rfl (r_iconst dX10_next_206 (r_iadd dX10_next_207 ?_))))
        refine r_put dX10_next_208 fl_X10_54 ps_same rfl rfl (Nat.le_of_ble_eq_true rfl) (r_aload_n dX10_next_211 (i := 0) rfl rfl (r_iconst dX10_next_212 (r_put dX10_next_213 fl_X10_64 ps_same rfl rfl (Nat.le_of_ble_eq_true rfl) (r_vret dX10_next_216 rfl ?_))))
        rw [ps_put_put, ps_put_put]
        unfold tkE tkK tkN
        rw [if_neg (by omega), if_neg l0, if_neg d0, if_neg (by omega), if_neg l0, if_neg d0, if_neg (by omega), if_neg l0, if_neg d0]
        exact ⟨rfl, rfl⟩
      · replace c3 := b2i_ne c3
        have d0 : dgB (seeI bf sz) q = true := by unfold dgB; rw [decide_eq_true_eq]; exact c3
        refine r_aload_n dX10_next_124 (i := 0) rfl rfl (r_lconst (z := 0) dX10_next_125 (by decide) (r_put dX10_next_126 fl_X10_74 ps_same rfl rfl (Nat.le_of_ble_eq_true rfl) ?_))
        rw [ps_put_put]
        refine l_mdg (z := dgE (seeI bf sz) q) (v := nmM (seeI bf sz) 600 q 0) h4 hb hs ?_ 600 q 0 (by omega) (by omega) (by omega) (by omega) rfl rfl
        refine r_aload_n dX10_next_193 (i := 0) rfl rfl (r_iconst dX10_next_194 (r_put dX10_next_195 fl_X10_64 ps_same rfl rfl (Nat.le_of_ble_eq_true rfl) (r_goto 216 dX10_next_198 (by decide) (r_vret dX10_next_216 rfl ?_))))
        rw [ps_put_put]
        unfold tkE tkK tkN
        rw [if_neg (by omega), if_neg l0, if_pos d0, if_neg (by omega), if_neg l0, if_pos d0, if_neg (by omega), if_neg l0, if_pos d0]
        exact ⟨rfl, rfl⟩
    · replace c2 := b2i_ne c2
      have l0 : ltB (seeI bf sz) q = true := by unfold ltB; rw [decide_eq_true_eq]; exact c2
      refine l_mlt (z := ltE (seeI bf sz) q) h4 hb hs ?_ 600 q (by omega) (by omega) (by omega) rfl
      refine r_aload_n dX10_next_102 (i := 0) rfl rfl (r_iconst dX10_next_103 (r_put dX10_next_104 fl_X10_64 ps_same rfl rfl (Nat.le_of_ble_eq_true rfl) (r_goto 216 dX10_next_107 (by decide) (r_vret dX10_next_216 rfl ?_))))
      rw [ps_put_put]
      unfold tkE tkK tkN
      rw [if_neg (by omega), if_pos l0, if_neg (by omega), if_pos l0, if_neg (by omega), if_pos l0]
      exact ⟨rfl, rfl⟩
  · refine r_aload_n dX10_next_53 (i := 0) rfl rfl (r_iconst dX10_next_54 (r_put dX10_next_55 fl_X10_64 ps_same rfl rfl (Nat.le_of_ble_eq_true rfl) (r_goto 216 dX10_next_58 (by decide) (r_vret dX10_next_216 rfl ?_))))
    rw [ps_put_put]
    unfold tkE tkK tkN
    rw [if_pos (by omega), if_pos (by omega), if_pos (by omega)]
    exact ⟨rfl, rfl⟩
end MTEXT

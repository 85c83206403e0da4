/-! Sequence and Field: the leaves -/
def b2i (p : Prop) [Decidable p] : Int := if p then 1 else 0
theorem b2i_t {p : Prop} [Decidable p] (h : p) : b2i p = 1 := if_pos h
theorem b2i_f {p : Prop} [Decidable p] (h : ¬ p) : b2i p = 0 := if_neg h
theorem b2i_01 {p : Prop} [Decidable p] : b2i p = 0 ∨ b2i p = 1 := by
  by_cases h : p
  · exact Or.inr (b2i_t h)
  · exact Or.inl (b2i_f h)
theorem b2i_RI {p : Prop} [Decidable p] : RI (b2i p) := by
  rcases b2i_01 (p := p) with h | h <;> rw [h] <;> omega
theorem b2i_ne {p : Prop} [Decidable p] (h : b2i p ≠ 0) : p := by
  by_cases hp : p
  · exact hp
  · exact absurd (b2i_f hp) h
theorem b2i_eq {p : Prop} [Decidable p] (h : b2i p = 0) : ¬ p := by
  intro hp
  rw [b2i_t hp] at h
  cases h
theorem b2i_iff {p q : Prop} [Decidable p] [Decidable q] (h : p ↔ q) : b2i p = b2i q := by
  by_cases hp : p
  · rw [b2i_t hp, b2i_t (h.mp hp)]
  · rw [b2i_f hp, b2i_f (fun hq => hp (h.mpr hq))]
theorem b2i_narZ {p : Prop} [Decidable p] : narrow .boolean (vi (b2i p)) = vi (b2i p) := q_narZ b2i_01
theorem ps_put_put {S : PS} {q : Nat} {e e' : PE} : ps_put (ps_put S q e) q e' = ps_put S q e' := by
  unfold ps_put
  refine Prod.ext (funext fun a => ?_) rfl
  by_cases h : a = q <;> simp [h]
theorem ps_put_comm {S : PS} {q r : Nat} {e e' : PE} (h : q ≠ r) : ps_put (ps_put S q e) r e' = ps_put (ps_put S r e') q e := by
  unfold ps_put
  refine Prod.ext (funext fun a => ?_) rfl
  show (if a = r then _ else if a = q then _ else _) = (if a = q then _ else if a = r then _ else _)
  by_cases h1 : a = q
  · subst h1
    simp [h]
  · by_cases h2 : a = r
    · subst h2
      simp [h1]
    · simp [h1, h2]
theorem ps_put_self {S : PS} {q : Nat} {e : PE} (h : S.1 q = some e) : ps_put S q e = S := by
  unfold ps_put
  refine Prod.ext (funext fun a => ?_) rfl
  show (if a = q then _ else _) = _
  by_cases h1 : a = q
  · subst h1
    rw [if_pos rfl, h]
  · rw [if_neg h1]
/-- a sequence at s, its terms behind it -/
def SeqAt (S : PS) (s : Nat) (c : Int) (f : Int → Int) : Prop := S.1 s = some (cO 7 [.ref (s + 1), vi c]) ∧ S.1 (s + 1) = some (cI 32 f)
def ps_seq (S : PS) (s : Nat) (c : Int) (f : Int → Int) : PS := ps_put (ps_put S (s + 1) (cI 32 f)) s (cO 7 [.ref (s + 1), vi c])
theorem SeqAt.seq {S : PS} {s : Nat} {c : Int} {f : Int → Int} : SeqAt (ps_seq S s c f) s c f := ⟨ps_same, ps_ne (by omega) ps_same⟩
theorem SeqAt.self {S : PS} {s : Nat} {c : Int} {f : Int → Int} (h : SeqAt S s c f) : ps_seq S s c f = S := by
  unfold ps_seq
  rw [ps_put_self h.2, ps_put_self h.1]
theorem seq_c {S : PS} {s : Nat} {c c' : Int} {f : Int → Int} : ps_put (ps_seq S s c f) s (cO 7 [.ref (s + 1), vi c']) = ps_seq S s c' f := ps_put_put
theorem seq_f {S : PS} {s : Nat} {c : Int} {f f' : Int → Int} : ps_put (ps_seq S s c f) (s + 1) (cI 32 f') = ps_seq S s c f' := by
  unfold ps_seq
  rw [ps_put_comm (by omega), ps_put_put]
theorem seq_seq {S : PS} {s : Nat} {c c' : Int} {f f' : Int → Int} : ps_seq (ps_seq S s c f) s c' f' = ps_seq S s c' f' := by
  show ps_put (ps_put (ps_seq S s c f) (s + 1) (cI 32 f')) s (cO 7 [.ref (s + 1), vi c']) = _
  rw [seq_f, seq_c]
theorem ps_seq_ne {S : PS} {s a : Nat} {c : Int} {f : Int → Int} (h1 : a ≠ s) (h2 : a ≠ s + 1) : (ps_seq S s c f).1 a = S.1 a := ps_ne h1 (ps_ne h2 rfl)
theorem ps_seq_sz {S : PS} {s : Nat} {c : Int} {f : Int → Int} : (ps_seq S s c f).2 = S.2 := rfl
section SEQ
variable {g : GT} {S : PS} {mc ms : Nat} {s : Nat} {c : Int} {f : Int → Int}
theorem c_X7_isFull (h : SeqAt S s c f) (hc : 0 ≤ c ∧ c ≤ 32) : PC g yX7_isFull cX7_isFull (iX7_isFull mc ms) [.ref s] S (Rt (some (vi (b2i (32 ≤ c)))) S) := by
  refine PC_of pnX7 rfl rfl rfl (Nat.le_of_ble_eq_true rfl) ?_
  refine r_aload_n dX7_isFull_0 (i := 0) rfl rfl (r_get dX7_isFull_1 fl_X7_15 h.1 rfl (r_bipush dX7_isFull_4 (by decide) ?_))
  refine r_icmp_lt 13 dX7_isFull_6 (by decide) (by omega) (by omega) (fun h1 => ?_) (fun h1 => ?_)
  · refine r_iconst dX7_isFull_13 (r_iret dX7_isFull_14 rfl (q_narZ (by first | exact Or.inl rfl | exact Or.inr rfl)) ?_)
    exact ⟨by rw [b2i_f (by omega)], rfl⟩
  · refine r_iconst dX7_isFull_9 (r_goto 14 dX7_isFull_10 (by decide) (r_iret dX7_isFull_14 rfl (q_narZ (by first | exact Or.inl rfl | exact Or.inr rfl)) ?_))
    exact ⟨by rw [b2i_t (by omega)], rfl⟩
theorem c_X7_add {v : Int} (h : SeqAt S s c f) (hc : 0 ≤ c ∧ c < 32) : PC g yX7_add cX7_add (iX7_add mc ms) [.ref s, vi v] S (Rt none (ps_seq S s (c + 1) (upI f c v))) := by
  refine PC_of pnX7 rfl rfl rfl (Nat.le_of_ble_eq_true rfl) ?_
  refine r_aload_n dX7_add_0 (i := 0) rfl rfl (c_vr dX7_add_1 (c_X7_isFull h (by omega)) rfl rfl mq_X7_isFull ml_X7_19 ⟨Nat.le_of_ble_eq_true rfl, Nat.le_of_ble_eq_true rfl⟩ h.1 rfl rfl rfl (Nat.le_of_ble_eq_true rfl) ?_)
  rw [b2i_f (by omega)]
  refine r_if_ne 24 dX7_add_4 (by decide) (by omega) (fun h1 => ?_) (fun h1 => ?_)
  · exact absurd rfl h1
  · refine r_aload_n dX7_add_7 (i := 0) rfl rfl (r_get dX7_add_8 fl_X7_9 h.1 rfl (r_aload_n dX7_add_11 (i := 0) rfl rfl (r_dup dX7_add_12 rfl (r_get dX7_add_13 fl_X7_15 h.1 rfl ?_))))
    refine r_dup_x1 dX7_add_16 rfl rfl (r_iconst dX7_add_17 (r_iadd dX7_add_18 (r_put dX7_add_19 fl_X7_15 h.1 rfl rfl (Nat.le_of_ble_eq_true rfl) (r_iload_n dX7_add_22 (i := 1) rfl rfl ?_))))
    have h2 : (ps_put S s (cO 7 [.ref (s + 1), vi (c + 1)])).1 (s + 1) = some (cI 32 f) := ps_ne (by omega) h.2
    refine r_iast dX7_add_23 h2 (by omega) (by omega) (by omega) (r_vret dX7_add_24 rfl ?_)
    refine ⟨rfl, ?_⟩
    show ps_put (ps_put S s (cO 7 [.ref (s + 1), vi (c + 1)])) (s + 1) _ = _
    rw [ps_put_comm (by omega)]
    rfl
theorem l_fill {len a st : Int} (h0 : 0 ≤ len ∧ len ≤ 32) (Q : PO → PS → Prop) {kc ks : Nat} : ∀ (n : Nat) (i : Int) (S : PS) (f : Int → Int), SeqAt S s i f → 0 ≤ i → i + n = len → (∀ f', (∀ k, 0 ≤ k → k < len → f' k = if k < i then f k else a + k * st) → Q (.inl none) (ps_seq S s len f')) →
    PW g cX7_fillEvenly (iX7_fillEvenly mc ms) 8 [(0, some (.ref s)), (1, some (vi len)), (2, some (vi a)), (3, some (vi st)), (4, some (vi i))] [] S kc ks Q := by
  intro n
  induction n with
  | zero =>
    intro i S f h hi hn hq
    refine r_iload dX7_fillEvenly_8 rfl (r_iload_n dX7_fillEvenly_10 (i := 1) rfl rfl ?_)
    refine r_icmp_ge 30 dX7_fillEvenly_11 (by decide) (by omega) (by omega) (fun h1 => ?_) (fun h1 => ?_)
    · refine r_vret dX7_fillEvenly_30 rfl ?_
      have := hq f (fun k h2 h3 => by rw [if_pos (by omega)])
      rw [show len = i by omega, h.self] at this
      exact this
    · omega
  | succ n ih =>
    intro i S f h hi hn hq
    refine r_iload dX7_fillEvenly_8 rfl (r_iload_n dX7_fillEvenly_10 (i := 1) rfl rfl ?_)
    refine r_icmp_ge 30 dX7_fillEvenly_11 (by decide) (by omega) (by omega) (fun h1 => ?_) (fun h1 => ?_)
    · omega
    · refine r_aload_n dX7_fillEvenly_14 (i := 0) rfl rfl (r_iload_n dX7_fillEvenly_15 (i := 2) rfl rfl (r_iload dX7_fillEvenly_16 rfl (r_iload_n dX7_fillEvenly_18 (i := 3) rfl rfl (r_imul dX7_fillEvenly_19 ?_))))
      refine r_iadd dX7_fillEvenly_20 (c_vn dX7_fillEvenly_21 (c_X7_add h (by omega)) rfl rfl mq_X7_add ml_X7_23 ⟨Nat.le_of_ble_eq_true rfl, Nat.le_of_ble_eq_true rfl⟩ h.1 rfl rfl rfl (Nat.le_of_ble_eq_true rfl) (r_iinc dX7_fillEvenly_24 rfl rfl (r_goto 8 dX7_fillEvenly_27 (by decide) ?_)))
      refine r_loc [(0, some (.ref s)), (1, some (vi len)), (2, some (vi a)), (3, some (vi st)), (4, some (vi (i + 1)))] ⟨Or.inl rfl, Or.inl rfl, Or.inl rfl, Or.inl rfl, Or.inl rfl, trivial⟩ ?_
      refine ih (i + 1) _ (upI f i (a + i * st)) SeqAt.seq (by omega) (by omega) (fun f' hf' => ?_)
      rw [seq_seq]
      refine hq f' (fun k k1 k2 => ?_)
      rw [hf' k k1 k2]
      unfold upI
      by_cases e : k = i
      · subst e
        rw [if_pos (by omega), if_pos rfl, if_neg (by omega)]
      · by_cases e2 : k < i
        · rw [if_pos (by omega), if_neg e, if_pos e2]
        · rw [if_neg (by omega), if_neg e2]
/-- the terms behind the length stay what they are: f' is told up to the length alone -/
theorem c_X7_fillEvenly {len a st : Int} (h : SeqAt S s c f) (h0 : 0 ≤ len ∧ len ≤ 32) : PC g yX7_fillEvenly cX7_fillEvenly (iX7_fillEvenly mc ms) [.ref s, vi len, vi a, vi st] S (fun o S' => ∃ f', (∀ k, 0 ≤ k → k < len → f' k = a + k * st) ∧ o = .inl none ∧ S' = ps_seq S s len f') := by
  refine PC_of pnX7 rfl rfl rfl (Nat.le_of_ble_eq_true rfl) ?_
  refine r_aload_n dX7_fillEvenly_0 (i := 0) rfl rfl (r_iconst dX7_fillEvenly_1 (r_put dX7_fillEvenly_2 fl_X7_15 h.1 rfl rfl (Nat.le_of_ble_eq_true rfl) (r_iconst dX7_fillEvenly_5 (r_istore dX7_fillEvenly_6 rfl (Nat.le_of_ble_eq_true rfl) ?_))))
  have h2 : SeqAt (ps_put S s (cO 7 [.ref (s + 1), vi 0])) s 0 f := ⟨ps_same, ps_ne (by omega) h.2⟩
  refine r_loc [(0, some (.ref s)), (1, some (vi len)), (2, some (vi a)), (3, some (vi st)), (4, some (vi 0))] ⟨Or.inl rfl, Or.inl rfl, Or.inl rfl, Or.inl rfl, Or.inl rfl, trivial⟩ ?_
  refine l_fill h0 _ len.toNat 0 _ f h2 (by omega) (by omega) (fun f' hf' => ?_)
  refine ⟨f', fun k k1 k2 => ?_, rfl, ?_⟩
  · rw [hf' k k1 k2, if_neg (by omega)]
  · have e : ps_put S s (cO 7 [.ref (s + 1), vi 0]) = ps_seq S s 0 f := by
      rw [← h.self, seq_c, seq_seq]
    show ps_seq (ps_put S s (cO 7 [.ref (s + 1), vi 0])) s len f' = _
    rw [e, seq_seq]
def iabs (z : Int) : Int := if 0 ≤ z then z else -z
def imax (f : Int → Int) : Nat → Int
  | 0 => 0
  | n + 1 => max (imax f n) (iabs (f n))
theorem iabs_le {z M : Int} (h1 : -M ≤ z) (h2 : z ≤ M) : 0 ≤ iabs z ∧ iabs z ≤ M := by
  unfold iabs
  split <;> omega
theorem imax_le {f : Int → Int} {M : Int} (hM : 0 ≤ M) : ∀ n : Nat, (∀ k : Int, 0 ≤ k → k < n → -M ≤ f k ∧ f k ≤ M) → 0 ≤ imax f n ∧ imax f n ≤ M
  | 0, _ => ⟨Int.le_refl _, hM⟩
  | n + 1, h => by
    have h1 := imax_le hM n (fun k k1 k2 => h k k1 (by omega))
    have h2 := h n (by omega) (by omega)
    have h3 := iabs_le h2.1 h2.2
    show 0 ≤ max _ _ ∧ max _ _ ≤ M
    omega
/-- every term is from -9999 to 9999 -/
def TermsOk (c : Int) (f : Int → Int) : Prop := ∀ k : Int, 0 ≤ k → k < c → -9999 ≤ f k ∧ f k ≤ 9999
theorem l_great (h : SeqAt S s c f) (hc : 0 ≤ c ∧ c ≤ 32) (hf : TermsOk c f) {Q : PO → PS → Prop} {kc ks : Nat} (hq : Q (.inl (some (vi (imax f c.toNat)))) S) : ∀ (n j : Nat), (j : Int) + n = c →
    PW g cX7_greatestSize (iX7_greatestSize mc ms) 4 [(0, some (.ref s)), (1, some (vi (imax f j))), (2, some (vi (j : Int)))] [] S kc ks Q := by
  intro n
  induction n with
  | zero =>
    intro j hn
    refine r_iload_n dX7_greatestSize_4 (i := 2) rfl rfl (r_aload_n dX7_greatestSize_5 (i := 0) rfl rfl (r_get dX7_greatestSize_6 fl_X7_15 h.1 rfl ?_))
    refine r_icmp_ge 32 dX7_greatestSize_9 (by decide) (by omega) (by omega) (fun h1 => ?_) (fun h1 => ?_)
    · refine r_iload_n dX7_greatestSize_32 (i := 1) rfl rfl (r_iret dX7_greatestSize_33 rfl rfl ?_)
      rw [show c.toNat = j by omega] at hq
      exact hq
    · omega
  | succ n ih =>
    intro j hn
    have hj := hf j (by omega) (by omega)
    have hm := imax_le (f := f) (M := 9999) (by omega) j (fun k k1 k2 => hf k k1 (by omega))
    have ha := iabs_le hj.1 hj.2
    have e : (if 0 ≤ f j then f j else -f j) = iabs (f j) := rfl
    refine r_iload_n dX7_greatestSize_4 (i := 2) rfl rfl (r_aload_n dX7_greatestSize_5 (i := 0) rfl rfl (r_get dX7_greatestSize_6 fl_X7_15 h.1 rfl ?_))
    refine r_icmp_ge 32 dX7_greatestSize_9 (by decide) (by omega) (by omega) (fun h1 => ?_) (fun h1 => ?_)
    · omega
    · refine r_iload_n dX7_greatestSize_12 (i := 1) rfl rfl (r_aload_n dX7_greatestSize_13 (i := 0) rfl rfl (r_get dX7_greatestSize_14 fl_X7_9 h.1 rfl (r_iload_n dX7_greatestSize_17 (i := 2) rfl rfl (r_iald dX7_greatestSize_18 h.2 (by omega) (by omega) (by omega) ?_))))
      refine r_mabs dX7_greatestSize_19 mw_X7_27 (by omega) (Nat.le_of_ble_eq_true rfl) (Nat.le_of_ble_eq_true rfl) ?_
      rw [e]
      refine r_mmax dX7_greatestSize_22 mw_X7_33 (by omega) (by omega) (Nat.le_of_ble_eq_true rfl) (Nat.le_of_ble_eq_true rfl) (r_istore_n dX7_greatestSize_25 (i := 1) rfl rfl (Nat.le_of_ble_eq_true rfl) (r_iinc dX7_greatestSize_26 rfl rfl (r_goto 4 dX7_greatestSize_29 (by decide) ?_)))
      refine r_loc [(0, some (.ref s)), (1, some (vi (imax f (j + 1)))), (2, some (vi ((j + 1 : Nat) : Int)))] ⟨Or.inl rfl, Or.inl rfl, Or.inl rfl, trivial⟩ ?_
      exact ih (j + 1) (by omega)
theorem c_X7_greatestSize (h : SeqAt S s c f) (hc : 0 ≤ c ∧ c ≤ 32) (hf : TermsOk c f) : PC g yX7_greatestSize cX7_greatestSize (iX7_greatestSize mc ms) [.ref s] S (Rt (some (vi (imax f c.toNat))) S) := by
  refine PC_of pnX7 rfl rfl rfl (Nat.le_of_ble_eq_true rfl) ?_
  refine r_iconst dX7_greatestSize_0 (r_istore_n dX7_greatestSize_1 (i := 1) rfl rfl (Nat.le_of_ble_eq_true rfl) (r_iconst dX7_greatestSize_2 (r_istore_n dX7_greatestSize_3 (i := 2) rfl rfl (Nat.le_of_ble_eq_true rfl) ?_)))
  refine r_loc [(0, some (.ref s)), (1, some (vi (imax f (0 : Nat)))), (2, some (vi ((0 : Nat) : Int)))] ⟨Or.inl rfl, Or.inl rfl, Or.inl rfl, trivial⟩ ?_
  exact l_great h hc hf ⟨rfl, rfl⟩ c.toNat 0 (by omega)
theorem c_X7_copyFrom {s' : Nat} {c' : Int} {f' : Int → Int} (h : SeqAt S s c f) (h' : SeqAt S s' c' f') (hne : s + 1 < s' ∨ s' + 1 < s) : PC g yX7_copyFrom cX7_copyFrom (iX7_copyFrom mc ms) [.ref s, .ref s'] S (Rt none (ps_seq S s c' f')) := by
  refine PC_of pnX7 rfl rfl rfl (Nat.le_of_ble_eq_true rfl) ?_
  refine r_aload_n dX7_copyFrom_0 (i := 0) rfl rfl (r_aload_n dX7_copyFrom_1 (i := 1) rfl rfl (r_get dX7_copyFrom_2 fl_X7_15 h'.1 rfl (r_put dX7_copyFrom_5 fl_X7_15 h.1 rfl rfl (Nat.le_of_ble_eq_true rfl) ?_)))
  have h1 : SeqAt (ps_put S s (cO 7 [.ref (s + 1), vi c'])) s c' f := ⟨ps_same, ps_ne (by omega) h.2⟩
  have h2 : SeqAt (ps_put S s (cO 7 [.ref (s + 1), vi c'])) s' c' f' := ⟨ps_ne (by omega) h'.1, ps_ne (by omega) h'.2⟩
  refine r_aload_n dX7_copyFrom_8 (i := 1) rfl rfl (r_get dX7_copyFrom_9 fl_X7_9 h2.1 rfl (r_iconst dX7_copyFrom_12 (r_aload_n dX7_copyFrom_13 (i := 0) rfl rfl (r_get dX7_copyFrom_14 fl_X7_9 h1.1 rfl ?_))))
  refine r_iconst dX7_copyFrom_17 (r_bipush dX7_copyFrom_18 (by decide) ?_)
  refine r_copyI (N := 32) dX7_copyFrom_20 cp_X7_37 h2.2 h1.2 (by omega) (Nat.le_of_ble_eq_true rfl) (Nat.le_of_ble_eq_true rfl) ?_
  refine r_vret dX7_copyFrom_23 rfl ?_
  refine ⟨rfl, ?_⟩
  show ps_put (ps_put S s (cO 7 [.ref (s + 1), vi c'])) (s + 1) (cI 32 f') = _
  rw [ps_put_comm (by omega)]
  rfl
theorem c_X7_init (h : S.1 s = some (cO 7 [.null, vi 0])) (hs : S.2 = s + 1) (hm : 1 ≤ mc) (hm2 : 32 ≤ ms) : PC g yX7_init cX7_init (iX7_init mc ms) [.ref s] S (fun o S' => o = .inl none ∧ S' = (fun a => if a = s then some (cO 7 [.ref (s + 1), vi 0]) else if a = s + 1 then some (cI 32 (fun _ => 0)) else S.1 a, s + 2)) := by
  refine PC_of pnX7 rfl rfl rfl (Nat.le_of_ble_eq_true rfl) ?_
  refine r_bud (kc' := 0 + 1) (ks' := 0 + 32) (by show 1 ≤ mc; omega) (by show 32 ≤ ms; omega) ?_
  refine r_aload_n dX7_init_0 (i := 0) rfl rfl (r_objInit dX7_init_1 ob_X7_3 w_objI w_objC (Nat.le_of_ble_eq_true rfl) (Nat.le_of_ble_eq_true rfl) (r_aload_n dX7_init_4 (i := 0) rfl rfl (r_bipush dX7_init_5 (by decide) (r_newI (N := 32) dX7_init_7 w_ar_int (by decide) (fun _ => ?_)))))
  have h1 : (ps_new S (cI 32 (fun _ => 0))).1 s = some (cO 7 [.null, vi 0]) := pn_ne (by omega) h
  refine r_putF dX7_init_9 flf_X7_9 rfl h1 rfl rfl (Nat.le_of_ble_eq_true rfl) ?_
  refine r_vret dX7_init_12 rfl ?_
  refine ⟨rfl, ?_⟩
  unfold ps_put ps_new
  rw [hs]
  refine Prod.ext (funext fun a => ?_) rfl
  show (if a = s then _ else if a = s + 1 then _ else _) = (if a = s then _ else if a = s + 1 then _ else _)
  rfl
end SEQ

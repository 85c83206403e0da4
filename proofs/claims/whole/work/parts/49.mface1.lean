/-! the model's face: questions that change nothing, part 1 -/
theorem genof_ex {p : Nat} (hp : Pr p) (h3 : 3 ≤ p) : ∃ e, GenOf p e := by
  obtain ⟨e, h1, h2, h4⟩ := gen_ex hp h3
  have : ∀ n, ∀ e, e < n → 2 ≤ e → e < p → IsGen p e → ∃ e', GenOf p e' := by
    intro n
    induction n with
    | zero =>
      intro e he
      omega
    | succ n ih =>
      intro e he h1 h2 h4
      by_cases hx : ∃ x, 2 ≤ x ∧ x < e ∧ IsGen p x
      · obtain ⟨x, x1, x2, x3⟩ := hx
        exact ih x (by omega) x1 (by omega) x3
      · exact ⟨e, h1, h2, h4, fun y y1 y2 y3 => hx ⟨y, y1, y2, y3⟩⟩
  exact this (e + 1) e (by omega) h1 h2 h4
noncomputable def genN (p : Nat) : Nat := Classical.epsilon (GenOf p)
theorem genN_ok {p : Nat} (hp : Pr p) (h3 : 3 ≤ p) : GenOf p (genN p) := Classical.epsilon_spec (genof_ex hp h3)
noncomputable def lowN (n : Nat) : Nat := Classical.epsilon (LowBit n)
theorem lowN_ok {n : Nat} (h : 0 < n) : LowBit n (lowN n) := Classical.epsilon_spec (low_ex n h)
noncomputable def ordN (p u : Nat) : Nat := Classical.epsilon (LeastOrd p u)
theorem ordN_ok {p u : Nat} (hp : Pr p) (hu : 0 < u ∧ u < p) : LeastOrd p u (ordN p u) := by
  refine Classical.epsilon_spec (p := LeastOrd p u) ?_
  have hf := fermat hp (show ¬ p ∣ u from fun hd => by have := Nat.le_of_dvd hu.1 hd; omega)
  have h2 := hp.1
  have : ∀ n, ∀ e, e < n → 0 < e → u ^ e % p = 1 → ∃ e', LeastOrd p u e' := by
    intro n
    induction n with
    | zero =>
      intro e he
      omega
    | succ n ih =>
      intro e he h1 h4
      by_cases hx : ∃ x, 0 < x ∧ x < e ∧ u ^ x % p = 1
      · obtain ⟨x, x1, x2, x3⟩ := hx
        exact ih x (by omega) x1 x3
      · exact ⟨e, h1, h4, fun y y1 y2 y3 => hx ⟨y, y1, y2, y3⟩⟩
  exact this (p - 1 + 1) (p - 1) (by omega) (by omega) hf
/-- the least exponent of a power -/
def LogOf (p g u n : Nat) : Prop := g ^ n % p = u ∧ ∀ d, d < n → g ^ d % p ≠ u
noncomputable def logN (p g u : Nat) : Nat := Classical.epsilon (LogOf p g u)
/-- a value's kind -/
def tgV : Value → Nat
  | .int _ => 0
  | .long _ => 1
  | _ => 2
theorem tg_i {r : Value} {z : Int} (h : tgV r = tgV (vi z)) : ∃ w : Int, RI w ∧ r = vi w := by
  cases r with
  | int x => exact ⟨x.toInt, q_rI x, by rw [vi, q_asI]⟩
  | long x => cases h
  | _ => cases h
theorem tg_l {r : Value} {z : Int} (h : tgV r = tgV (vl z)) : ∃ x : Int64, r = .long x := by
  cases r with
  | int x => cases h
  | long x => exact ⟨x, rfl⟩
  | _ => cases h
def mR (S : PS) (m : Nat) (f : Int → PE) (k : Int) (v : Value) : PO → PS → Prop := fun o S' => ∃ r, o = .inl (some r) ∧ (k = 0 → r = v) ∧ S' = ps_put S m (f k) ∧ tgV r = tgV v
theorem mR_t {S : PS} {m : Nat} {f : Int → PE} {k k' : Int} {v r : Value} (e : k = k') (h : k' ≠ 0) (ht : tgV r = tgV v := by rfl) : mR S m f k v (.inl (some r)) (ps_put S m (f k')) := ⟨r, rfl, fun z => absurd (e ▸ z) h, by rw [e], ht⟩
theorem mR_0 {S : PS} {m : Nat} {f : Int → PE} {k k' : Int} {v r : Value} (e : k = k') (e2 : r = v) : mR S m f k v (.inl (some r)) (ps_put S m (f k')) := ⟨r, rfl, fun _ => e2, by rw [e], by rw [e2]⟩
def thP (a : Int → Int) (q : Int) : Prop := 0 ≤ q ∧ q ≤ a 0 - 1
theorem thP_dec (a : Int → Int) (q : Int) : (0 ≤ q ∧ q ≤ a 0 - 1) ↔ thP a q := Iff.rfl
def kPrime (a : Int → Int) (q w : Int) : Int := if 0 ≤ q ∧ q ≤ a 0 - 1 then (if 0 ≤ w ∧ w ≤ 4 then 0 else 2) else 1
def pN (a : Int → Int) (q : Int) : Nat := (a (1 + q)).toNat
noncomputable def vPrime (a : Int → Int) (q w : Int) : Int := if w = 0 then (pN a q : Int) else if w = 1 then (genN (pN a q) : Int) else if w = 2 then (lowN (pN a q - 1) : Int) else if w = 3 then (npf (pN a q - 1) (pN a q - 1 + 1) : Int) else ndiv ((pN a q : Int) - 1) 64
def kRoot (a : Int → Int) (q n : Int) : Int := if 0 ≤ q ∧ q ≤ a 0 - 1 then (if 1 ≤ n ∧ n ≤ a (1 + q) - 1 then (if (a (1 + q) - 1) % n = 0 then 0 else 3) else 2) else 1
noncomputable def rtI (p n : Nat) : Int := ((genN p ^ ((p - 1) / n) % p : Nat) : Int)
def kPower (a : Int → Int) (q e : Int) : Int := if 0 ≤ q ∧ q ≤ a 0 - 1 then (if e < 0 then 2 else 0) else 1
section MFACE1
variable {g : GT} {S : PS} {mc ms : Nat} {Q : PO → PS → Prop} {kc ks : Nat} {m : Nat} {a : Int → Int} {km th bu sz at' be ki wr wa ea nu bs bw bt' : Int}
theorem pN_ok (hp : MP a) {q : Int} (h : 0 ≤ q ∧ q ≤ a 0 - 1) : a (1 + q) = (pN a q : Int) ∧ (3 ≤ pN a q ∧ pN a q ≤ 100003) ∧ Pr (pN a q) := by
  have h1 := hp.2 q h.1 (by omega)
  unfold pN
  exact ⟨by omega, by omega, h1.2.2⟩
theorem c_X10_primes (h : S.1 m = some (mO m km th bu sz at' be ki wr wa ea nu bs bw bt')) (ha : S.1 (m + 1) = some (cJ 215 a)) : PC g yX10_primes cX10_primes (iX10_primes mc ms) [.ref m] S (mR S m (fun k => mO m km k bu sz at' be ki wr wa ea nu bs bw bt') 0 (vi (a 0))) := by
  refine PC_of pnX10 rfl rfl rfl (Nat.le_of_ble_eq_true rfl) ?_
  refine r_aload_n dX10_primes_0 (i := 0) rfl rfl (r_iconst dX10_primes_1 (r_put dX10_primes_2 fl_X10_30 h rfl rfl (Nat.le_of_ble_eq_true rfl) (r_aload_n dX10_primes_5 (i := 0) rfl rfl (r_get dX10_primes_6 fl_X10_7 ps_same rfl ?_))))
  refine r_iconst dX10_primes_9 (r_lald dX10_primes_10 (ps_ne (by omega) ha) (by omega) (by omega) (by omega) (r_l2i dX10_primes_11 ?_))
  refine r_iret dX10_primes_12 rfl rfl ?_
  exact mR_0 rfl rfl
theorem c_X10_errorPosition (h : S.1 m = some (mO m km th bu sz at' be ki wr wa ea nu bs bw bt')) : PC g yX10_errorPosition cX10_errorPosition (iX10_errorPosition mc ms) [.ref m] S (mR S m (fun k => mO m km k bu sz at' be ki wr wa ea nu bs bw bt') 0 (vi ea)) := by
  refine PC_of pnX10 rfl rfl rfl (Nat.le_of_ble_eq_true rfl) ?_
  refine r_aload_n dX10_errorPosition_0 (i := 0) rfl rfl (r_iconst dX10_errorPosition_1 (r_put dX10_errorPosition_2 fl_X10_30 h rfl rfl (Nat.le_of_ble_eq_true rfl) (r_aload_n dX10_errorPosition_5 (i := 0) rfl rfl (r_get dX10_errorPosition_6 fl_X10_23 ps_same rfl ?_))))
  refine r_iret dX10_errorPosition_9 rfl rfl ?_
  exact mR_0 rfl rfl
theorem c_X10_thrown (h : S.1 m = some (mO m km th bu sz at' be ki wr wa ea nu bs bw bt')) : PC g yX10_thrown cX10_thrown (iX10_thrown mc ms) [.ref m] S (Rt (some (vi th)) S) := by
  refine PC_of pnX10 rfl rfl rfl (Nat.le_of_ble_eq_true rfl) ?_
  refine r_aload_n dX10_thrown_0 (i := 0) rfl rfl (r_get dX10_thrown_1 fl_X10_30 h rfl ?_)
  refine r_iret dX10_thrown_4 rfl rfl ?_
  first | omega | exact ⟨rfl, rfl⟩ | exact ⟨by rw [b2i_t (by omega)], rfl⟩ | exact ⟨by rw [b2i_f (by omega)], rfl⟩
def kLength (s : Int) : Int := if 0 ≤ s ∧ s ≤ 3 then 0 else 1
theorem c_X10_length {s : Int} (h : S.1 m = some (mO m km th bu sz at' be ki wr wa ea nu bs bw bt')) (ha : S.1 (m + 1) = some (cJ 215 a)) (hs : RI s) : PC g yX10_length cX10_length (iX10_length mc ms) [.ref m, vi s] S (mR S m (fun k => mO m km k bu sz at' be ki wr wa ea nu bs bw bt') (kLength s) (vi (a (7 + s)))) := by
  refine PC_of pnX10 rfl rfl rfl (Nat.le_of_ble_eq_true rfl) ?_
  refine r_aload_n dX10_length_0 (i := 0) rfl rfl (r_iload_n dX10_length_1 (i := 1) rfl rfl (c_sr dX10_length_2 (c_X10_isSlot hs) rfl rfl mq_X10_isSlot ml_X10_191 ⟨Nat.le_of_ble_eq_true rfl, Nat.le_of_ble_eq_true rfl⟩ rfl rfl (Nat.le_of_ble_eq_true rfl) ?_))
  refine r_if_eq 12 dX10_length_5 (by decide) b2i_RI (fun c1 => ?_) (fun c1 => ?_)
  · replace c1 := b2i_eq c1
    refine r_iconst dX10_length_12 (r_put dX10_length_13 fl_X10_30 h rfl rfl (Nat.le_of_ble_eq_true rfl) (r_aload_n dX10_length_16 (i := 0) rfl rfl (r_get dX10_length_17 fl_X10_30 ps_same rfl ?_)))
    refine r_if_le 27 dX10_length_20 (by decide) (by omega) (fun c2 => ?_) (fun c2 => ?_)
    · omega
    · refine r_iconst dX10_length_23 (r_goto 32 dX10_length_24 (by decide) ?_)
      refine r_iret dX10_length_32 rfl rfl ?_
      first | exact mR_t (by unfold kLength; rw [if_neg (by omega)]) (by decide) | exact mR_0 (by unfold kLength; rw [if_pos (by omega)]) rfl
  · replace c1 := b2i_ne c1
    refine r_iconst dX10_length_8 (r_goto 13 dX10_length_9 (by decide) (r_put dX10_length_13 fl_X10_30 h rfl rfl (Nat.le_of_ble_eq_true rfl) (r_aload_n dX10_length_16 (i := 0) rfl rfl (r_get dX10_length_17 fl_X10_30 ps_same rfl ?_))))
    refine r_if_le 27 dX10_length_20 (by decide) (by omega) (fun c3 => ?_) (fun c3 => ?_)
    · refine r_aload_n dX10_length_27 (i := 0) rfl rfl (r_iload_n dX10_length_28 (i := 1) rfl rfl (c_vr dX10_length_29 (c_X10_longOf ps_same (ps_ne (by omega) ha) (by omega)) rfl rfl mq_X10_longOf ml_X10_194 ⟨Nat.le_of_ble_eq_true rfl, Nat.le_of_ble_eq_true rfl⟩ ps_same rfl rfl rfl (Nat.le_of_ble_eq_true rfl) ?_))
      refine r_iret dX10_length_32 rfl rfl ?_
      first | exact mR_t (by unfold kLength; rw [if_neg (by omega)]) (by decide) | exact mR_0 (by unfold kLength; rw [if_pos (by omega)]) rfl
    · omega
def kTerm (a : Int → Int) (s k : Int) : Int := if (0 ≤ s ∧ s ≤ 3) ∧ 0 ≤ k ∧ k ≤ a (7 + s) - 1 then 0 else 1
theorem c_X10_term {s k : Int} (h : S.1 m = some (mO m km th bu sz at' be ki wr wa ea nu bs bw bt')) (ha : S.1 (m + 1) = some (cJ 215 a)) (hl : ML a) (hs : RI s) (hk : RI k) : PC g yX10_term cX10_term (iX10_term mc ms) [.ref m, vi s, vi k] S (mR S m (fun k => mO m km k bu sz at' be ki wr wa ea nu bs bw bt') (kTerm a s k) (vi (a (11 + 32 * s + k)))) := by
  refine PC_of pnX10 rfl rfl rfl (Nat.le_of_ble_eq_true rfl) ?_
  refine r_aload_n dX10_term_0 (i := 0) rfl rfl (r_iload_n dX10_term_1 (i := 1) rfl rfl (c_sr dX10_term_2 (c_X10_isSlot hs) rfl rfl mq_X10_isSlot ml_X10_191 ⟨Nat.le_of_ble_eq_true rfl, Nat.le_of_ble_eq_true rfl⟩ rfl rfl (Nat.le_of_ble_eq_true rfl) ?_))
  refine r_if_eq 29 dX10_term_5 (by decide) b2i_RI (fun c1 => ?_) (fun c1 => ?_)
  · replace c1 := b2i_eq c1
    refine r_iconst dX10_term_29 (r_put dX10_term_30 fl_X10_30 h rfl rfl (Nat.le_of_ble_eq_true rfl) (r_aload_n dX10_term_33 (i := 0) rfl rfl (r_get dX10_term_34 fl_X10_30 ps_same rfl ?_)))
    refine r_if_le 44 dX10_term_37 (by decide) (by omega) (fun c2 => ?_) (fun c2 => ?_)
    · omega
    · refine r_iconst dX10_term_40 (r_goto 51 dX10_term_41 (by decide) ?_)
      refine r_iret dX10_term_51 rfl rfl ?_
      first | exact mR_t (by unfold kTerm; rw [if_neg (by omega)]) (by decide) | exact mR_0 (by unfold kTerm; rw [if_pos (by omega)]) rfl
  · replace c1 := b2i_ne c1
    have hl1 := hl.1 s (by omega) (by omega)
    refine r_iload_n dX10_term_8 (i := 2) rfl rfl (r_i2l dX10_term_9 (by omega) (r_lconst (z := 0) dX10_term_10 (by decide) (r_aload_n dX10_term_11 (i := 0) rfl rfl (r_iload_n dX10_term_12 (i := 1) rfl rfl ?_))))
    refine c_vr dX10_term_13 (c_X10_longOf h ha (by omega)) rfl rfl mq_X10_longOf ml_X10_194 ⟨Nat.le_of_ble_eq_true rfl, Nat.le_of_ble_eq_true rfl⟩ h rfl rfl rfl (Nat.le_of_ble_eq_true rfl) (r_iconst dX10_term_16 (r_isub dX10_term_17 (r_i2l dX10_term_18 (by omega) (c_sr dX10_term_19 (c_X10_isIn ⟨by omega, by omega⟩ ⟨by omega, by omega⟩ ⟨by omega, by omega⟩) rfl rfl mq_X10_isIn ml_X10_46 ⟨Nat.le_of_ble_eq_true rfl, Nat.le_of_ble_eq_true rfl⟩ rfl rfl (Nat.le_of_ble_eq_true rfl) ?_))))
    refine r_if_eq 29 dX10_term_22 (by decide) b2i_RI (fun c3 => ?_) (fun c3 => ?_)
    · replace c3 := b2i_eq c3
      refine r_iconst dX10_term_29 (r_put dX10_term_30 fl_X10_30 h rfl rfl (Nat.le_of_ble_eq_true rfl) (r_aload_n dX10_term_33 (i := 0) rfl rfl (r_get dX10_term_34 fl_X10_30 ps_same rfl ?_)))
      refine r_if_le 44 dX10_term_37 (by decide) (by omega) (fun c4 => ?_) (fun c4 => ?_)
      · omega
      · refine r_iconst dX10_term_40 (r_goto 51 dX10_term_41 (by decide) ?_)
        refine r_iret dX10_term_51 rfl rfl ?_
        first | exact mR_t (by unfold kTerm; rw [if_neg (by omega)]) (by decide) | exact mR_0 (by unfold kTerm; rw [if_pos (by omega)]) rfl
    · replace c3 := b2i_ne c3
      refine r_iconst dX10_term_25 (r_goto 30 dX10_term_26 (by decide) (r_put dX10_term_30 fl_X10_30 h rfl rfl (Nat.le_of_ble_eq_true rfl) (r_aload_n dX10_term_33 (i := 0) rfl rfl (r_get dX10_term_34 fl_X10_30 ps_same rfl ?_))))
      refine r_if_le 44 dX10_term_37 (by decide) (by omega) (fun c5 => ?_) (fun c5 => ?_)
      · refine r_aload_n dX10_term_44 (i := 0) rfl rfl (r_iload_n dX10_term_45 (i := 1) rfl rfl (r_iload_n dX10_term_46 (i := 2) rfl rfl (c_vr dX10_term_47 (c_X10_termOf ps_same (ps_ne (by omega) ha) (by omega) (by omega)) rfl rfl mq_X10_termOf ml_X10_197 ⟨Nat.le_of_ble_eq_true rfl, Nat.le_of_ble_eq_true rfl⟩ ps_same rfl rfl rfl (Nat.le_of_ble_eq_true rfl) (r_l2i dX10_term_50 ?_))))
        refine r_iret dX10_term_51 rfl rfl ?_
        first | exact mR_t (by unfold kTerm; rw [if_neg (by omega)]) (by decide) | exact mR_0 (by unfold kTerm; rw [if_pos (by omega)]) rfl
      · omega
theorem c_X10_prime {q w : Int} (h : S.1 m = some (mO m km th bu sz at' be ki wr wa ea nu bs bw bt')) (ha : S.1 (m + 1) = some (cJ 215 a)) (hp : MP a) (hq : RI q) (hw : RI w) : PC g yX10_prime cX10_prime (iX10_prime mc ms) [.ref m, vi q, vi w] S (mR S m (fun k => mO m km k bu sz at' be ki wr wa ea nu bs bw bt') (kPrime a q w) (vi (vPrime a q w))) := by
  refine PC_of pnX10 rfl rfl rfl (Nat.le_of_ble_eq_true rfl) ?_
  have h0 := hp.1
  refine r_aload_n dX10_prime_0 (i := 0) rfl rfl (r_aload_n dX10_prime_1 (i := 0) rfl rfl (r_iload_n dX10_prime_2 (i := 1) rfl rfl (c_vr dX10_prime_3 (c_X10_isThere h ha h0 hq) rfl rfl mq_X10_isThere ml_X10_146 ⟨Nat.le_of_ble_eq_true rfl, Nat.le_of_ble_eq_true rfl⟩ h rfl rfl rfl (Nat.le_of_ble_eq_true rfl) ?_)))
  refine r_if_ne 13 dX10_prime_6 (by decide) b2i_RI (fun c1 => ?_) (fun c1 => ?_)
  · replace c1 := b2i_ne c1
    refine r_iload_n dX10_prime_13 (i := 2) rfl rfl (r_i2l dX10_prime_14 (by omega) (r_lconst (z := 0) dX10_prime_15 (by decide) (r_ldc2 dX10_prime_16 csj_X10_163 (c_sr dX10_prime_19 (c_X10_isIn ⟨by omega, by omega⟩ ⟨by omega, by omega⟩ ⟨by omega, by omega⟩) rfl rfl mq_X10_isIn ml_X10_46 ⟨Nat.le_of_ble_eq_true rfl, Nat.le_of_ble_eq_true rfl⟩ rfl rfl (Nat.le_of_ble_eq_true rfl) ?_))))
    refine r_if_ne 29 dX10_prime_22 (by decide) b2i_RI (fun c2 => ?_) (fun c2 => ?_)
    · replace c2 := b2i_ne c2
      refine r_iconst dX10_prime_29 (r_put dX10_prime_30 fl_X10_30 h rfl rfl (Nat.le_of_ble_eq_true rfl) (r_aload_n dX10_prime_33 (i := 0) rfl rfl (r_get dX10_prime_34 fl_X10_30 ps_same rfl ?_)))
      refine r_if_le 42 dX10_prime_37 (by decide) (by omega) (fun c3 => ?_) (fun c3 => ?_)
      · obtain ⟨hpa, hpr, hpp⟩ := pN_ok hp (q := q) (by omega)
        have hge := genN_ok hpp hpr.1
        have hlo := lowN_ok (n := pN a q - 1) (by omega)
        refine r_aload_n dX10_prime_42 (i := 0) rfl rfl (r_iload_n dX10_prime_43 (i := 1) rfl rfl (c_vr dX10_prime_44 (c_X10_primeAt ps_same (ps_ne (by omega) ha) (by omega)) rfl rfl mq_X10_primeAt ml_X10_165 ⟨Nat.le_of_ble_eq_true rfl, Nat.le_of_ble_eq_true rfl⟩ ps_same rfl rfl rfl (Nat.le_of_ble_eq_true rfl) ?_))
        rw [hpa]
        refine r_istore_n dX10_prime_47 (i := 3) rfl rfl (Nat.le_of_ble_eq_true rfl) (r_iload_n dX10_prime_48 (i := 2) rfl rfl ?_)
        have c4 : w = 0 ∨ w = 1 ∨ w = 2 ∨ w = 3 ∨ w = 4 := by omega
        rcases c4 with c4 | c4 | c4 | c4 | c4
        · refine r_tableIn 80 dX10_prime_49 ⟨by omega, by omega⟩ (by omega) (by omega) (by rw [c4]; rfl) (by decide) ?_
          refine r_iload_n dX10_prime_80 (i := 3) rfl rfl ?_
          refine r_iret dX10_prime_81 rfl rfl ?_
          first | exact mR_t (by unfold kPrime; rw [if_neg (by omega)]) (by decide) | exact mR_t (by unfold kPrime; rw [if_pos (by omega), if_neg (by omega)]) (by decide) | exact mR_0 (by unfold kPrime; rw [if_pos (by omega), if_pos (by omega)]) (by unfold vPrime; simp [*]) | exact mR_0 (by unfold kPrime; rw [if_pos (by omega), if_pos (by omega)]) (by unfold vPrime; rw [if_neg (by omega), if_neg (by omega), if_neg (by omega), if_pos (by omega), show pN a q - 1 + 1 = pN a q by omega])
        · refine r_tableIn 82 dX10_prime_49 ⟨by omega, by omega⟩ (by omega) (by omega) (by rw [c4]; rfl) (by decide) ?_
          refine r_iload_n dX10_prime_82 (i := 3) rfl rfl (c_sr dX10_prime_83 (c_X10_generator hpr hge) rfl rfl mq_X10_generator ml_X10_168 ⟨Nat.le_of_ble_eq_true rfl, Nat.le_of_ble_eq_true rfl⟩ rfl rfl (Nat.le_of_ble_eq_true rfl) ?_)
          refine r_iret dX10_prime_86 rfl rfl ?_
          first | exact mR_t (by unfold kPrime; rw [if_neg (by omega)]) (by decide) | exact mR_t (by unfold kPrime; rw [if_pos (by omega), if_neg (by omega)]) (by decide) | exact mR_0 (by unfold kPrime; rw [if_pos (by omega), if_pos (by omega)]) (by unfold vPrime; simp [*]) | exact mR_0 (by unfold kPrime; rw [if_pos (by omega), if_pos (by omega)]) (by unfold vPrime; rw [if_neg (by omega), if_neg (by omega), if_neg (by omega), if_pos (by omega), show pN a q - 1 + 1 = pN a q by omega])
        · refine r_tableIn 87 dX10_prime_49 ⟨by omega, by omega⟩ (by omega) (by omega) (by rw [c4]; rfl) (by decide) ?_
          refine r_iload_n dX10_prime_87 (i := 3) rfl rfl (r_iconst dX10_prime_88 (r_isub dX10_prime_89 ?_))
          rw [show ((pN a q : Int) - 1) = ((pN a q - 1 : Nat) : Int) by omega]
          refine c_sr dX10_prime_90 (c_X10_twos hlo (by omega)) rfl rfl mq_X10_twos ml_X10_171 ⟨Nat.le_of_ble_eq_true rfl, Nat.le_of_ble_eq_true rfl⟩ rfl rfl (Nat.le_of_ble_eq_true rfl) ?_
          refine r_iret dX10_prime_93 rfl rfl ?_
          first | exact mR_t (by unfold kPrime; rw [if_neg (by omega)]) (by decide) | exact mR_t (by unfold kPrime; rw [if_pos (by omega), if_neg (by omega)]) (by decide) | exact mR_0 (by unfold kPrime; rw [if_pos (by omega), if_pos (by omega)]) (by unfold vPrime; simp [*]) | exact mR_0 (by unfold kPrime; rw [if_pos (by omega), if_pos (by omega)]) (by unfold vPrime; rw [if_neg (by omega), if_neg (by omega), if_neg (by omega), if_pos (by omega), show pN a q - 1 + 1 = pN a q by omega])
        · refine r_tableIn 94 dX10_prime_49 ⟨by omega, by omega⟩ (by omega) (by omega) (by rw [c4]; rfl) (by decide) ?_
          refine r_iload_n dX10_prime_94 (i := 3) rfl rfl (r_iconst dX10_prime_95 (r_isub dX10_prime_96 ?_))
          rw [show ((pN a q : Int) - 1) = ((pN a q - 1 : Nat) : Int) by omega]
          refine c_sr dX10_prime_97 (c_X10_factors (by omega)) rfl rfl mq_X10_factors ml_X10_174 ⟨Nat.le_of_ble_eq_true rfl, Nat.le_of_ble_eq_true rfl⟩ rfl rfl (Nat.le_of_ble_eq_true rfl) ?_
          refine r_iret dX10_prime_100 rfl rfl ?_
          first | exact mR_t (by unfold kPrime; rw [if_neg (by omega)]) (by decide) | exact mR_t (by unfold kPrime; rw [if_pos (by omega), if_neg (by omega)]) (by decide) | exact mR_0 (by unfold kPrime; rw [if_pos (by omega), if_pos (by omega)]) (by unfold vPrime; simp [*]) | exact mR_0 (by unfold kPrime; rw [if_pos (by omega), if_pos (by omega)]) (by unfold vPrime; rw [if_neg (by omega), if_neg (by omega), if_neg (by omega), if_pos (by omega), show pN a q - 1 + 1 = pN a q by omega])
        · refine r_tableOut 101 dX10_prime_49 ⟨by omega, by omega⟩ (by omega) (by decide) ?_
          refine r_iload_n dX10_prime_101 (i := 3) rfl rfl (r_iconst dX10_prime_102 (r_isub dX10_prime_103 (c_sr dX10_prime_104 (c_X10_divisors (by omega)) rfl rfl mq_X10_divisors ml_X10_177 ⟨Nat.le_of_ble_eq_true rfl, Nat.le_of_ble_eq_true rfl⟩ rfl rfl (Nat.le_of_ble_eq_true rfl) ?_)))
          refine r_iret dX10_prime_107 rfl rfl ?_
          first | exact mR_t (by unfold kPrime; rw [if_neg (by omega)]) (by decide) | exact mR_t (by unfold kPrime; rw [if_pos (by omega), if_neg (by omega)]) (by decide) | exact mR_0 (by unfold kPrime; rw [if_pos (by omega), if_pos (by omega)]) (by unfold vPrime; simp [*]) | exact mR_0 (by unfold kPrime; rw [if_pos (by omega), if_pos (by omega)]) (by unfold vPrime; rw [if_neg (by omega), if_neg (by omega), if_neg (by omega), if_pos (by omega), show pN a q - 1 + 1 = pN a q by omega])
      · omega
    · replace c2 := b2i_eq c2
      refine r_iconst dX10_prime_25 (r_goto 30 dX10_prime_26 (by decide) (r_put dX10_prime_30 fl_X10_30 h rfl rfl (Nat.le_of_ble_eq_true rfl) (r_aload_n dX10_prime_33 (i := 0) rfl rfl (r_get dX10_prime_34 fl_X10_30 ps_same rfl ?_))))
      refine r_if_le 42 dX10_prime_37 (by decide) (by omega) (fun c5 => ?_) (fun c5 => ?_)
      · omega
      · refine r_iconst dX10_prime_40 ?_
        refine r_iret dX10_prime_41 rfl rfl ?_
        first | exact mR_t (by unfold kPrime; rw [if_neg (by omega)]) (by decide) | exact mR_t (by unfold kPrime; rw [if_pos (by omega), if_neg (by omega)]) (by decide) | exact mR_0 (by unfold kPrime; rw [if_pos (by omega), if_pos (by omega)]) (by unfold vPrime; simp [*]) | exact mR_0 (by unfold kPrime; rw [if_pos (by omega), if_pos (by omega)]) (by unfold vPrime; rw [if_neg (by omega), if_neg (by omega), if_neg (by omega), if_pos (by omega), show pN a q - 1 + 1 = pN a q by omega])
  · replace c1 := b2i_eq c1
    refine r_iconst dX10_prime_9 (r_goto 30 dX10_prime_10 (by decide) (r_put dX10_prime_30 fl_X10_30 h rfl rfl (Nat.le_of_ble_eq_true rfl) (r_aload_n dX10_prime_33 (i := 0) rfl rfl (r_get dX10_prime_34 fl_X10_30 ps_same rfl ?_))))
    refine r_if_le 42 dX10_prime_37 (by decide) (by omega) (fun c6 => ?_) (fun c6 => ?_)
    · omega
    · refine r_iconst dX10_prime_40 ?_
      refine r_iret dX10_prime_41 rfl rfl ?_
      first | exact mR_t (by unfold kPrime; rw [if_neg (by omega)]) (by decide) | exact mR_t (by unfold kPrime; rw [if_pos (by omega), if_neg (by omega)]) (by decide) | exact mR_0 (by unfold kPrime; rw [if_pos (by omega), if_pos (by omega)]) (by unfold vPrime; simp [*]) | exact mR_0 (by unfold kPrime; rw [if_pos (by omega), if_pos (by omega)]) (by unfold vPrime; rw [if_neg (by omega), if_neg (by omega), if_neg (by omega), if_pos (by omega), show pN a q - 1 + 1 = pN a q by omega])
theorem c_X10_rootOfI {p : Nat} {n : Int} (hp : 3 ≤ p ∧ p ≤ 100003) (hpp : Pr p) (hn : 1 ≤ n ∧ n < 2147483648) : PC g yX10_rootOf cX10_rootOf (iX10_rootOf mc ms) [vi (p : Int), vi n] S (Rt (some (vl (rtI p n.toNat))) S) := by
  obtain ⟨k, rfl⟩ := Int.eq_ofNat_of_zero_le (show 0 ≤ n by omega)
  exact c_X10_rootOf hp (genN_ok hpp hp.1) (by omega)
theorem rtI_bd {p n : Nat} (hp : 0 < p) : 0 ≤ rtI p n ∧ rtI p n < p := by
  have := Nat.mod_lt (genN p ^ ((p - 1) / n)) hp
  unfold rtI
  omega
theorem c_X10_costOfI {p n mt : Int} (hn : 1 ≤ n ∧ n ≤ 64) (hp : 3 ≤ p ∧ p ≤ 100003) (hmt : 0 ≤ mt ∧ mt ≤ 2) : PC g yX10_costOf cX10_costOf (iX10_costOf mc ms) [vi p, vi n, vi mt] S (Rt (some (vi (csI p n.toNat mt))) S) := by
  obtain ⟨k, rfl⟩ := Int.eq_ofNat_of_zero_le (show 0 ≤ n by omega)
  exact c_X10_costOf (by omega) hp hmt
theorem c_X10_bestMethodI {p n : Int} (hn : 1 ≤ n ∧ n ≤ 64) (hp : 3 ≤ p ∧ p ≤ 100003) : PC g yX10_bestMethod cX10_bestMethod (iX10_bestMethod mc ms) [vi p, vi n] S (Rt (some (vi (bmI p n.toNat))) S) := by
  obtain ⟨k, rfl⟩ := Int.eq_ofNat_of_zero_le (show 0 ≤ n by omega)
  exact c_X10_bestMethod (by omega) hp
theorem c_X10_powerOfI {p : Nat} {b e : Int} (hb : RJ b) (hp : 3 ≤ p ∧ p ≤ 100003) (he : 0 ≤ e ∧ e < 4611686018427387904) : PC g yX10_powerOf cX10_powerOf (iX10_powerOf mc ms) [vl b, vl e, vl (p : Int)] S (Rt (some (vl (pwI b e.toNat p))) S) := by
  obtain ⟨k, rfl⟩ := Int.eq_ofNat_of_zero_le he.1
  exact c_X10_powerOf hb hp (by omega)
theorem c_X10_root {q n : Int} (h : S.1 m = some (mO m km th bu sz at' be ki wr wa ea nu bs bw bt')) (ha : S.1 (m + 1) = some (cJ 215 a)) (hp : MP a) (hq : RI q) (hn : RI n) : PC g yX10_root cX10_root (iX10_root mc ms) [.ref m, vi q, vi n] S (mR S m (fun k => mO m km k bu sz at' be ki wr wa ea nu bs bw bt') (kRoot a q n) (vi (rtI (pN a q) n.toNat))) := by
  refine PC_of pnX10 rfl rfl rfl (Nat.le_of_ble_eq_true rfl) ?_
  have h0 := hp.1
  refine r_aload_n dX10_root_0 (i := 0) rfl rfl (r_aload_n dX10_root_1 (i := 0) rfl rfl (r_iload_n dX10_root_2 (i := 1) rfl rfl (c_vr dX10_root_3 (c_X10_isThere h ha h0 hq) rfl rfl mq_X10_isThere ml_X10_146 ⟨Nat.le_of_ble_eq_true rfl, Nat.le_of_ble_eq_true rfl⟩ h rfl rfl rfl (Nat.le_of_ble_eq_true rfl) ?_)))
  refine r_if_ne 13 dX10_root_6 (by decide) b2i_RI (fun c1 => ?_) (fun c1 => ?_)
  · replace c1 := b2i_ne c1
    obtain ⟨hpa, hpr, hpp⟩ := pN_ok hp (q := q) (by omega)
    have hge := genN_ok hpp hpr.1
    refine r_iload_n dX10_root_13 (i := 2) rfl rfl (r_i2l dX10_root_14 (by omega) (r_lconst (z := 1) dX10_root_15 (by decide) (r_aload_n dX10_root_16 (i := 0) rfl rfl (r_iload_n dX10_root_17 (i := 1) rfl rfl ?_))))
    refine c_vr dX10_root_18 (c_X10_primeAt h ha (by omega)) rfl rfl mq_X10_primeAt ml_X10_165 ⟨Nat.le_of_ble_eq_true rfl, Nat.le_of_ble_eq_true rfl⟩ h rfl rfl rfl (Nat.le_of_ble_eq_true rfl) (r_iconst dX10_root_21 (r_isub dX10_root_22 (r_i2l dX10_root_23 (by omega) (c_sr dX10_root_24 (c_X10_isIn ⟨by omega, by omega⟩ ⟨by omega, by omega⟩ ⟨by omega, by omega⟩) rfl rfl mq_X10_isIn ml_X10_46 ⟨Nat.le_of_ble_eq_true rfl, Nat.le_of_ble_eq_true rfl⟩ rfl rfl (Nat.le_of_ble_eq_true rfl) ?_))))
    refine r_if_ne 34 dX10_root_27 (by decide) b2i_RI (fun c2 => ?_) (fun c2 => ?_)
    · replace c2 := b2i_ne c2
      have e1 := Int.emod_nonneg (a (1 + q) - 1) (show n ≠ 0 by omega)
      have e2 := Int.emod_lt_of_pos (a (1 + q) - 1) (show 0 < n by omega)
      refine r_aload_n dX10_root_34 (i := 0) rfl rfl (r_iload_n dX10_root_35 (i := 1) rfl rfl (c_vr dX10_root_36 (c_X10_primeAt h ha (by omega)) rfl rfl mq_X10_primeAt ml_X10_165 ⟨Nat.le_of_ble_eq_true rfl, Nat.le_of_ble_eq_true rfl⟩ h rfl rfl rfl (Nat.le_of_ble_eq_true rfl) (r_iconst dX10_root_39 (r_isub dX10_root_40 ?_))))
      refine r_iload_n dX10_root_41 (i := 2) rfl rfl (r_iremN dX10_root_42 (by omega) (by omega) (by omega) (by omega) ?_)
      refine r_if_eq 50 dX10_root_43 (by decide) (by omega) (fun c3 => ?_) (fun c3 => ?_)
      · refine r_iconst dX10_root_50 (r_put dX10_root_51 fl_X10_30 h rfl rfl (Nat.le_of_ble_eq_true rfl) (r_aload_n dX10_root_54 (i := 0) rfl rfl (r_get dX10_root_55 fl_X10_30 ps_same rfl ?_)))
        refine r_if_le 65 dX10_root_58 (by decide) (by omega) (fun c4 => ?_) (fun c4 => ?_)
        · refine r_aload_n dX10_root_65 (i := 0) rfl rfl (r_iload_n dX10_root_66 (i := 1) rfl rfl (c_vr dX10_root_67 (c_X10_primeAt ps_same (ps_ne (by omega) ha) (by omega)) rfl rfl mq_X10_primeAt ml_X10_165 ⟨Nat.le_of_ble_eq_true rfl, Nat.le_of_ble_eq_true rfl⟩ ps_same rfl rfl rfl (Nat.le_of_ble_eq_true rfl) ?_))
          rw [hpa]
          refine r_iload_n dX10_root_70 (i := 2) rfl rfl (c_sr dX10_root_71 (c_X10_rootOfI hpr hpp ⟨by omega, by omega⟩) rfl rfl mq_X10_rootOf ml_X10_180 ⟨Nat.le_of_ble_eq_true rfl, Nat.le_of_ble_eq_true rfl⟩ rfl rfl (Nat.le_of_ble_eq_true rfl) (r_l2i dX10_root_74 ?_))
          refine r_iret dX10_root_75 rfl rfl ?_
          first | exact mR_t (by unfold kRoot; rw [if_neg (by omega)]) (by decide) | exact mR_t (by unfold kRoot; rw [if_pos (by omega), if_neg (by omega)]) (by decide) | exact mR_t (by unfold kRoot; rw [if_pos (by omega), if_pos (by omega), if_neg (by omega)]) (by decide) | exact mR_0 (by unfold kRoot; rw [if_pos (by omega), if_pos (by omega), if_pos (by omega)]) rfl
        · omega
      · refine r_iconst dX10_root_46 (r_goto 51 dX10_root_47 (by decide) (r_put dX10_root_51 fl_X10_30 h rfl rfl (Nat.le_of_ble_eq_true rfl) (r_aload_n dX10_root_54 (i := 0) rfl rfl (r_get dX10_root_55 fl_X10_30 ps_same rfl ?_))))
        refine r_if_le 65 dX10_root_58 (by decide) (by omega) (fun c5 => ?_) (fun c5 => ?_)
        · omega
        · refine r_iconst dX10_root_61 (r_goto 75 dX10_root_62 (by decide) ?_)
          refine r_iret dX10_root_75 rfl rfl ?_
          first | exact mR_t (by unfold kRoot; rw [if_neg (by omega)]) (by decide) | exact mR_t (by unfold kRoot; rw [if_pos (by omega), if_neg (by omega)]) (by decide) | exact mR_t (by unfold kRoot; rw [if_pos (by omega), if_pos (by omega), if_neg (by omega)]) (by decide) | exact mR_0 (by unfold kRoot; rw [if_pos (by omega), if_pos (by omega), if_pos (by omega)]) rfl
    · replace c2 := b2i_eq c2
      refine r_iconst dX10_root_30 (r_goto 51 dX10_root_31 (by decide) (r_put dX10_root_51 fl_X10_30 h rfl rfl (Nat.le_of_ble_eq_true rfl) (r_aload_n dX10_root_54 (i := 0) rfl rfl (r_get dX10_root_55 fl_X10_30 ps_same rfl ?_))))
      refine r_if_le 65 dX10_root_58 (by decide) (by omega) (fun c6 => ?_) (fun c6 => ?_)
      · omega
      · refine r_iconst dX10_root_61 (r_goto 75 dX10_root_62 (by decide) ?_)
        refine r_iret dX10_root_75 rfl rfl ?_
        first | exact mR_t (by unfold kRoot; rw [if_neg (by omega)]) (by decide) | exact mR_t (by unfold kRoot; rw [if_pos (by omega), if_neg (by omega)]) (by decide) | exact mR_t (by unfold kRoot; rw [if_pos (by omega), if_pos (by omega), if_neg (by omega)]) (by decide) | exact mR_0 (by unfold kRoot; rw [if_pos (by omega), if_pos (by omega), if_pos (by omega)]) rfl
  · replace c1 := b2i_eq c1
    refine r_iconst dX10_root_9 (r_goto 51 dX10_root_10 (by decide) (r_put dX10_root_51 fl_X10_30 h rfl rfl (Nat.le_of_ble_eq_true rfl) (r_aload_n dX10_root_54 (i := 0) rfl rfl (r_get dX10_root_55 fl_X10_30 ps_same rfl ?_))))
    refine r_if_le 65 dX10_root_58 (by decide) (by omega) (fun c7 => ?_) (fun c7 => ?_)
    · omega
    · refine r_iconst dX10_root_61 (r_goto 75 dX10_root_62 (by decide) ?_)
      refine r_iret dX10_root_75 rfl rfl ?_
      first | exact mR_t (by unfold kRoot; rw [if_neg (by omega)]) (by decide) | exact mR_t (by unfold kRoot; rw [if_pos (by omega), if_neg (by omega)]) (by decide) | exact mR_t (by unfold kRoot; rw [if_pos (by omega), if_pos (by omega), if_neg (by omega)]) (by decide) | exact mR_0 (by unfold kRoot; rw [if_pos (by omega), if_pos (by omega), if_pos (by omega)]) rfl
theorem c_X10_power {q b e : Int} (h : S.1 m = some (mO m km th bu sz at' be ki wr wa ea nu bs bw bt')) (ha : S.1 (m + 1) = some (cJ 215 a)) (hp : MP a) (hq : RI q) (hb : RI b) (he : RI e) : PC g yX10_power cX10_power (iX10_power mc ms) [.ref m, vi q, vi b, vi e] S (mR S m (fun k => mO m km k bu sz at' be ki wr wa ea nu bs bw bt') (kPower a q e) (vi (pwI b e.toNat (pN a q)))) := by
  refine PC_of pnX10 rfl rfl rfl (Nat.le_of_ble_eq_true rfl) ?_
  have h0 := hp.1
  refine r_aload_n dX10_power_0 (i := 0) rfl rfl (r_aload_n dX10_power_1 (i := 0) rfl rfl (r_iload_n dX10_power_2 (i := 1) rfl rfl (c_vr dX10_power_3 (c_X10_isThere h ha h0 hq) rfl rfl mq_X10_isThere ml_X10_146 ⟨Nat.le_of_ble_eq_true rfl, Nat.le_of_ble_eq_true rfl⟩ h rfl rfl rfl (Nat.le_of_ble_eq_true rfl) ?_)))
  refine r_if_ne 13 dX10_power_6 (by decide) b2i_RI (fun c1 => ?_) (fun c1 => ?_)
  · replace c1 := b2i_ne c1
    refine r_iload_n dX10_power_13 (i := 3) rfl rfl ?_
    refine r_if_ge 21 dX10_power_14 (by decide) (by omega) (fun c2 => ?_) (fun c2 => ?_)
    · refine r_iconst dX10_power_21 (r_put dX10_power_22 fl_X10_30 h rfl rfl (Nat.le_of_ble_eq_true rfl) (r_aload_n dX10_power_25 (i := 0) rfl rfl (r_get dX10_power_26 fl_X10_30 ps_same rfl ?_)))
      refine r_if_le 36 dX10_power_29 (by decide) (by omega) (fun c3 => ?_) (fun c3 => ?_)
      · obtain ⟨hpa, hpr, hpp⟩ := pN_ok hp (q := q) (by omega)
        refine r_iload_n dX10_power_36 (i := 2) rfl rfl (r_i2l dX10_power_37 (by omega) (r_iload_n dX10_power_38 (i := 3) rfl rfl (r_i2l dX10_power_39 (by omega) (r_aload_n dX10_power_40 (i := 0) rfl rfl ?_))))
        refine r_iload_n dX10_power_41 (i := 1) rfl rfl (c_vr dX10_power_42 (c_X10_primeAt ps_same (ps_ne (by omega) ha) (by omega)) rfl rfl mq_X10_primeAt ml_X10_165 ⟨Nat.le_of_ble_eq_true rfl, Nat.le_of_ble_eq_true rfl⟩ ps_same rfl rfl rfl (Nat.le_of_ble_eq_true rfl) ?_)
        rw [hpa]
        refine r_i2l dX10_power_45 (by omega) ?_
        rw [show (vl e) = vl ((e.toNat : Nat) : Int) by rw [Int.toNat_of_nonneg (by omega)]]
        refine c_sr dX10_power_46 (c_X10_powerOf ⟨by omega, by omega⟩ hpr (by omega)) rfl rfl mq_X10_powerOf ml_X10_155 ⟨Nat.le_of_ble_eq_true rfl, Nat.le_of_ble_eq_true rfl⟩ rfl rfl (Nat.le_of_ble_eq_true rfl) (r_l2i dX10_power_49 ?_)
        refine r_iret dX10_power_50 rfl rfl ?_
        first | exact mR_t (by unfold kPower; rw [if_neg (by omega)]) (by decide) | exact mR_t (by unfold kPower; rw [if_pos (by omega), if_pos (by omega)]) (by decide) | exact mR_0 (by unfold kPower; rw [if_pos (by omega), if_neg (by omega)]) rfl
      · omega
    · refine r_iconst dX10_power_17 (r_goto 22 dX10_power_18 (by decide) (r_put dX10_power_22 fl_X10_30 h rfl rfl (Nat.le_of_ble_eq_true rfl) (r_aload_n dX10_power_25 (i := 0) rfl rfl (r_get dX10_power_26 fl_X10_30 ps_same rfl ?_))))
      refine r_if_le 36 dX10_power_29 (by decide) (by omega) (fun c4 => ?_) (fun c4 => ?_)
      · omega
      · refine r_iconst dX10_power_32 (r_goto 50 dX10_power_33 (by decide) ?_)
        refine r_iret dX10_power_50 rfl rfl ?_
        first | exact mR_t (by unfold kPower; rw [if_neg (by omega)]) (by decide) | exact mR_t (by unfold kPower; rw [if_pos (by omega), if_pos (by omega)]) (by decide) | exact mR_0 (by unfold kPower; rw [if_pos (by omega), if_neg (by omega)]) rfl
  · replace c1 := b2i_eq c1
    refine r_iconst dX10_power_9 (r_goto 22 dX10_power_10 (by decide) (r_put dX10_power_22 fl_X10_30 h rfl rfl (Nat.le_of_ble_eq_true rfl) (r_aload_n dX10_power_25 (i := 0) rfl rfl (r_get dX10_power_26 fl_X10_30 ps_same rfl ?_))))
    refine r_if_le 36 dX10_power_29 (by decide) (by omega) (fun c5 => ?_) (fun c5 => ?_)
    · omega
    · refine r_iconst dX10_power_32 (r_goto 50 dX10_power_33 (by decide) ?_)
      refine r_iret dX10_power_50 rfl rfl ?_
      first | exact mR_t (by unfold kPower; rw [if_neg (by omega)]) (by decide) | exact mR_t (by unfold kPower; rw [if_pos (by omega), if_pos (by omega)]) (by decide) | exact mR_0 (by unfold kPower; rw [if_pos (by omega), if_neg (by omega)]) rfl
end MFACE1

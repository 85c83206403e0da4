/-! what a text says: its rows are rows of a bench; the class: Bench.clear -/
/-- a bench that was read -/
def NB (a : Int → Int) : Prop := MP a ∧ ML a ∧ MD a ∧ a 139 = 0 ∧ a 143 = 0
theorem NB.zero : NB (fun _ => 0) := ⟨⟨⟨Int.le_refl _, by decide⟩, fun k k0 k1 => absurd k1 (by show ¬ k < (0 : Int); omega)⟩, ⟨fun s _ _ => ⟨Int.le_refl _, (by decide : (0 : Int) ≤ 32)⟩, fun s k _ _ _ _ => ⟨(by decide : (-9999 : Int) ≤ 0), (by decide : (0 : Int) ≤ 9999)⟩⟩, fun i j i0 ij j1 => absurd j1 (by show ¬ j < (0 : Int); omega), rfl, rfl⟩
theorem NB.mv {a : Int → Int} (h : NB a) : MV a := ⟨Or.inl h.2.2.2.1, by have := h.2.2.2.2; omega, fun _ => h.2.2.2.2, fun z => by have := h.2.2.2.1; omega⟩
theorem Hi.md {a a' : Int → Int} (h : Hi a a') (hp : 0 ≤ a 0 ∧ a 0 ≤ 6) (hd : MD a) : MD a' := fun i j i0 ij j1 => by
  rw [h.1 0 (by omega) (by omega)] at j1
  rw [h.1 (1 + i) (by omega) (by omega), h.1 (1 + j) (by omega) (by omega)]
  exact hd i j i0 ij j1
theorem add_MD {a : Int → Int} (hp : MP a) (hd : MD a) {p : Int} (h : canAdd a p) : MD (addA a p) := fun i j i0 ij j1 => by
  have h0 := hp.1
  unfold addA at j1 ⊢
  rw [upI_eq] at j1
  rw [upI_ne (f := upI a (1 + a 0) p) (by omega), upI_ne (f := upI a (1 + a 0) p) (by omega), upI_ne (f := a) (by omega)]
  by_cases e : j = a 0
  · rw [show 1 + j = 1 + a 0 by omega, upI_eq]
    exact fun z => h.2.2 ⟨i, i0, by omega, z⟩
  · rw [upI_ne (by omega)]
    exact hd i j i0 ij (by omega)
theorem add_NB {a : Int → Int} (ha : NB a) {p : Int} (h : canAdd a p) (h6 : a 0 ≠ 6) : NB (addA a p) := by
  obtain ⟨h1, h2, h3, h4, h5⟩ := ha
  have h0 := h1.1
  obtain ⟨m1, m2⟩ := add_md (p := p) h1 (by omega)
  exact ⟨add_mp h1 (by rw [kAdd_y h, if_neg h6]), m1.ml h2, add_MD h1 h3 h, by rw [m2 _ (by omega)]; exact h4, by rw [m2 _ (by omega)]; exact h5⟩
theorem sqR_NB {a : Int → Int} (ha : NB a) {s c : Int} {f : Int → Int} (hs : 0 ≤ s ∧ s ≤ 3) (hc : 0 ≤ c ∧ c ≤ 32) (hf : ∀ k : Int, 0 ≤ k → k < c → -9999 ≤ f k ∧ f k ≤ 9999) : NB (sqR a s c f) := by
  obtain ⟨h1, h2, h3, h4, h5⟩ := ha
  have hh := sqR_hi (a := a) (f := f) hs hc
  refine ⟨hh.mp h1, ⟨fun z z0 z1 => ?_, fun z k z0 z1 k0 k1 => ?_⟩, hh.md h1.1 h3, by rw [hh.2 _ (by omega)]; exact h4, by rw [hh.2 _ (by omega)]; exact h5⟩
  · by_cases e : z = s
    · subst e
      unfold sqR
      rw [upI_eq]
      exact hc
    · rw [(sqR_o hs hc z z0 z1 e).1]
      exact h2.1 z z0 z1
  · by_cases e : z = s
    · subst e
      by_cases e2 : k < c
      · rw [sqR_in hs ⟨k0, e2⟩]
        exact hf k k0 e2
      · unfold sqR
        rw [upI_ne (by omega), mix_out (by omega)]
        exact h2.2 z k z0 z1 k0 k1
    · rw [(sqR_o hs hc z z0 z1 e).2 k k0 k1]
      exact h2.2 z k z0 z1 k0 k1
section SPECT
variable {B : Int → Int} {n : Int} {a : Int → Int}
theorem sem_ok (hB : BOk B n) {p : Int} (h0 : 0 ≤ p) (h1 : p ≤ n) : (p ≤ (semB B p a).2.1 ∧ (semB B p a).2.1 ≤ n) ∧ (-4 ≤ (semB B p a).1 ∧ (semB B p a).1 ≤ 0) ∧ ((semB B p a).1 = 0 → p < (semB B p a).2.1 ∧ B (semB B p a).2.1 ≠ 32 ∧ (semB B p a).2.2 = a) := by
  have hk := sk_ok hB h0 h1
  unfold semB
  by_cases c : B (sk B p) = 59
  · rw [if_pos c]
    have hlt : sk B p < n := by
      rcases Int.lt_or_le (sk B p) n with z | z
      · exact z
      · have := hB.2.2 _ z
        omega
    have hk2 := sk_ok hB (p := sk B p + 1) (by omega) (by omega)
    exact ⟨⟨by show p ≤ sk B _; omega, hk2.2.2⟩, ⟨(by decide : (-4 : Int) ≤ 0), (by decide : (0 : Int) ≤ 0)⟩, fun _ => ⟨by show p < sk B _; omega, hk2.1, rfl⟩⟩
  · rw [if_neg c]
    exact ⟨⟨hk.2.1, hk.2.2⟩, ⟨(by decide : (-4 : Int) ≤ -2), (by decide : (-2 : Int) ≤ 0)⟩, fun z => absurd (show (-2 : Int) = 0 from z) (by decide)⟩
theorem wdB_P (hB : BOk B n) {p : Int} (h : wdB B chP p) : p + 5 ≤ n := by
  have h4 : B (p + 4) = 101 := h.1 4 (by decide)
  rcases Int.lt_or_le (p + 4) n with z | z
  · omega
  · have := hB.2.2 _ z
    omega
theorem wdB_S (hB : BOk B n) {p : Int} (h : wdB B chS p) : p + 8 ≤ n := by
  have h4 : B (p + 7) = 101 := h.1 7 (by decide)
  rcases Int.lt_or_le (p + 7) n with z | z
  · omega
  · have := hB.2.2 _ z
    omega
theorem prm_ok (hB : BOk B n) (ha : NB a) {p : Int} (h0 : 0 ≤ p) (h1 : p + 5 ≤ n) : (p ≤ (prmB B p a).2.1 ∧ (prmB B p a).2.1 ≤ n) ∧ (-4 ≤ (prmB B p a).1 ∧ (prmB B p a).1 ≤ 0) ∧ ((prmB B p a).1 = 0 → a 0 ≠ 6 ∧ (prmB B p a).2.2 0 = a 0 + 1 ∧ p < (prmB B p a).2.1 ∧ B (prmB B p a).2.1 ≠ 32 ∧ NB (prmB B p a).2.2) := by
  have hq := sk_ok hB (p := p + 5) (by omega) h1
  have hd := dgE_ok hB (p := sk B (p + 5)) (by omega) hq.2.2
  unfold prmB
  by_cases c6 : a 0 = 6
  · rw [if_pos c6]
    exact ⟨⟨Int.le_refl _, by show p ≤ n; omega⟩, ⟨(by decide : (-4 : Int) ≤ -4), (by decide : (-4 : Int) ≤ 0)⟩, fun z => absurd (show (-4 : Int) = 0 from z) (by decide)⟩
  · rw [if_neg c6]
    by_cases c1 : dgB B (sk B (p + 5)) = true
    · rw [if_pos c1]
      by_cases c2 : canAdd a (nmB B 600 (sk B (p + 5)) 0)
      · rw [b2c_t c2, if_pos rfl]
        obtain ⟨s1, s2, s3⟩ := sem_ok (a := addA a (nmB B 600 (sk B (p + 5)) 0)) hB (p := dgE B (sk B (p + 5))) (by omega) hd.2.2
        refine ⟨⟨by omega, s1.2⟩, s2, fun z => ?_⟩
        obtain ⟨s4, s5, s6⟩ := s3 z
        rw [s6]
        exact ⟨c6, by unfold addA; rw [upI_eq], by omega, s5, add_NB ha c2 c6⟩
      · rw [b2c_f c2, if_neg (by decide)]
        exact ⟨⟨by show p ≤ sk B _; omega, hq.2.2⟩, ⟨(by decide : (-4 : Int) ≤ -3), (by decide : (-3 : Int) ≤ 0)⟩, fun z => absurd (show (-3 : Int) = 0 from z) (by decide)⟩
    · rw [if_neg c1]
      exact ⟨⟨by show p ≤ sk B _; omega, hq.2.2⟩, ⟨(by decide : (-4 : Int) ≤ -2), (by decide : (-2 : Int) ≤ 0)⟩, fun z => absurd (show (-2 : Int) = 0 from z) (by decide)⟩
theorem seq_ok (hB : BOk B n) (ha : NB a) {p : Int} (h0 : 0 ≤ p) (h1 : p + 8 ≤ n) : (p ≤ (seqB B p a).2.1 ∧ (seqB B p a).2.1 ≤ n) ∧ (-4 ≤ (seqB B p a).1 ∧ (seqB B p a).1 ≤ 0) ∧ ((seqB B p a).1 = 0 → (seqB B p a).2.2 0 = a 0 ∧ p < (seqB B p a).2.1 ∧ B (seqB B p a).2.1 ≠ 32 ∧ NB (seqB B p a).2.2) := by
  have hq := sk_ok hB (p := p + 8) (by omega) h1
  have hd := dgE_ok hB (p := sk B (p + 8)) (by omega) hq.2.2
  have hk := sk_ok hB (p := dgE B (sk B (p + 8))) (by omega) hd.2.2
  have hnb := nmB_bd hB 600 (sk B (p + 8)) 0 (by omega) (by omega)
  have htr := trs_ok hB 33 (sk B (dgE B (sk B (p + 8)))) 0 (fun _ => 0) (by omega) hk.2.2 hk.1 (by omega) (by omega) (fun k k0 k1 => by omega)
  unfold seqB
  generalize trsB B 33 (sk B (dgE B (sk B (p + 8)))) 0 (fun _ => 0) = R at htr ⊢
  obtain ⟨t1, t2, t3⟩ := htr
  by_cases c1 : dgB B (sk B (p + 8)) = true
  · rw [if_pos c1]
    by_cases c2 : nmB B 600 (sk B (p + 8)) 0 < 4
    · rw [if_pos c2]
      by_cases c3 : R.1 = 0
      · rw [if_pos c3]
        obtain ⟨t4, t5, t6⟩ := t3 c3 (by omega)
        obtain ⟨s1, s2, s3⟩ := sem_ok (a := sqR a (nmB B 600 (sk B (p + 8)) 0) R.2.2.1 R.2.2.2) hB (p := R.2.1) (by omega) t1.2
        refine ⟨⟨by omega, s1.2⟩, s2, fun z => ?_⟩
        obtain ⟨s4, s5, s6⟩ := s3 z
        rw [s6]
        exact ⟨(sqR_hi (by omega) t4).1 0 (by omega) (by omega), by omega, s5, sqR_NB ha (by omega) t4 t6⟩
      · rw [if_neg c3]
        exact ⟨⟨by show p ≤ R.2.1; omega, t1.2⟩, t2, fun z => absurd z c3⟩
    · rw [if_neg c2]
      exact ⟨⟨by show p ≤ sk B _; omega, hq.2.2⟩, ⟨(by decide : (-4 : Int) ≤ -3), (by decide : (-3 : Int) ≤ 0)⟩, fun z => absurd (show (-3 : Int) = 0 from z) (by decide)⟩
  · rw [if_neg c1]
    exact ⟨⟨by show p ≤ sk B _; omega, hq.2.2⟩, ⟨(by decide : (-4 : Int) ≤ -2), (by decide : (-2 : Int) ≤ 0)⟩, fun z => absurd (show (-2 : Int) = 0 from z) (by decide)⟩
theorem stm_p {p : Int} (h : wdB B chP p) : stmB B p a = prmB B p a := by
  unfold stmB
  rw [b2c_t h, if_pos rfl]
theorem stm_s {p : Int} (h : ¬ wdB B chP p) (h2 : wdB B chS p) : stmB B p a = seqB B p a := by
  unfold stmB
  rw [b2c_f h, if_neg (by decide), b2c_t h2, if_pos rfl]
theorem stm_n {p : Int} (h : ¬ wdB B chP p) (h2 : ¬ wdB B chS p) : stmB B p a = (-2, p, a) := by
  unfold stmB
  rw [b2c_f h, if_neg (by decide), b2c_f h2, if_neg (by decide)]
theorem stm_ok (hB : BOk B n) (ha : NB a) {p : Int} (h0 : 0 ≤ p) (h1 : p ≤ n) : (p ≤ (stmB B p a).2.1 ∧ (stmB B p a).2.1 ≤ n) ∧ (-4 ≤ (stmB B p a).1 ∧ (stmB B p a).1 ≤ 0) ∧ ((stmB B p a).1 = 0 → p < (stmB B p a).2.1 ∧ B (stmB B p a).2.1 ≠ 32 ∧ NB (stmB B p a).2.2) := by
  by_cases c1 : wdB B chP p
  · rw [stm_p c1]
    obtain ⟨s1, s2, s3⟩ := prm_ok hB ha h0 (wdB_P hB c1)
    exact ⟨s1, s2, fun z => (s3 z).2.2⟩
  · by_cases c2 : wdB B chS p
    · rw [stm_s c1 c2]
      obtain ⟨s1, s2, s3⟩ := seq_ok hB ha h0 (wdB_S hB c2)
      exact ⟨s1, s2, fun z => (s3 z).2⟩
    · rw [stm_n c1 c2]
      exact ⟨⟨Int.le_refl _, h1⟩, ⟨(by decide : (-4 : Int) ≤ -2), (by decide : (-2 : Int) ≤ 0)⟩, fun z => absurd (show (-2 : Int) = 0 from z) (by decide)⟩
theorem prg_ok (hB : BOk B n) : ∀ (u : Nat) (p : Int) (a : Int → Int), NB a → 0 ≤ p → p ≤ n → (0 ≤ (prgB B n u p a).2.1 ∧ (prgB B n u p a).2.1 ≤ n) ∧ (-4 ≤ (prgB B n u p a).1 ∧ (prgB B n u p a).1 ≤ 0) ∧ ((prgB B n u p a).1 = 0 → NB (prgB B n u p a).2.2)
  | 0, p, a, ha, h0, h1 => ⟨⟨h0, h1⟩, ⟨(by decide : (-4 : Int) ≤ 0), (by decide : (0 : Int) ≤ 0)⟩, fun _ => ha⟩
  | u + 1, p, a, ha, h0, h1 => by
    have e : prgB B n (u + 1) p a = if n ≤ p then (0, p, a) else if (stmB B p a).1 = 0 then prgB B n u (stmB B p a).2.1 (stmB B p a).2.2 else stmB B p a := rfl
    obtain ⟨s1, s2, s3⟩ := stm_ok hB ha h0 h1
    rw [e]
    by_cases c : n ≤ p
    · rw [if_pos c]
      exact ⟨⟨h0, h1⟩, ⟨(by decide : (-4 : Int) ≤ 0), (by decide : (0 : Int) ≤ 0)⟩, fun _ => ha⟩
    · rw [if_neg c]
      by_cases c2 : (stmB B p a).1 = 0
      · rw [if_pos c2]
        obtain ⟨s4, s5, s6⟩ := s3 c2
        exact prg_ok hB u _ _ s6 (by omega) s1.2
      · rw [if_neg c2]
        exact ⟨⟨by omega, s1.2⟩, s2, fun z => absurd z c2⟩
end SPECT
section CLR
variable {g : GT} {S : PS} {mc ms : Nat} {Q : PO → PS → Prop} {kc ks : Nat} {b F : Nat} {a : Int → Int}
/-- the first i counts of a bench's sequences are 0 -/
def ClI (S1 S : PS) (b : Nat) (w : Int → Nat) (i : Int) : Prop := (∀ z : Nat, z < b + 6 ∨ b + 14 ≤ z → S.1 z = S1.1 z) ∧ S.2 = S1.2 ∧ ∀ s : Int, 0 ≤ s → s < 4 → ∃ (c : Int) (f : Int → Int), SeqAt S (b + 6 + 2 * w s) c f ∧ (s < i → c = 0)
theorem l_clear {S1 : PS} {w : Int → Nat} {k : Int} (hb : S1.1 b = some (bO b k)) (w1 : ∀ s : Int, 0 ≤ s → s < 4 → w s < 4) (w2 : ∀ s t : Int, 0 ≤ s → s < 4 → 0 ≤ t → t < 4 → w s = w t → s = t) (w3 : S1.1 (b + 2) = some (cR 5 4 (fun s => some (b + 6 + 2 * w s)))) (hk : ∀ S, ClI S1 S b w 4 → PW g cX0_clear (iX0_clear mc ms) 28 [(0, some (.ref b))] [] S kc ks Q) : ∀ (n i : Nat), i + n = 4 → ∀ S, ClI S1 S b w (i : Int) →
    PW g cX0_clear (iX0_clear mc ms) 7 [(0, some (.ref b)), (1, some (vi (i : Int)))] [] S kc ks Q := by
  intro n
  induction n with
  | zero =>
    intro i hi S hS
    have e : i = 4 := by omega
    subst e
    refine r_iload_n dX0_clear_7 (i := 1) rfl rfl (r_iconst dX0_clear_8 ?_)
    refine r_icmp_ge 28 dX0_clear_9 (by decide) (by omega) (by omega) (fun c1 => ?_) (fun c1 => ?_)
    · exact r_loc [(0, some (.ref b))] ⟨Or.inl rfl, trivial⟩ (hk S hS)
    · omega
  | succ n ih =>
    intro i hi S hS
    obtain ⟨q1, q2, q3⟩ := hS
    obtain ⟨c, f, s1, -⟩ := q3 (i : Int) (by omega) (by omega)
    have hw := w1 (i : Int) (by omega) (by omega)
    have hbS : S.1 b = some (bO b k) := by rw [q1 b (by omega)]; exact hb
    have hbS2 : S.1 (b + 2) = some (cR 5 4 (fun s => some (b + 6 + 2 * w s))) := by rw [q1 _ (by omega)]; exact w3
    refine r_iload_n dX0_clear_7 (i := 1) rfl rfl (r_iconst dX0_clear_8 ?_)
    refine r_icmp_ge 28 dX0_clear_9 (by decide) (by omega) (by omega) (fun c1 => ?_) (fun c1 => ?_)
    · omega
    · refine r_aload_n dX0_clear_12 (i := 0) rfl rfl (r_get dX0_clear_13 fl_X0_19 hbS rfl (r_iload_n dX0_clear_16 (i := 1) rfl rfl (r_aald dX0_clear_17 hbS2 rfl (by omega) (by omega) (by omega) rfl (r_iconst dX0_clear_18 ?_))))
      refine r_put dX0_clear_19 fl_X0_59 s1.1 rfl rfl (Nat.le_of_ble_eq_true rfl) (r_iinc dX0_clear_22 rfl rfl (r_goto 7 dX0_clear_25 (by decide) ?_))
      refine r_ps (S' := ps_seq S (b + 6 + 2 * w (i : Int)) 0 f) (seq_put (c' := 0) s1) ?_
      refine r_loc [(0, some (.ref b)), (1, some (vi ((i + 1 : Nat) : Int)))] ⟨Or.inl rfl, Or.inl rfl, trivial⟩ (ih (i + 1) (by omega) _ ⟨fun z z1 => by rw [ps_seq_ne (by omega) (by omega)]; exact q1 z z1, q2, fun s s0 s4 => ?_⟩)
      by_cases e : s = (i : Int)
      · subst e
        exact ⟨0, f, SeqAt.seq, fun _ => rfl⟩
      · have hne : w s ≠ w (i : Int) := fun z => e (w2 s _ s0 s4 (by omega) (by omega) z)
        obtain ⟨c', f', ⟨t1, t2⟩, t3⟩ := q3 s s0 s4
        exact ⟨c', f', ⟨by rw [ps_seq_ne (by omega) (by omega)]; exact t1, by rw [ps_seq_ne (by omega) (by omega)]; exact t2⟩, fun z => t3 (by omega)⟩
theorem c_X0_clear (hb : BnAt S b F a) (hF : b + 14 ≤ F) : PC g yX0_clear cX0_clear (iX0_clear mc ms) [.ref b] S (fun o S' => o = .inl none ∧ FrB b S S' ∧ BnAt S' b F (fun _ => 0)) := by
  obtain ⟨⟨h1, rr, h2, h3, -⟩, ⟨w, w1, w2, w3, w4⟩, fc, c, kd, st, ln, md, vf, pf, p1, p2, p3, p4, -, -⟩ := hb
  refine PC_of pnX0 rfl rfl rfl (Nat.le_of_ble_eq_true rfl) ?_
  refine r_aload_n dX0_clear_0 (i := 0) rfl rfl (r_iconst dX0_clear_1 (r_put dX0_clear_2 fl_X0_36 h1 rfl rfl (Nat.le_of_ble_eq_true rfl) (r_iconst dX0_clear_5 (r_istore_n dX0_clear_6 (i := 1) rfl rfl (Nat.le_of_ble_eq_true rfl) ?_))))
  have hE : ∀ z : Nat, z ≠ b → (ps_put S b (bO b 0)).1 z = S.1 z := fun z z1 => ps_ne z1 rfl
  refine r_loc [(0, some (.ref b)), (1, some (vi ((0 : Nat) : Int)))] ⟨Or.inl rfl, Or.inl rfl, trivial⟩ (l_clear (S1 := ps_put S b (bO b 0)) (w := w) (k := 0) ps_same w1 w2 (by rw [hE _ (by omega)]; exact w3) (fun S2 hS2 => ?_) 4 0 (by omega) _ ⟨fun _ _ => rfl, rfl, fun s s0 s1 => ?_⟩)
  · obtain ⟨q1, q2, q3⟩ := hS2
    have e0 : S2.1 b = some (bO b 0) := by rw [q1 b (by omega)]; exact ps_same
    have eE : ∀ z : Nat, z ≠ b → z < b + 6 ∨ b + 14 ≤ z → S2.1 z = S.1 z := fun z z1 z2 => by rw [q1 z z2]; exact hE z z1
    have e3 : S2.1 (b + 3) = some (pO b fc c kd st ln md) := by rw [eE _ (by omega) (by omega)]; exact p1
    refine r_aload_n dX0_clear_28 (i := 0) rfl rfl (r_get dX0_clear_29 fl_X0_26 e0 rfl (c_vn dX0_clear_32 (c_X6_clear e3) rfl rfl mq_X6_clear ml_X0_62 ⟨Nat.le_of_ble_eq_true rfl, Nat.le_of_ble_eq_true rfl⟩ e3 rfl rfl rfl (Nat.le_of_ble_eq_true rfl) (r_vret dX0_clear_35 rfl ?_)))
    have eE2 : ∀ z : Nat, z ≠ b → z ≠ b + 3 → z < b + 6 ∨ b + 14 ≤ z → (ps_put S2 (b + 3) (pO b fc 0 kd st ln md)).1 z = S.1 z := fun z z1 z2 z3 => by rw [← eE z z1 z3]; exact ps_ne z2 rfl
    have hX : Ext F S (ps_put S2 (b + 3) (pO b fc 0 kd st ln md)) := fun z hz c0 hc => by
      rw [eE2 z (by omega) (by omega) (by omega)]
      exact hc
    refine ⟨rfl, ⟨fun z z1 => eE2 z (by omega) (by omega) (by omega), q2⟩, ⟨ps_ne (by omega) e0, rr, by rw [eE2 _ (by omega) (by omega) (by omega)]; exact h2, hX.fra h3, fun k k0 k1 => absurd k1 (by show ¬ k < (0 : Int); omega)⟩, ⟨w, w1, w2, by rw [eE2 _ (by omega) (by omega) (by omega)]; exact w3, fun s s0 s1 => ?_⟩, fc, 0, kd, st, ln, md, vf, pf, ps_same, by rw [eE2 _ (by omega) (by omega) (by omega)]; exact p2, by rw [eE2 _ (by omega) (by omega) (by omega)]; exact p3, hX.fra p4, rfl, fun z => absurd (show (0 : Int) = 1 from z) (by decide)⟩
    obtain ⟨c', f', ⟨t1, t2⟩, t3⟩ := q3 s s0 s1
    have ec := t3 s1
    subst ec
    have hw := w1 s s0 s1
    exact ⟨f', ⟨ps_ne (by omega) t1, ps_ne (by omega) t2⟩, fun k k0 k1 => absurd k1 (by show ¬ k < (0 : Int); omega)⟩
  · obtain ⟨f, ⟨t1, t2⟩, -⟩ := w4 s s0 s1
    exact ⟨_, f, ⟨(hE _ (by omega)).trans t1, (hE _ (by omega)).trans t2⟩, fun z => by omega⟩
end CLR

/-! what a text says: the grammar over its bytes, for the class and for the model -/
/-- B k is the byte at k; -1 behind the end n -/
def BOk (B : Int → Int) (n : Int) : Prop := (0 ≤ n ∧ n ≤ 600) ∧ (∀ k, -1 ≤ B k ∧ B k ≤ 255) ∧ ∀ k, n ≤ k → B k = -1
theorem seeI_ok {tx : Int → Int} {n : Int} (hn : 0 ≤ n ∧ n ≤ 600) : BOk (seeI tx n) n := ⟨hn, seeI_bd tx n, fun k hk => by unfold seeI; rw [if_neg (by omega)]⟩
theorem skP_ok {P : Int → Bool} {n : Int} (hP : ∀ k, n ≤ k → P k = false) : ∀ (u : Nat) (p : Int), n ≤ p + u → P (skP P u p) = false ∧ p ≤ skP P u p ∧ (p ≤ n → skP P u p ≤ n)
  | 0, p, h => ⟨hP p (by omega), Int.le_refl _, fun h => h⟩
  | u + 1, p, h => by
    have e : skP P (u + 1) p = if P p = true then skP P u (p + 1) else p := rfl
    rw [e]
    by_cases c : P p = true
    · rw [if_pos c]
      obtain ⟨h1, h2, h3⟩ := skP_ok hP u (p + 1) (by omega)
      refine ⟨h1, by omega, fun hp => h3 ?_⟩
      rcases Int.lt_or_le p n with z | z
      · omega
      · rw [hP p z] at c
        cases c
    · rw [if_neg c]
      exact ⟨by cases hb : P p <;> simp_all, Int.le_refl _, fun h => h⟩
theorem skP_fix {P : Int → Bool} {p : Int} (h : P p = false) : ∀ u : Nat, skP P u p = p
  | 0 => rfl
  | u + 1 => by
    have e : skP P (u + 1) p = if P p = true then skP P u (p + 1) else p := rfl
    rw [e, h, if_neg (by decide)]
/-- more fuel does not matter -/
theorem skP_fuel {P : Int → Bool} {n : Int} (hP : ∀ k, n ≤ k → P k = false) : ∀ (u v : Nat) (p : Int), n ≤ p + u → n ≤ p + v → skP P u p = skP P v p
  | 0, v, p, h1, _ => (skP_fix (hP p (by omega)) v).symm
  | u + 1, 0, p, _, h2 => skP_fix (hP p (by omega)) (u + 1)
  | u + 1, v + 1, p, h1, h2 => by
    have e : ∀ w : Nat, skP P (w + 1) p = if P p = true then skP P w (p + 1) else p := fun _ => rfl
    rw [e, e]
    split
    · exact skP_fuel hP u v (p + 1) (by omega) (by omega)
    · rfl
def spB (B : Int → Int) (k : Int) : Bool := decide (B k = 32)
def dgB (B : Int → Int) (k : Int) : Bool := decide (48 ≤ B k ∧ B k ≤ 57)
def ltB (B : Int → Int) (k : Int) : Bool := decide (97 ≤ B k ∧ B k ≤ 122)
def sk (B : Int → Int) (p : Int) : Int := skP (spB B) 600 p
def dgE (B : Int → Int) (p : Int) : Int := skP (dgB B) 600 p
def ltE (B : Int → Int) (p : Int) : Int := skP (ltB B) 600 p
def nmB (B : Int → Int) : Nat → Int → Int → Int
  | 0, _, acc => acc
  | u + 1, p, acc => if dgB B p = true then nmB B u (p + 1) (min (10 * acc + B p - 48) 1000000) else acc
theorem nmP_B (tx : Int → Int) (n : Int) : ∀ (u : Nat) (p acc : Int), nmP tx n u p acc = nmB (seeI tx n) u p acc
  | 0, _, _ => rfl
  | u + 1, p, acc => by
    show (if isDg tx n p = true then nmP tx n u (p + 1) _ else acc) = (if dgB (seeI tx n) p = true then nmB (seeI tx n) u (p + 1) _ else acc)
    rw [nmP_B tx n u]
    rfl
section BYTES
variable {B : Int → Int} {n : Int}
theorem spB_f (hB : BOk B n) : ∀ k, n ≤ k → spB B k = false := fun k hk => by
  unfold spB
  rw [hB.2.2 k hk]
  decide
theorem dgB_f (hB : BOk B n) : ∀ k, n ≤ k → dgB B k = false := fun k hk => by
  unfold dgB
  rw [hB.2.2 k hk]
  decide
theorem ltB_f (hB : BOk B n) : ∀ k, n ≤ k → ltB B k = false := fun k hk => by
  unfold ltB
  rw [hB.2.2 k hk]
  decide
theorem sk_ok (hB : BOk B n) {p : Int} (h0 : 0 ≤ p) (h1 : p ≤ n) : B (sk B p) ≠ 32 ∧ p ≤ sk B p ∧ sk B p ≤ n := by
  obtain ⟨a1, a2, a3⟩ := skP_ok (spB_f hB) 600 p (by have := hB.1; omega)
  exact ⟨of_decide_eq_false a1, a2, a3 h1⟩
theorem dgE_ok (hB : BOk B n) {p : Int} (h0 : 0 ≤ p) (h1 : p ≤ n) : dgB B (dgE B p) = false ∧ p ≤ dgE B p ∧ dgE B p ≤ n := by
  obtain ⟨a1, a2, a3⟩ := skP_ok (dgB_f hB) 600 p (by have := hB.1; omega)
  exact ⟨a1, a2, a3 h1⟩
theorem ltE_ok (hB : BOk B n) {p : Int} (h0 : 0 ≤ p) (h1 : p ≤ n) : ltB B (ltE B p) = false ∧ p ≤ ltE B p ∧ ltE B p ≤ n := by
  obtain ⟨a1, a2, a3⟩ := skP_ok (ltB_f hB) 600 p (by have := hB.1; omega)
  exact ⟨a1, a2, a3 h1⟩
theorem sk_fix {p : Int} (h : B p ≠ 32) : sk B p = p := skP_fix (decide_eq_false h) 600
theorem dg_lt (hB : BOk B n) {p : Int} (h : dgB B p = true) : p < n := by
  rcases Int.lt_or_le p n with z | z
  · exact z
  · rw [dgB_f hB p z] at h
    cases h
/-- a number's end lies behind its first digit -/
theorem dgE_lt (hB : BOk B n) {p : Int} (h0 : 0 ≤ p) (h : dgB B p = true) : p < dgE B p := by
  have hp := dg_lt hB h
  obtain ⟨a1, a2, -⟩ := dgE_ok hB h0 (by omega)
  rcases Int.lt_or_le p (dgE B p) with z | z
  · exact z
  · rw [show dgE B p = p by omega, h] at a1
    cases a1
theorem nmB_bd (hB : BOk B n) : ∀ (u : Nat) (p acc : Int), 0 ≤ acc → acc ≤ 1000000 → 0 ≤ nmB B u p acc ∧ nmB B u p acc ≤ 1000000
  | 0, _, acc, h0, h1 => ⟨h0, h1⟩
  | u + 1, p, acc, h0, h1 => by
    show 0 ≤ (if dgB B p = true then _ else _) ∧ (if dgB B p = true then _ else _) ≤ 1000000
    by_cases c : dgB B p = true
    · rw [if_pos c]
      have hd := of_decide_eq_true c
      exact nmB_bd hB u (p + 1) _ (by omega) (by omega)
    · rw [if_neg c]
      exact ⟨h0, h1⟩
end BYTES
/-- the word L stands at p -/
def wdB (B : Int → Int) (L : List Int) (p : Int) : Prop := (∀ i : Nat, i < L.length → B (p + (i : Int)) = L.getD i 0) ∧ ¬ (97 ≤ B (p + (L.length : Int)) ∧ B (p + (L.length : Int)) ≤ 122)
/-- a number of a term at q, with its sign, when c terms were read: the error (0: none), where it is or the next place, the term -/
def tmN (B : Int → Int) (sg q c : Int) : Int × Int × Int := if dgB B q = true then (if 9999 < nmB B 600 q 0 then (-3, q, 0) else if c = 32 then (-4, q, 0) else (0, sk B (dgE B q), sg * nmB B 600 q 0)) else (-2, q, 0)
def trmB (B : Int → Int) (p c : Int) : Int × Int × Int := if B p = 45 then (if c = 32 then (-4, p, 0) else tmN B (-1) (sk B (p + 1)) c) else tmN B 1 p c
def trsB (B : Int → Int) : Nat → Int → Int → (Int → Int) → Int × Int × Int × (Int → Int)
  | 0, p, c, f => (0, p, c, f)
  | u + 1, p, c, f => if B p = 45 ∨ (48 ≤ B p ∧ B p ≤ 57) then (if (trmB B p c).1 = 0 then trsB B u (trmB B p c).2.1 (c + 1) (upI f c (trmB B p c).2.2) else ((trmB B p c).1, (trmB B p c).2.1, c, f)) else (0, p, c, f)
/-- a statement's end -/
def semB (B : Int → Int) (p : Int) (a : Int → Int) : Int × Int × (Int → Int) := if B (sk B p) = 59 then (0, sk B (sk B p + 1), a) else (-2, sk B p, a)
/-- the sequence of a slot anew -/
def sqR (a : Int → Int) (s c : Int) (f : Int → Int) : Int → Int := upI (mix (11 + 32 * s) (11 + 32 * s + c) (fun x => f (x - (11 + 32 * s))) a) (7 + s) c
noncomputable def prmB (B : Int → Int) (p : Int) (a : Int → Int) : Int × Int × (Int → Int) :=
  if a 0 = 6 then (-4, p, a)
  else if dgB B (sk B (p + 5)) = true then
    (if b2c (canAdd a (nmB B 600 (sk B (p + 5)) 0)) = 1 then semB B (dgE B (sk B (p + 5))) (addA a (nmB B 600 (sk B (p + 5)) 0)) else (-3, sk B (p + 5), a))
  else (-2, sk B (p + 5), a)
def seqB (B : Int → Int) (p : Int) (a : Int → Int) : Int × Int × (Int → Int) :=
  if dgB B (sk B (p + 8)) = true then
    (if nmB B 600 (sk B (p + 8)) 0 < 4 then
      (if (trsB B 33 (sk B (dgE B (sk B (p + 8)))) 0 (fun _ => 0)).1 = 0 then semB B (trsB B 33 (sk B (dgE B (sk B (p + 8)))) 0 (fun _ => 0)).2.1 (sqR a (nmB B 600 (sk B (p + 8)) 0) (trsB B 33 (sk B (dgE B (sk B (p + 8)))) 0 (fun _ => 0)).2.2.1 (trsB B 33 (sk B (dgE B (sk B (p + 8)))) 0 (fun _ => 0)).2.2.2)
      else ((trsB B 33 (sk B (dgE B (sk B (p + 8)))) 0 (fun _ => 0)).1, (trsB B 33 (sk B (dgE B (sk B (p + 8)))) 0 (fun _ => 0)).2.1, a))
    else (-3, sk B (p + 8), a))
  else (-2, sk B (p + 8), a)
noncomputable def stmB (B : Int → Int) (p : Int) (a : Int → Int) : Int × Int × (Int → Int) := if b2c (wdB B chP p) = 1 then prmB B p a else if b2c (wdB B chS p) = 1 then seqB B p a else (-2, p, a)
noncomputable def prgB (B : Int → Int) (n : Int) : Nat → Int → (Int → Int) → Int × Int × (Int → Int)
  | 0, p, a => (0, p, a)
  | u + 1, p, a => if n ≤ p then (0, p, a) else if (stmB B p a).1 = 0 then prgB B n u (stmB B p a).2.1 (stmB B p a).2.2 else stmB B p a
section GRAM
variable {B : Int → Int} {n : Int}
/-- the places of a term -/
theorem tmN_ok (hB : BOk B n) {q c sg : Int} (hs : sg = 1 ∨ sg = -1) (h0 : 0 ≤ q) (h1 : q ≤ n) (hc : 0 ≤ c ∧ c ≤ 32) : (q ≤ (tmN B sg q c).2.1 ∧ (tmN B sg q c).2.1 ≤ n) ∧ (-4 ≤ (tmN B sg q c).1 ∧ (tmN B sg q c).1 ≤ 0) ∧ ((tmN B sg q c).1 = 0 → c < 32 ∧ q < (tmN B sg q c).2.1 ∧ B (tmN B sg q c).2.1 ≠ 32 ∧ -9999 ≤ (tmN B sg q c).2.2 ∧ (tmN B sg q c).2.2 ≤ 9999) := by
  unfold tmN
  by_cases hd : dgB B q = true
  · rw [if_pos hd]
    have hnb := nmB_bd hB 600 q 0 (by omega) (by omega)
    by_cases c1 : 9999 < nmB B 600 q 0
    · rw [if_pos c1]
      exact ⟨⟨Int.le_refl _, h1⟩, ⟨(by decide : (-4 : Int) ≤ -3), (by decide : (-3 : Int) ≤ 0)⟩, fun z => absurd (show (-3 : Int) = 0 from z) (by decide)⟩
    · rw [if_neg c1]
      by_cases c2 : c = 32
      · rw [if_pos c2]
        exact ⟨⟨Int.le_refl _, h1⟩, ⟨(by decide : (-4 : Int) ≤ -4), (by decide : (-4 : Int) ≤ 0)⟩, fun z => absurd (show (-4 : Int) = 0 from z) (by decide)⟩
      · rw [if_neg c2]
        have h2 := dgE_lt hB h0 hd
        have h3 := dgE_ok hB h0 h1
        have h4 := sk_ok hB (p := dgE B q) (by omega) (by omega)
        refine ⟨⟨by show q ≤ sk B _; omega, h4.2.2⟩, ⟨(by decide : (-4 : Int) ≤ 0), (by decide : (0 : Int) ≤ 0)⟩, fun _ => ⟨by omega, by show q < sk B _; omega, h4.1, ?_, ?_⟩⟩
        · show -9999 ≤ sg * nmB B 600 q 0
          rcases hs with e | e <;> subst e <;> omega
        · show sg * nmB B 600 q 0 ≤ 9999
          rcases hs with e | e <;> subst e <;> omega
  · rw [if_neg hd]
    exact ⟨⟨Int.le_refl _, h1⟩, ⟨(by decide : (-4 : Int) ≤ -2), (by decide : (-2 : Int) ≤ 0)⟩, fun z => absurd (show (-2 : Int) = 0 from z) (by decide)⟩
theorem trm_ok (hB : BOk B n) {p c : Int} (h0 : 0 ≤ p) (h1 : p < n) (hc : 0 ≤ c ∧ c ≤ 32) : (p ≤ (trmB B p c).2.1 ∧ (trmB B p c).2.1 ≤ n) ∧ (-4 ≤ (trmB B p c).1 ∧ (trmB B p c).1 ≤ 0) ∧ ((trmB B p c).1 = 0 → c < 32 ∧ p < (trmB B p c).2.1 ∧ B (trmB B p c).2.1 ≠ 32 ∧ -9999 ≤ (trmB B p c).2.2 ∧ (trmB B p c).2.2 ≤ 9999) := by
  unfold trmB
  by_cases c1 : B p = 45
  · rw [if_pos c1]
    have hq := sk_ok hB (p := p + 1) (by omega) (by omega)
    by_cases c2 : c = 32
    · rw [if_pos c2]
      exact ⟨⟨Int.le_refl _, by show p ≤ n; omega⟩, ⟨(by decide : (-4 : Int) ≤ -4), (by decide : (-4 : Int) ≤ 0)⟩, fun z => absurd (show (-4 : Int) = 0 from z) (by decide)⟩
    · rw [if_neg c2]
      obtain ⟨t1, t2, t3⟩ := tmN_ok hB (sg := -1) (Or.inr rfl) (q := sk B (p + 1)) (by omega) hq.2.2 hc
      exact ⟨⟨by omega, t1.2⟩, t2, fun z => by obtain ⟨t4, t5, t6⟩ := t3 z; exact ⟨t4, by omega, t6⟩⟩
  · rw [if_neg c1]
    exact tmN_ok hB (sg := 1) (Or.inl rfl) h0 (by omega) hc
theorem trs_ok (hB : BOk B n) : ∀ (u : Nat) (p c : Int) (f : Int → Int), 0 ≤ p → p ≤ n → B p ≠ 32 → 0 ≤ c → c + u = 33 → (∀ k : Int, 0 ≤ k → k < c → -9999 ≤ f k ∧ f k ≤ 9999) → (p ≤ (trsB B u p c f).2.1 ∧ (trsB B u p c f).2.1 ≤ n) ∧ (-4 ≤ (trsB B u p c f).1 ∧ (trsB B u p c f).1 ≤ 0) ∧ ((trsB B u p c f).1 = 0 → c ≤ 32 → (0 ≤ (trsB B u p c f).2.2.1 ∧ (trsB B u p c f).2.2.1 ≤ 32) ∧ B (trsB B u p c f).2.1 ≠ 32 ∧ ∀ k : Int, 0 ≤ k → k < (trsB B u p c f).2.2.1 → -9999 ≤ (trsB B u p c f).2.2.2 k ∧ (trsB B u p c f).2.2.2 k ≤ 9999)
  | 0, p, c, f, h0, h1, hs, hc, hu, hf => ⟨⟨Int.le_refl _, h1⟩, by show (-4 : Int) ≤ 0 ∧ (0 : Int) ≤ 0; omega, fun _ hc2 => by omega⟩
  | u + 1, p, c, f, h0, h1, hs, hc, hu, hf => by
    have e : trsB B (u + 1) p c f = if B p = 45 ∨ (48 ≤ B p ∧ B p ≤ 57) then (if (trmB B p c).1 = 0 then trsB B u (trmB B p c).2.1 (c + 1) (upI f c (trmB B p c).2.2) else ((trmB B p c).1, (trmB B p c).2.1, c, f)) else (0, p, c, f) := rfl
    rw [e]
    by_cases c1 : B p = 45 ∨ (48 ≤ B p ∧ B p ≤ 57)
    · have hpn : p < n := by
        rcases Int.lt_or_le p n with z | z
        · exact z
        · have := hB.2.2 p z
          omega
      obtain ⟨t1, t2, t3⟩ := trm_ok hB h0 hpn (c := c) (by omega)
      rw [if_pos c1]
      by_cases c2 : (trmB B p c).1 = 0
      · rw [if_pos c2]
        obtain ⟨t4, t5, t6, t7, t8⟩ := t3 c2
        obtain ⟨r1, r2, r3⟩ := trs_ok hB u (trmB B p c).2.1 (c + 1) (upI f c (trmB B p c).2.2) (by omega) t1.2 t6 (by omega) (by omega) (fun k k0 k1 => by
          by_cases ek : k = c
          · subst ek
            rw [upI_eq]
            exact ⟨t7, t8⟩
          · rw [upI_ne ek]
            exact hf k k0 (by omega))
        exact ⟨⟨by omega, r1.2⟩, r2, fun z _ => r3 z (by omega)⟩
      · rw [if_neg c2]
        exact ⟨t1, t2, fun z _ => absurd z c2⟩
    · rw [if_neg c1]
      exact ⟨⟨Int.le_refl _, h1⟩, by show (-4 : Int) ≤ 0 ∧ (0 : Int) ≤ 0; omega, fun _ hc2 => ⟨⟨hc, hc2⟩, hs, hf⟩⟩
end GRAM

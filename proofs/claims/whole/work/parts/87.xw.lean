/-! the whole class as it lies; what a call leaves; rows of numbers that agree -/
def Agr (a a' : Int → Int) : Prop := ∀ i : Int, 0 ≤ i → i < 215 → a' i = a i
theorem Agr.bp {a a' : Int → Int} (h : Agr a a') : ∀ n : Nat, n ≤ 64 → bpS a' n = bpS a n
  | 0, _ => rfl
  | n + 1, hn => by
    show bpS a' n * a' (145 + (n : Int)) = bpS a n * a (145 + (n : Int))
    rw [h.bp n (by omega), h _ (by omega) (by omega)]
theorem Agr.mp {a a' : Int → Int} (h : Agr a a') (hp : MP a) : MP a' := by
  have e0 := h 0 (by omega) (by omega)
  refine ⟨by rw [e0]; exact hp.1, fun k k0 k1 => ?_⟩
  rw [e0] at k1
  have := hp.1
  rw [h (1 + k) (by omega) (by omega)]
  exact hp.2 k k0 k1
theorem Agr.ml {a a' : Int → Int} (h : Agr a a') (hl : ML a) : ML a' := by
  refine ⟨fun s s1 s2 => ?_, fun s k s1 s2 k1 k2 => ?_⟩
  · rw [h (7 + s) (by omega) (by omega)]
    exact hl.1 s s1 s2
  · rw [h (11 + 32 * s + k) (by omega) (by omega)]
    exact hl.2 s k s1 s2 k1 k2
theorem Agr.mv {a a' : Int → Int} (h : Agr a a') (hv : MV a) : MV a' := by
  obtain ⟨h1, h2, h3, h4⟩ := hv
  unfold MV
  rw [h 139 (by omega) (by omega), h 143 (by omega) (by omega), h 140 (by omega) (by omega), h 141 (by omega) (by omega), h 144 (by omega) (by omega), h 142 (by omega) (by omega)]
  refine ⟨h1, h2, h3, fun z => ?_⟩
  obtain ⟨e1, e2, e3, e4, e5, e6, e7, e8⟩ := h4 z
  rw [h.bp (a 144).toNat (by omega)]
  refine ⟨e1, e2, e3, e4, e5, fun i i0 i1 => ?_, e7, fun k k0 k1 => ?_⟩
  · rw [h (145 + i) (by omega) (by omega)]
    exact e6 i i0 i1
  · rw [h (151 + k) (by omega) (by omega)]
    exact e8 k k0 k1
theorem Agr.bn {a a' : Int → Int} (h : Agr a a') {S : PS} {b F : Nat} (hp : MP a) (hl : ML a) (hv : MV a) (hb : BnAt S b F a) : BnAt S b F a' := by
  obtain ⟨⟨h1, r, h2, h3, h4⟩, ⟨w, w1, w2, w3, w4⟩, ⟨fc, c, kd, st, ln, md, vf, pf, p1, p2, p3, p4, p5, p6⟩⟩ := hb
  have e0 := h 0 (by omega) (by omega)
  have hp0 := hp.1
  have hv2 := hv.2.1
  refine ⟨⟨by rw [e0]; exact h1, r, h2, h3, fun k k0 k1 => ?_⟩, ⟨w, w1, w2, w3, fun s s0 s1 => ?_⟩, fc, c, kd, st, ln, md, vf, pf, p1, p2, p3, p4, by rw [h 143 (by omega) (by omega)]; exact p5, fun h139 => ?_⟩
  · rw [e0] at k1
    unfold pN
    rw [h (1 + k) (by omega) (by omega)]
    exact h4 k k0 k1
  · have hls := hl.1 s s0 s1
    rw [h (7 + s) (by omega) (by omega)]
    obtain ⟨f, g1, g2⟩ := w4 s s0 s1
    refine ⟨f, g1, fun k k0 k1 => ?_⟩
    rw [h (11 + 32 * s + k) (by omega) (by omega)]
    exact g2 k k0 k1
  · rw [h 139 (by omega) (by omega)] at h139
    obtain ⟨e1, e2, e3, e4, e5, e6, e7⟩ := p6 h139
    obtain ⟨g0, g1, g2, g3, g4, g5, g6, g7⟩ := hv.2.2.2 h139
    rw [h 144 (by omega) (by omega), h 140 (by omega) (by omega), h 142 (by omega) (by omega), h 141 (by omega) (by omega), h.bp (a 144).toNat (by omega)]
    refine ⟨e1, e2, e3, e4, e5, fun k k0 k1 => ?_, fun i i0 i1 => ?_⟩
    · rw [h (151 + k) (by omega) (by omega)]
      exact e6 k k0 k1
    · rw [h (145 + i) (by omega) (by omega)]
      exact e7 i i0 i1
/-- the logarithms', multiplier's and plans' own cells -/
def LgAt (S : PS) (q : Nat) : Prop := S.1 q = some (cO 3 [.ref (q + 1), .ref (q + 2)]) ∧ (∃ f, S.1 (q + 1) = some (cI 1024 f)) ∧ ∃ f, S.1 (q + 2) = some (cI 1024 f)
def MuAt (S : PS) (q : Nat) : Prop := S.1 q = some (cO 4 [.ref (q + 1)]) ∧ ∃ f, S.1 (q + 1) = some (cI 64 f)
def PlAt (S : PS) (q : Nat) : Prop := (∃ s l t : Int, S.1 q = some (cO 5 [.ref (q + 1), .ref (q + 2), vi s, vi l, vi t])) ∧ (∃ f, S.1 (q + 1) = some (cI 6 f)) ∧ ∃ f : Int → Int, S.1 (q + 2) = some (cZ 64 f)
/-- the reader: its own numbers, the text, its bench -/
def RdAt (S : PS) (q F : Nat) (fd ea : Int) (tx : Int → Int) : Prop := (∃ en at' er : Int, S.1 q = some (rO q fd en at' er ea)) ∧ S.1 (q + 1) = some (cB 600 tx) ∧ ∃ af, BnAt S (q + 2) F af
/-- the class's object x with all that is its own: x to x + 152 -/
def CX (S : PS) (x F : Nat) (a : Int → Int) (H : Int → Int → Int) (nx ct fd ea : Int) (tx : Int → Int) : Prop :=
  x + 153 ≤ F ∧ S.1 x = some (xO x) ∧ BnAt S (x + 1) F a ∧ (HiAt S (x + 15) F nx ct H ∧ (0 ≤ nx ∧ nx < 8) ∧ 0 ≤ ct ∧ ct ≤ 8) ∧ RdAt S (x + 129) F fd ea tx ∧ LgAt S (x + 145) ∧ MuAt S (x + 148) ∧ PlAt S (x + 150)
theorem HiAt.frame {S S' : PS} {h F : Nat} {nx ct : Int} {H : Int → Int → Int} (hh : HiAt S h F nx ct H) (he : Ext F S S') (hs : ∀ z : Nat, h ≤ z → z < h + 114 → S'.1 z = S.1 z) : HiAt S' h F nx ct H := by
  obtain ⟨h1, h2, h3⟩ := hh
  exact ⟨by rw [hs h (by omega) (by omega)]; exact h1, by rw [hs (h + 1) (by omega) (by omega)]; exact h2, fun i hi => (h3 i hi).frame he (fun z z1 z2 => hs z (by omega) (by omega))⟩
theorem RdAt.frame {S S' : PS} {q F : Nat} {fd ea : Int} {tx : Int → Int} (hr : RdAt S q F fd ea tx) (he : Ext F S S') (hs : ∀ z : Nat, q ≤ z → z < q + 16 → S'.1 z = S.1 z) : RdAt S' q F fd ea tx := by
  obtain ⟨⟨en, at', er, h1⟩, h2, af, h3⟩ := hr
  exact ⟨⟨en, at', er, by rw [hs q (by omega) (by omega)]; exact h1⟩, by rw [hs (q + 1) (by omega) (by omega)]; exact h2, af, h3.frame he (fun z z1 z2 => hs z (by omega) (by omega))⟩
theorem LgAt.frame {S S' : PS} {q : Nat} (h : LgAt S q) (hs : ∀ z : Nat, q ≤ z → z < q + 3 → S'.1 z = S.1 z) : LgAt S' q := by
  unfold LgAt
  rw [hs q (by omega) (by omega), hs (q + 1) (by omega) (by omega), hs (q + 2) (by omega) (by omega)]
  exact h
theorem MuAt.frame {S S' : PS} {q : Nat} (h : MuAt S q) (hs : ∀ z : Nat, q ≤ z → z < q + 2 → S'.1 z = S.1 z) : MuAt S' q := by
  unfold MuAt
  rw [hs q (by omega) (by omega), hs (q + 1) (by omega) (by omega)]
  exact h
theorem PlAt.frame {S S' : PS} {q : Nat} (h : PlAt S q) (hs : ∀ z : Nat, q ≤ z → z < q + 3 → S'.1 z = S.1 z) : PlAt S' q := by
  unfold PlAt
  rw [hs q (by omega) (by omega), hs (q + 1) (by omega) (by omega), hs (q + 2) (by omega) (by omega)]
  exact h
theorem CX.frame {S S' : PS} {x F : Nat} {a : Int → Int} {H : Int → Int → Int} {nx ct fd ea : Int} {tx : Int → Int} (h : CX S x F a H nx ct fd ea tx) (he : Ext F S S') (hs : ∀ z : Nat, x ≤ z → z < x + 153 → S'.1 z = S.1 z) : CX S' x F a H nx ct fd ea tx := by
  obtain ⟨h0, h1, h2, ⟨h3, h4⟩, h5, h6, h7, h8⟩ := h
  exact ⟨h0, by rw [hs x (by omega) (by omega)]; exact h1, h2.frame he (fun z z1 z2 => hs z (by omega) (by omega)), ⟨h3.frame he (fun z z1 z2 => hs z (by omega) (by omega)), h4⟩, h5.frame he (fun z z1 z2 => hs z (by omega) (by omega)), h6.frame (fun z z1 z2 => hs z (by omega) (by omega)), h7.frame (fun z z1 z2 => hs z (by omega) (by omega)), h8.frame (fun z z1 z2 => hs z (by omega) (by omega))⟩
/-- behind history.keep -/
theorem CX.keep {S S' : PS} {x F : Nat} {a : Int → Int} {H H' : Int → Int → Int} {nx ct nx' ct' fd ea : Int} {tx : Int → Int} (h : CX S x F a H nx ct fd ea tx) (hf : FrX (x + 15) (x + 129) S S') (hh : HiAt S' (x + 15) F nx' ct' H') (hn : 0 ≤ nx' ∧ nx' < 8) (hc : 0 ≤ ct' ∧ ct' ≤ 8) : CX S' x F a H' nx' ct' fd ea tx := by
  obtain ⟨h0, h1, h2, -, h5, h6, h7, h8⟩ := h
  have he : Ext F S S' := hf.ext (by omega)
  have hs : ∀ z : Nat, z < x + 15 ∨ x + 129 ≤ z → S'.1 z = S.1 z := hf.1
  exact ⟨h0, by rw [hs x (by omega)]; exact h1, h2.frame he (fun z z1 z2 => hs z (by omega)), ⟨hh, hn, hc⟩, h5.frame he (fun z z1 z2 => hs z (by omega)), h6.frame (fun z z1 z2 => hs z (by omega)), h7.frame (fun z z1 z2 => hs z (by omega)), h8.frame (fun z z1 z2 => hs z (by omega))⟩
/-- the bench anew: its cells are x + 1 to x + 14; what lies behind stays -/
theorem CX.bench {S S' : PS} {x F : Nat} {a a' : Int → Int} {H : Int → Int → Int} {nx ct fd ea : Int} {tx : Int → Int} (h : CX S x F a H nx ct fd ea tx) (he : Ext F S S') (hs : ∀ z : Nat, x ≤ z → z < x + 153 → z < x + 1 ∨ x + 15 ≤ z → S'.1 z = S.1 z) (hb : BnAt S' (x + 1) F a') : CX S' x F a' H nx ct fd ea tx := by
  obtain ⟨h0, h1, h2, ⟨h3, h4⟩, h5, h6, h7, h8⟩ := h
  exact ⟨h0, by rw [hs x (by omega) (by omega) (by omega)]; exact h1, hb, ⟨h3.frame he (fun z z1 z2 => hs z (by omega) (by omega) (by omega)), h4⟩, h5.frame he (fun z z1 z2 => hs z (by omega) (by omega) (by omega)), h6.frame (fun z z1 z2 => hs z (by omega) (by omega) (by omega)), h7.frame (fun z z1 z2 => hs z (by omega) (by omega) (by omega)), h8.frame (fun z z1 z2 => hs z (by omega) (by omega) (by omega))⟩
/-- what is not the class's own stays -/
def FrC (x : Nat) (S S' : PS) : Prop := (∀ (z : Nat) (c : PE), z < x ∨ x + 153 ≤ z → S.1 z = some c → S'.1 z = some c) ∧ S.2 ≤ S'.2
theorem FrC.refl {x : Nat} {S : PS} : FrC x S S := ⟨fun _ _ _ h => h, Nat.le_refl _⟩
theorem FrC.trans {x : Nat} {S S1 S2 : PS} (h : FrC x S S1) (h2 : FrC x S1 S2) : FrC x S S2 := ⟨fun z c hz hc => h2.1 z c hz (h.1 z c hz hc), Nat.le_trans h.2 h2.2⟩
theorem FrC.ofX {x lo hi : Nat} {S S' : PS} (h : FrX lo hi S S') (h1 : x ≤ lo) (h2 : hi ≤ x + 153) : FrC x S S' := ⟨fun z c hz hc => by rw [h.1 z (by omega)]; exact hc, by rw [h.2]; exact Nat.le_refl _⟩
theorem FrC.ofB {x b : Nat} {S S' : PS} (h : FrB b S S') (h1 : x ≤ b) (h2 : b + 14 ≤ x + 153) : FrC x S S' := ⟨fun z c hz hc => by rw [h.1 z (by omega)]; exact hc, by rw [h.2]; exact Nat.le_refl _⟩
/-- a change of the state, as the face's calls leave it -/
def Chg (x F : Nat) (S : PS) (a' a : Int → Int) (H : Int → Int → Int) (nx ct fd ea : Int) (tx : Int → Int) : PS → Prop := fun S' => CX S' x F a' (upH H nx a) ((nx + 1) % 8) (min (ct + 1) 8) fd ea tx ∧ FrC x S S'
/-- the sequences with the change-over w -/
def SqW (S : PS) (b : Nat) (a : Int → Int) (w : Int → Nat) : Prop := (∀ s : Int, 0 ≤ s → s < 4 → w s < 4) ∧ (∀ s t : Int, 0 ≤ s → s < 4 → 0 ≤ t → t < 4 → w s = w t → s = t) ∧ S.1 (b + 2) = some (cR 5 4 (fun s => some (b + 6 + 2 * w s))) ∧ ∀ s : Int, 0 ≤ s → s < 4 → ∃ f : Int → Int, SeqAt S (b + 6 + 2 * w s) (a (7 + s)) f ∧ ∀ k : Int, 0 ≤ k → k < a (7 + s) → f k = a (11 + 32 * s + k)
theorem SqW.frame {S S' : PS} {b : Nat} {a : Int → Int} {w : Int → Nat} (h : SqW S b a w) (hs : ∀ z : Nat, b ≤ z → z < b + 14 → S'.1 z = S.1 z) : SqW S' b a w := by
  obtain ⟨w1, w2, w3, w4⟩ := h
  refine ⟨w1, w2, by rw [hs _ (by omega) (by omega)]; exact w3, fun s s0 s1 => ?_⟩
  have := w1 s s0 s1
  obtain ⟨f, ⟨g1, g2⟩, g3⟩ := w4 s s0 s1
  exact ⟨f, ⟨by rw [hs _ (by omega) (by omega)]; exact g1, by rw [hs _ (by omega) (by omega)]; exact g2⟩, g3⟩
/-- one sequence anew -/
theorem bn_seq {S : PS} {b F : Nat} {a a' : Int → Int} {w : Int → Nat} {s c : Int} {f : Int → Int} (hb : BnAt S b F a) (hq : SqW S b a w) (hF : b + 14 ≤ F) (hp : 0 ≤ a 0 ∧ a 0 ≤ 6) (hl : ML a) (hs : 0 ≤ s ∧ s ≤ 3) (hh : Hi a a') (h7 : a' (7 + s) = c) (hf : ∀ k : Int, 0 ≤ k → k < c → f k = a' (11 + 32 * s + k)) (ho : ∀ z : Int, 0 ≤ z → z < 4 → z ≠ s → a' (7 + z) = a (7 + z) ∧ ∀ k : Int, 0 ≤ k → k < 32 → a' (11 + 32 * z + k) = a (11 + 32 * z + k)) : BnAt (ps_seq S (b + 6 + 2 * w s) c f) b F a' ∧ FrB b S (ps_seq S (b + 6 + 2 * w s) c f) := by
  obtain ⟨w1, w2, w3, w4⟩ := hq
  have hws := w1 s hs.1 (by omega)
  have hE : ∀ z : Nat, z ≠ b + 6 + 2 * w s → z ≠ b + 6 + 2 * w s + 1 → (ps_seq S (b + 6 + 2 * w s) c f).1 z = S.1 z := fun z z1 z2 => ps_seq_ne z1 z2
  have hX : Ext F S (ps_seq S (b + 6 + 2 * w s) c f) := fun z hz c0 hc => by
    rw [hE z (by omega) (by omega)]
    exact hc
  refine ⟨⟨hh.pm hp ?_, ⟨w, w1, w2, ?_, fun z z0 z1 => ?_⟩, hh.pd ?_⟩, ⟨fun z hz => hE z (by omega) (by omega), ps_seq_sz⟩⟩
  · obtain ⟨g1, r, g2, g3, g4⟩ := hb.1
    refine ⟨by rw [hE _ (by omega) (by omega)]; exact g1, r, by rw [hE _ (by omega) (by omega)]; exact g2, hX.fra g3, fun k k0 k1 => ?_⟩
    obtain ⟨q, q1, q2, q3⟩ := g4 k k0 k1
    exact ⟨q, q1, q2, hX.fld q2 q3⟩
  · rw [hE _ (by omega) (by omega)]
    exact w3
  · by_cases e : z = s
    · subst e
      rw [h7]
      exact ⟨f, SeqAt.seq, hf⟩
    · have hwn : w z ≠ w s := fun y => e (w2 z s z0 z1 hs.1 (by omega) y)
      have hwz := w1 z z0 z1
      obtain ⟨f1, ⟨g1, g2⟩, g3⟩ := w4 z z0 z1
      obtain ⟨o1, o2⟩ := ho z z0 z1 e
      have hlz := hl.1 z z0 z1
      rw [o1]
      refine ⟨f1, ⟨?_, ?_⟩, fun k k0 k1 => ?_⟩
      · rw [hE _ (by omega) (by omega)]
        exact g1
      · rw [hE _ (by omega) (by omega)]
        exact g2
      · rw [o2 k k0 (by omega)]
        exact g3 k k0 k1
  · obtain ⟨fc, c1, kd, st, ln, md, vf, pf, p1, p2, p3, p4, p5, p6⟩ := hb.2.2
    refine ⟨fc, c1, kd, st, ln, md, vf, pf, by rw [hE _ (by omega) (by omega)]; exact p1, by rw [hE _ (by omega) (by omega)]; exact p2, by rw [hE _ (by omega) (by omega)]; exact p3, hX.fra p4, p5, fun h139 => ?_⟩
    obtain ⟨e1, e2, e3, e4, e5, e6, e7⟩ := p6 h139
    refine ⟨e1, e2, e3, e4, e5, e6, fun i i0 i1 => ?_⟩
    obtain ⟨q, q1, q2, q3⟩ := e7 i i0 i1
    exact ⟨q, q1, q2, hX.fld q2 q3⟩

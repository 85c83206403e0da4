/-! the law: what holds between its calls -/
/-- the model's cells at x + 153 .. x + 157, and the long[1] behind them -/
def MJ (S : PS) (x : Nat) (a : Int → Int) (ct th fd ea : Int) (kp bf : Int → Int) : Prop := (∃ sz at' be ki wr wa nu bs bw bt' : Int, S.1 (x + 153) = some (mO (x + 153) ct th fd sz at' be ki wr wa ea nu bs bw bt')) ∧ S.1 (x + 153 + 1) = some (cJ 215 a) ∧ (∃ fr, S.1 (x + 153 + 2) = some (cJ 215 fr)) ∧ S.1 (x + 153 + 3) = some (cJ 1720 kp) ∧ S.1 (x + 153 + 4) = some (cI 600 bf) ∧ ∃ o1, S.1 (x + 158) = some (cJ 1 o1)
/-- the kept rows are the ring's -/
def KP (H : Int → Int → Int) (nx ct : Int) (kp : Int → Int) : Prop := ∀ i : Int, 0 ≤ i → i < ct → IA (H ((nx - ct + i) % 8)) ∧ ∀ j : Int, 0 ≤ j → j < 215 → kp (215 * i + j) = H ((nx - ct + i) % 8) j
/-- the bytes of both sides -/
def BT (fd : Int) (tx bf : Int → Int) : Prop := (∀ i : Int, 0 ≤ i → i < 600 → -128 ≤ tx i ∧ tx i ≤ 127) ∧ ∀ k : Int, 0 ≤ k → k < fd → tx k % 256 = bf k
/-- between the calls -/
def WJ (S : PS) (x : Nat) : Prop := ∃ (a : Int → Int) (H : Int → Int → Int) (nx ct fd ea th : Int) (tx kp bf : Int → Int), CX S x (x + 159) a H nx ct fd ea tx ∧ IA a ∧ (0 ≤ fd ∧ fd ≤ 600) ∧ MJ S x a ct th fd ea kp bf ∧ KP H nx ct kp ∧ BT fd tx bf ∧ x + 159 ≤ S.2
theorem MJ.fr {S S1 : PS} {x : Nat} {a kp bf : Int → Int} {ct th fd ea : Int} (h : MJ S x a ct th fd ea kp bf) (hf : FrC x S S1) : MJ S1 x a ct th fd ea kp bf := by
  obtain ⟨⟨sz, at', be, ki, wr, wa, nu, bs, bw, bt', h1⟩, h2, ⟨fr, h3⟩, h4, h5, o1, h6⟩ := h
  exact ⟨⟨sz, at', be, ki, wr, wa, nu, bs, bw, bt', hf.1 _ _ (by omega) h1⟩, hf.1 _ _ (by omega) h2, ⟨fr, hf.1 _ _ (by omega) h3⟩, hf.1 _ _ (by omega) h4, hf.1 _ _ (by omega) h5, o1, hf.1 _ _ (by omega) h6⟩
theorem CX.mdl {S S' : PS} {x : Nat} {a : Int → Int} {H : Int → Int → Int} {nx ct fd ea : Int} {tx : Int → Int} (h : CX S x (x + 159) a H nx ct fd ea tx) (hs : ∀ z : Nat, z < x + 153 ∨ x + 159 ≤ z → S'.1 z = S.1 z) : CX S' x (x + 159) a H nx ct fd ea tx :=
  h.frame (fun z hz c hc => by rw [hs z (by omega)]; exact hc) (fun z z1 z2 => hs z (by omega))
/-- a throw's heap -/
theorem FrC.thr {x : Nat} {S S1 : PS} (h : S1.1 = S.1) (h2 : S.2 ≤ S1.2) : FrC x S S1 := ⟨fun z c _ hc => by rw [h]; exact hc, h2⟩
theorem kp_up {H : Int → Int → Int} {nx ct : Int} {kp a : Int → Int} (h : KP H nx ct kp) (hn : 0 ≤ nx ∧ nx < 8) (hc : 0 ≤ ct ∧ ct ≤ 8) (ha : IA a) : KP (upH H nx a) ((nx + 1) % 8) (min (ct + 1) 8) (kpN ct a kp) := by
  intro i i0 i1
  by_cases c8 : ct = 8
  · subst c8
    have em : min ((8 : Int) + 1) 8 = 8 := by decide
    rw [em] at i1 ⊢
    by_cases e7 : i = 7
    · subst e7
      have e : ((nx + 1) % 8 - 8 + 7) % 8 = nx := by omega
      rw [e]
      unfold upH
      rw [if_pos rfl]
      refine ⟨ha, fun j j0 j1 => ?_⟩
      unfold kpN
      rw [if_pos rfl, mix_in (by omega)]
      congr 1
      omega
    · have e : ((nx + 1) % 8 - 8 + i) % 8 = (nx - 8 + (i + 1)) % 8 := by omega
      have hne : (nx - 8 + (i + 1)) % 8 ≠ nx := by omega
      obtain ⟨g1, g2⟩ := h (i + 1) (by omega) (by omega)
      rw [e]
      unfold upH
      rw [if_neg hne]
      refine ⟨g1, fun j j0 j1 => ?_⟩
      rw [← g2 j j0 j1]
      unfold kpN
      rw [if_pos rfl, mix_out (by omega), mix_in (by omega)]
      congr 1
      omega
  · have em : min (ct + 1) 8 = ct + 1 := by omega
    rw [em] at i1 ⊢
    have e : ((nx + 1) % 8 - (ct + 1) + i) % 8 = (nx - ct + i) % 8 := by omega
    rw [e]
    by_cases ei : i = ct
    · subst ei
      have e2 : (nx - i + i) % 8 = nx := by omega
      rw [e2]
      unfold upH
      rw [if_pos rfl]
      refine ⟨ha, fun j j0 j1 => ?_⟩
      unfold kpN
      rw [if_neg c8, mix_in (by omega)]
      congr 1
      omega
    · have hne : (nx - ct + i) % 8 ≠ nx := by omega
      obtain ⟨g1, g2⟩ := h i i0 (by omega)
      unfold upH
      rw [if_neg hne]
      refine ⟨g1, fun j j0 j1 => ?_⟩
      rw [← g2 j j0 j1]
      unfold kpN
      rw [if_neg c8, mix_out (by omega)]
theorem kp_dn {H : Int → Int → Int} {nx ct : Int} {kp : Int → Int} (h : KP H nx ct kp) (hn : 0 ≤ nx ∧ nx < 8) (hc : 0 < ct ∧ ct ≤ 8) : KP H ((nx + 7) % 8) (ct - 1) kp := by
  intro i i0 i1
  have e : ((nx + 7) % 8 - (ct - 1) + i) % 8 = (nx - ct + i) % 8 := by omega
  rw [e]
  exact h i i0 (by omega)
/-- the last kept row is the one given back -/
theorem kp_last {H : Int → Int → Int} {nx ct : Int} {kp : Int → Int} (h : KP H nx ct kp) (hn : 0 ≤ nx ∧ nx < 8) (hc : 0 < ct ∧ ct ≤ 8) : IA (H ((nx + 7) % 8)) ∧ ∀ j : Int, 0 ≤ j → j < 215 → kp (215 * (ct - 1) + j) = H ((nx + 7) % 8) j := by
  have g := h (ct - 1) (by omega) (by omega)
  rw [show (nx - ct + (ct - 1)) % 8 = (nx + 7) % 8 by omega] at g
  exact g
/-- both sides see the same bytes -/
theorem BT.see {fd : Int} {tx bf : Int → Int} (h : BT fd tx bf) {n : Int} (hn : n ≤ fd) : seeI bf n = seeI tx n := by
  funext k
  unfold seeI
  split
  · rw [← h.2 k (by omega) (by omega)]
    omega
  · rfl
theorem BT.b255 {fd : Int} {tx bf : Int → Int} (h : BT fd tx bf) (i : Int) (i0 : 0 ≤ i) (i1 : i < fd) : 0 ≤ bf i ∧ bf i ≤ 255 := by
  rw [← h.2 i i0 i1]
  omega
theorem fdT_bt {fd v0 v1 v2 v3 v4 : Int} {tx bf : Int → Int} (h : BT fd tx bf) (hf : 0 ≤ fd ∧ fd ≤ 580) : BT (fd + 20) (fdT fd v0 v1 v2 v3 v4 tx) (mix fd (fd + 20) (fun x => fdB v0 v1 v2 v3 v4 (x - fd)) bf) := by
  refine ⟨fun i i0 i1 => ?_, fun k k0 k1 => ?_⟩
  · unfold fdT
    split
    · have := sbI_bd (fdV v0 v1 v2 v3 v4 (i - fd) / 2 ^ (24 - 8 * ((i - fd) % 4)).toNat)
      omega
    · exact h.1 i i0 i1
  · unfold fdT
    split
    · next hk =>
      rw [mix_in hk, (sbI_bd _).2.2]
      rfl
    · next hk =>
      rw [mix_out (by omega)]
      exact h.2 k k0 (by omega)

/-! the law: the calls that are of no common form: transformSteps, load; the model's feed, undo, load -/
section LAWE
variable {g : GT} {S : PS} {mc ms : Nat} {x : Nat} {a : Int → Int} {H : Int → Int → Int} {nx ct fd ea th : Int} {tx kp bf : Int → Int}
theorem L1_transformSteps {kd s t n : Int} (hC : CX S x (x + 159) a H nx ct fd ea tx) (hI : IA a) (hJ : MJ S x a ct th fd ea kp bf) (hF : x + 159 ≤ S.2) (hk : RI kd) (hs : RI s) (ht : RI t) (hn : RI n) (hm : 1 ≤ mc) (hm2 : 6 ≤ ms) (hk9 : kSteps a kd s t n ≤ 9) : PC g yL_transformSteps cL_transformSteps (iL_transformSteps mc ms) [.ref x, vi kd, vi s, vi t, vi n, .ref (x + 158)] S (CW x (kSteps a kd s t n) (wI (plT a kd s t n).1) a H nx ct fd ea tx a H nx ct fd ea th tx kp bf) := by
  obtain ⟨o1, ho⟩ := hJ.2.2.2.2.2
  refine w_transformSteps (M := 1) (N := 6) (o1 := o1) (c_X9_transformSteps (mc := 1) (ms := 6) hC hI.1 hI.2.1 hk hs ht hn (Nat.le_refl _) (Nat.le_refl _)) hC.2.1 hm hm2 (fun o S1 h => ?_) (fun E S1 h => xs4 (Z := fun i => CW x (kSteps a kd s t n) (wI (plT a kd s t n).1) a H nx ct fd ea tx a H nx ct fd ea th tx kp bf (.inl (some (vi i))) S1) ?_)
  · obtain ⟨p1, p2, p3⟩ := h
    rcases p3 with ⟨k0, e1⟩ | ⟨k0, E, e1, e2⟩
    · cases e1
      refine ⟨_, by rw [wI_vi], wI_ri _, p2.1 _ _ (by omega) ho, by rw [k0], by omega, (hJ.fr p2).out, ?_, fun _ => ⟨p1.out, _, ps_same, upI_eq⟩, fun z => absurd k0 z⟩
      show x + 159 ≤ S1.2
      have := p2.2
      omega
    · cases e2
  · obtain ⟨p1, p2, p3⟩ := h
    rcases p3 with ⟨k0, e1⟩ | ⟨k0, E', e1, e2⟩
    · cases e1
    · cases e2
      have := p2.2
      exact ⟨(kSteps a kd s t n - 1).toNat, e1, by rw [show (((kSteps a kd s t n - 1).toNat : Nat) : Int) + 1 = kSteps a kd s t n by omega], by omega, hJ.fr p2, by omega, fun z => absurd z (by omega), fun _ => p1⟩
theorem L1_load0 {len : Int} (hT : TxtB g) (hL : TxtL g) (hC : CX S x (x + 159) a H nx ct fd ea tx) (hJ : MJ S x a ct th fd ea kp bf) (hF : x + 159 ≤ S.2) (hf : 0 ≤ fd ∧ fd ≤ 600) (hb : ∀ i : Int, 0 ≤ i → i < 600 → -128 ≤ tx i ∧ tx i ≤ 127) (hlr : RI len) (hm : 12 ≤ mc) (hm2 : 60 ≤ ms) (hR : (prgB (seeI tx len) len 600 (sk (seeI tx len) 0) (fun _ => 0)).1 = 0) : PC g yL_load cL_load (iL_load mc ms) [.ref x, vi len, .ref (x + 158)] S (CW x (if 0 ≤ len ∧ len ≤ fd then 0 else 1) (wI ((prgB (seeI tx len) len 600 (sk (seeI tx len) 0) (fun _ => 0)).2.2 0)) (prgB (seeI tx len) len 600 (sk (seeI tx len) 0) (fun _ => 0)).2.2 (upH H nx a) ((nx + 1) % 8) (min (ct + 1) 8) 0 (-1) tx a H nx ct fd ea th tx kp bf) := by
  obtain ⟨o1, ho⟩ := hJ.2.2.2.2.2
  have hc := c_X9_load (g := g) (mc := 12) (ms := 60) hT hL hC hF hb hf hlr (Nat.le_refl _) (Nat.le_refl _)
  rw [if_pos hR] at hc
  generalize prgB (seeI tx len) len 600 (sk (seeI tx len) 0) (fun _ => 0) = R at hR hc ⊢
  have hN := cw_n (codes := ["java/lang/IllegalArgumentException"]) (k := if 0 ≤ len ∧ len ≤ fd then 0 else 1) (P := fun S' => FrC x S S' ∧ (R.1 = 0 → CX S' x (x + 159) R.2.2 (upH H nx a) ((nx + 1) % 8) (min (ct + 1) 8) 0 (-1) tx) ∧ (R.1 ≠ 0 → CX S' x (x + 159) a H nx ct 0 R.2.1 tx)) (w := vi (R.2.2 0)) (th := th) (v := wI (R.2.2 0)) (B := True) (a' := R.2.2) (H' := upH H nx a) (nx' := (nx + 1) % 8) (ct' := min (ct + 1) 8) (fd' := 0) (ea' := -1) (tx' := tx) (H := H) (nx := nx) (tx := tx) hJ hF ho (fun _ => trivial) (fun S1 h => ⟨h.2.1 hR, h.1⟩)
  have hX := cw_x (codes := ["java/lang/IllegalArgumentException"]) (k := if 0 ≤ len ∧ len ≤ fd then 0 else 1) (P := fun S' => FrC x S S' ∧ (R.1 = 0 → CX S' x (x + 159) R.2.2 (upH H nx a) ((nx + 1) % 8) (min (ct + 1) 8) 0 (-1) tx) ∧ (R.1 ≠ 0 → CX S' x (x + 159) a H nx ct 0 R.2.1 tx)) (w := vi (R.2.2 0)) (v := wI (R.2.2 0)) (a' := R.2.2) (H' := upH H nx a) (nx' := (nx + 1) % 8) (ct' := min (ct + 1) 8) (fd' := 0) (ea' := -1) (tx' := tx) (kp := kp) (bf := bf) (th := th) hC hJ hF (by split <;> omega)
  exact w_load (M := 12) (N := 60) hc hC.2.1 hm hm2 (fun o S1 h => ⟨_, by rw [(hN o S1 h).1, wI_vi], wI_ri _, (hN o S1 h).2.2.1, (hN o S1 h).2.2.2⟩) (fun E S1 h => xs1 (Z := fun i => CW x (if 0 ≤ len ∧ len ≤ fd then 0 else 1) (wI (R.2.2 0)) R.2.2 (upH H nx a) ((nx + 1) % 8) (min (ct + 1) 8) 0 (-1) tx a H nx ct fd ea th tx kp bf (.inl (some (vi i))) S1) (hX E S1 h))
theorem L1_load1 {len : Int} (hT : TxtB g) (hL : TxtL g) (hC : CX S x (x + 159) a H nx ct fd ea tx) (hJ : MJ S x a ct th fd ea kp bf) (hF : x + 159 ≤ S.2) (hf : 0 ≤ fd ∧ fd ≤ 600) (hb : ∀ i : Int, 0 ≤ i → i < 600 → -128 ≤ tx i ∧ tx i ≤ 127) (hlr : RI len) (hm : 12 ≤ mc) (hm2 : 60 ≤ ms) (hR : (prgB (seeI tx len) len 600 (sk (seeI tx len) 0) (fun _ => 0)).1 ≠ 0) : PC g yL_load cL_load (iL_load mc ms) [.ref x, vi len, .ref (x + 158)] S (CW x (if 0 ≤ len ∧ len ≤ fd then 0 else 1) (wI (prgB (seeI tx len) len 600 (sk (seeI tx len) 0) (fun _ => 0)).1) a H nx ct 0 (prgB (seeI tx len) len 600 (sk (seeI tx len) 0) (fun _ => 0)).2.1 tx a H nx ct fd ea th tx kp bf) := by
  obtain ⟨o1, ho⟩ := hJ.2.2.2.2.2
  have hc := c_X9_load (g := g) (mc := 12) (ms := 60) hT hL hC hF hb hf hlr (Nat.le_refl _) (Nat.le_refl _)
  rw [if_neg hR] at hc
  generalize prgB (seeI tx len) len 600 (sk (seeI tx len) 0) (fun _ => 0) = R at hR hc ⊢
  have hN := cw_n (codes := ["java/lang/IllegalArgumentException"]) (k := if 0 ≤ len ∧ len ≤ fd then 0 else 1) (P := fun S' => FrC x S S' ∧ (R.1 = 0 → CX S' x (x + 159) R.2.2 (upH H nx a) ((nx + 1) % 8) (min (ct + 1) 8) 0 (-1) tx) ∧ (R.1 ≠ 0 → CX S' x (x + 159) a H nx ct 0 R.2.1 tx)) (w := vi R.1) (th := th) (v := wI R.1) (B := True) (a' := a) (H' := H) (nx' := nx) (ct' := ct) (fd' := 0) (ea' := R.2.1) (tx' := tx) (H := H) (nx := nx) (tx := tx) hJ hF ho (fun _ => trivial) (fun S1 h => ⟨h.2.2 hR, h.1⟩)
  have hX := cw_x (codes := ["java/lang/IllegalArgumentException"]) (k := if 0 ≤ len ∧ len ≤ fd then 0 else 1) (P := fun S' => FrC x S S' ∧ (R.1 = 0 → CX S' x (x + 159) R.2.2 (upH H nx a) ((nx + 1) % 8) (min (ct + 1) 8) 0 (-1) tx) ∧ (R.1 ≠ 0 → CX S' x (x + 159) a H nx ct 0 R.2.1 tx)) (w := vi R.1) (v := wI R.1) (a' := a) (H' := H) (nx' := nx) (ct' := ct) (fd' := 0) (ea' := R.2.1) (tx' := tx) (kp := kp) (bf := bf) (th := th) hC hJ hF (by split <;> omega)
  exact w_load (M := 12) (N := 60) hc hC.2.1 hm hm2 (fun o S1 h => ⟨_, by rw [(hN o S1 h).1, wI_vi], wI_ri _, (hN o S1 h).2.2.1, (hN o S1 h).2.2.2⟩) (fun E S1 h => xs1 (Z := fun i => CW x (if 0 ≤ len ∧ len ≤ fd then 0 else 1) (wI R.1) a H nx ct 0 R.2.1 tx a H nx ct fd ea th tx kp bf (.inl (some (vi i))) S1) (hX E S1 h))
theorem M1_feed {v0 v1 v2 v3 v4 : Int} (hJ : MJ S x a ct th fd ea kp bf) (hf : 0 ≤ fd ∧ fd ≤ 600) (h0 : RI v0) (h1 : RI v1) (h2 : RI v2) (h3 : RI v3) (h4 : RI v4) : PC g yX10_feed cX10_feed (iX10_feed mc ms) [.ref (x + 153), vi v0, vi v1, vi v2, vi v3, vi v4] S (fun o S' => ∃ r : Int, o = .inl (some (vi r)) ∧ (∀ z : Nat, z < x + 153 ∨ x + 158 ≤ z → S'.1 z = S.1 z) ∧ S'.2 = S.2 ∧ ((580 < fd ∧ MJ S' x a ct 1 fd ea kp bf) ∨ (fd ≤ 580 ∧ r = fd + 20 ∧ MJ S' x a ct 0 (fd + 20) ea kp (mix fd (fd + 20) (fun x => fdB v0 v1 v2 v3 v4 (x - fd)) bf)))) := by
  obtain ⟨⟨sz, at', be, ki, wr, wa, nu, bs, bw, bt', g1⟩, g2, ⟨fr, g3⟩, g4, g5, o1, g6⟩ := id hJ
  refine (c_X10_feed g1 g5 h0 h1 h2 h3 h4 hf).mono (fun o S' h => ?_)
  obtain ⟨r, r1, r2⟩ := h
  refine ⟨r, r1, ?_⟩
  rcases r2 with ⟨c1, c2⟩ | ⟨c1, c3, c2⟩
  · subst c2
    exact ⟨fun z hz => ps_ne (by omega) rfl, rfl, Or.inl ⟨c1, ⟨_, _, _, _, _, _, _, _, _, _, ps_same⟩, ps_ne (by omega) g2, ⟨fr, ps_ne (by omega) g3⟩, ps_ne (by omega) g4, ps_ne (by omega) g5, o1, ps_ne (by omega) g6⟩⟩
  · subst c2
    exact ⟨fun z hz => ps_ne (by omega) (ps_ne (by omega) rfl), rfl, Or.inr ⟨c1, c3, ⟨_, _, _, _, _, _, _, _, _, _, ps_ne (by omega) ps_same⟩, ps_ne (by omega) (ps_ne (by omega) g2), ⟨fr, ps_ne (by omega) (ps_ne (by omega) g3)⟩, ps_ne (by omega) (ps_ne (by omega) g4), ps_same, o1, ps_ne (by omega) (ps_ne (by omega) g6)⟩⟩
theorem M1_undo (hJ : MJ S x a ct th fd ea kp bf) (hct : 0 ≤ ct ∧ ct ≤ 8) : PC g yX10_undo cX10_undo (iX10_undo mc ms) [.ref (x + 153)] S (fun o S' => ∃ r : Int, o = .inl (some (vi r)) ∧ (∀ z : Nat, z < x + 153 ∨ x + 158 ≤ z → S'.1 z = S.1 z) ∧ S'.2 = S.2 ∧ ((ct = 0 ∧ MJ S' x a ct 1 fd ea kp bf) ∨ (0 < ct ∧ r = ct - 1 ∧ MJ S' x (mix 0 215 (fun x => kp (215 * (ct - 1) + x)) a) (ct - 1) 0 fd ea kp bf))) := by
  obtain ⟨⟨sz, at', be, ki, wr, wa, nu, bs, bw, bt', g1⟩, g2, ⟨fr, g3⟩, g4, g5, o1, g6⟩ := id hJ
  refine (c_X10_undo g1 g2 g4 hct).mono (fun o S' h => ?_)
  obtain ⟨r, r1, r2⟩ := h
  refine ⟨r, r1, ?_⟩
  rcases r2 with ⟨c1, c2⟩ | ⟨c1, c3, c2⟩
  · subst c2
    exact ⟨fun z hz => ps_ne (by omega) rfl, rfl, Or.inl ⟨c1, ⟨_, _, _, _, _, _, _, _, _, _, ps_same⟩, ps_ne (by omega) g2, ⟨fr, ps_ne (by omega) g3⟩, ps_ne (by omega) g4, ps_ne (by omega) g5, o1, ps_ne (by omega) g6⟩⟩
  · subst c2
    exact ⟨fun z hz => ps_ne (by omega) (ps_ne (by omega) rfl), rfl, Or.inr ⟨c1, c3, ⟨_, _, _, _, _, _, _, _, _, _, ps_ne (by omega) ps_same⟩, ps_same, ⟨fr, ps_ne (by omega) (ps_ne (by omega) g3)⟩, ps_ne (by omega) (ps_ne (by omega) g4), ps_ne (by omega) (ps_ne (by omega) g5), o1, ps_ne (by omega) (ps_ne (by omega) g6)⟩⟩
end LAWE

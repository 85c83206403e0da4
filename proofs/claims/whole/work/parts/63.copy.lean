/-! the class: Product's and Bench's copies -/
abbrev pO (b : Nat) (fc c kd st ln md : Int) : PE := cO 6 [.ref (b + 4), .ref (b + 5), vi fc, vi c, vi kd, vi st, vi ln, vl md]
section COPY
variable {g : GT} {S : PS} {mc ms : Nat} {Q : PO → PS → Prop} {kc ks : Nat} {b b' F : Nat} {a a' : Int → Int}
theorem c_X6_copyFrom {fc c kd st ln md fc' c' kd' st' ln' md' : Int} {vf vf' : Int → Int} {pf pf' : Int → Option Nat} (hne : b + 13 < b' ∨ b' + 13 < b) (h3 : S.1 (b + 3) = some (pO b fc c kd st ln md)) (h4 : S.1 (b + 4) = some (cJ 64 vf)) (h5 : S.1 (b + 5) = some (cR 6 6 pf)) (k3 : S.1 (b' + 3) = some (pO b' fc' c' kd' st' ln' md')) (k4 : S.1 (b' + 4) = some (cJ 64 vf')) (k5 : S.1 (b' + 5) = some (cR 6 6 pf')) (hel : ∀ i : Nat, i < 6 → ∀ y : Nat, pf' i = some y → y ≠ b + 3 ∧ y ≠ b + 4 ∧ ∃ fs, S.1 y = some (cO 1 fs)) : PC g yX6_copyFrom cX6_copyFrom (iX6_copyFrom mc ms) [.ref (b + 3), .ref (b' + 3)] S (Rt none (ps_put (ps_put (ps_put S (b + 3) (pO b fc' c' kd' st' ln' md')) (b + 4) (cJ 64 vf')) (b + 5) (cR 6 6 pf'))) := by
  refine PC_of pnX6 rfl rfl rfl (Nat.le_of_ble_eq_true rfl) ?_
  refine r_aload_n dX6_copyFrom_0 (i := 0) rfl rfl (r_aload_n dX6_copyFrom_1 (i := 1) rfl rfl (r_get dX6_copyFrom_2 fl_X6_44 k3 rfl (r_put dX6_copyFrom_5 fl_X6_44 h3 rfl rfl (Nat.le_of_ble_eq_true rfl) (r_aload_n dX6_copyFrom_8 (i := 0) rfl rfl ?_))))
  refine r_aload_n dX6_copyFrom_9 (i := 1) rfl rfl (r_get dX6_copyFrom_10 fl_X6_25 (ps_ne (by omega) k3) rfl (r_put dX6_copyFrom_13 fl_X6_25 ps_same rfl rfl (Nat.le_of_ble_eq_true rfl) (r_aload_n dX6_copyFrom_16 (i := 0) rfl rfl (r_aload_n dX6_copyFrom_17 (i := 1) rfl rfl ?_))))
  refine r_get dX6_copyFrom_18 fl_X6_29 (ps_ne (by omega) (ps_ne (by omega) k3)) rfl (r_put dX6_copyFrom_21 fl_X6_29 ps_same rfl rfl (Nat.le_of_ble_eq_true rfl) (r_aload_n dX6_copyFrom_24 (i := 0) rfl rfl (r_aload_n dX6_copyFrom_25 (i := 1) rfl rfl (r_get dX6_copyFrom_26 fl_X6_41 (ps_ne (by omega) (ps_ne (by omega) (ps_ne (by omega) k3))) rfl ?_))))
  refine r_put dX6_copyFrom_29 fl_X6_41 ps_same rfl rfl (Nat.le_of_ble_eq_true rfl) (r_aload_n dX6_copyFrom_32 (i := 0) rfl rfl (r_aload_n dX6_copyFrom_33 (i := 1) rfl rfl (r_get dX6_copyFrom_34 fl_X6_32 (ps_ne (by omega) (ps_ne (by omega) (ps_ne (by omega) (ps_ne (by omega) k3)))) rfl (r_put dX6_copyFrom_37 fl_X6_32 ps_same rfl rfl (Nat.le_of_ble_eq_true rfl) ?_))))
  refine r_aload_n dX6_copyFrom_40 (i := 0) rfl rfl (r_aload_n dX6_copyFrom_41 (i := 1) rfl rfl (r_get dX6_copyFrom_42 fl_X6_21 (ps_ne (by omega) (ps_ne (by omega) (ps_ne (by omega) (ps_ne (by omega) (ps_ne (by omega) k3))))) rfl (r_put dX6_copyFrom_45 fl_X6_21 ps_same rfl rfl (Nat.le_of_ble_eq_true rfl) ?_)))
  rw [ps_put_put, ps_put_put, ps_put_put, ps_put_put, ps_put_put]
  have g3 : (ps_put S (b + 3) (pO b fc' c' kd' st' ln' md')).1 (b' + 3) = some (pO b' fc' c' kd' st' ln' md') := ps_ne (by omega) k3
  have g4 : (ps_put S (b + 3) (pO b fc' c' kd' st' ln' md')).1 (b' + 4) = some (cJ 64 vf') := ps_ne (by omega) k4
  have g5 : (ps_put S (b + 3) (pO b fc' c' kd' st' ln' md')).1 (b' + 5) = some (cR 6 6 pf') := ps_ne (by omega) k5
  have f4 : (ps_put S (b + 3) (pO b fc' c' kd' st' ln' md')).1 (b + 4) = some (cJ 64 vf) := ps_ne (by omega) h4
  have f5 : (ps_put S (b + 3) (pO b fc' c' kd' st' ln' md')).1 (b + 5) = some (cR 6 6 pf) := ps_ne (by omega) h5
  have hel2 : ∀ i : Nat, i < 6 → ∀ y : Nat, pf' i = some y → ∃ fs, (ps_put (ps_put S (b + 3) (pO b fc' c' kd' st' ln' md')) (b + 4) (cJ 64 vf')).1 y = some (cO 1 fs) := fun i hi y hy => by
    obtain ⟨y1, y2, fs, y3⟩ := hel i hi y hy
    exact ⟨fs, ps_ne y2 (ps_ne y1 y3)⟩
  refine r_aload_n dX6_copyFrom_48 (i := 1) rfl rfl (r_get dX6_copyFrom_49 fl_X6_9 g3 rfl (r_iconst dX6_copyFrom_52 (r_aload_n dX6_copyFrom_53 (i := 0) rfl rfl (r_get dX6_copyFrom_54 fl_X6_9 ps_same rfl ?_))))
  refine r_iconst dX6_copyFrom_57 (r_bipush dX6_copyFrom_58 (by decide) ?_)
  refine r_copyJ (N := 64) dX6_copyFrom_60 cp_X6_72 g4 f4 (by omega) (Nat.le_of_ble_eq_true rfl) (Nat.le_of_ble_eq_true rfl) ?_
  refine r_aload_n dX6_copyFrom_63 (i := 1) rfl rfl (r_get dX6_copyFrom_64 fl_X6_17 (ps_ne (by omega) g3) rfl (r_aload_n dX6_copyFrom_67 (i := 0) rfl rfl (r_get dX6_copyFrom_68 fl_X6_17 (ps_ne (by omega) ps_same) rfl (c_snN dX6_copyFrom_71 (c_X9_copyFields (ps_ne (by omega) g5) (ps_ne (by omega) f5) (by omega) hel2) rfl rfl mq_X9_copyFields ml_X6_78 ⟨Nat.le_of_ble_eq_true rfl, Nat.le_of_ble_eq_true rfl⟩ rfl rfl (Nat.le_of_ble_eq_true rfl) ?_))))
  refine r_vret dX6_copyFrom_74 rfl ?_
  exact ⟨rfl, rfl⟩
/-- what an array of Fields holds -/
def FrA (S : PS) (F : Nat) (r : Int → Option Nat) : Prop := ∀ i : Nat, i < 6 → ∀ y : Nat, r i = some y → F ≤ y ∧ ∃ fs, S.1 y = some (cO 1 fs)
/-- the product of a bench -/
def PdAt (S : PS) (b F : Nat) (a : Int → Int) : Prop := ∃ (fc c kd st ln md : Int) (vf : Int → Int) (pf : Int → Option Nat), S.1 (b + 3) = some (pO b fc c kd st ln md) ∧ S.1 (b + 4) = some (cJ 64 vf) ∧ S.1 (b + 5) = some (cR 6 6 pf) ∧ FrA S F pf ∧ c = a 143 ∧ (a 139 = 1 → fc = a 144 ∧ kd = a 140 ∧ st = a 142 ∧ ln = a 141 ∧ md = bpS a (a 144).toNat ∧ (∀ k : Int, 0 ≤ k → k < c → vf k = a (151 + k)) ∧ ∀ i : Int, 0 ≤ i → i < fc → ∃ q, pf i = some q ∧ F ≤ q ∧ FldAt S q (a (145 + i)).toNat (genN (a (145 + i)).toNat))
/-- the four sequences of a bench, changed over by w -/
def SqAt (S : PS) (b : Nat) (a : Int → Int) : Prop := ∃ w : Int → Nat, (∀ s : Int, 0 ≤ s → s < 4 → w s < 4) ∧ (∀ s t : Int, 0 ≤ s → s < 4 → 0 ≤ t → t < 4 → w s = w t → s = t) ∧ S.1 (b + 2) = some (cR 5 4 (fun s => some (b + 6 + 2 * w s))) ∧ ∀ s : Int, 0 ≤ s → s < 4 → ∃ f : Int → Int, SeqAt S (b + 6 + 2 * w s) (a (7 + s)) f ∧ ∀ k : Int, 0 ≤ k → k < a (7 + s) → f k = a (11 + 32 * s + k)
/-- the primes of a bench, with what its array holds -/
def PmAt (S : PS) (b F : Nat) (a : Int → Int) : Prop := S.1 b = some (bO b (a 0)) ∧ ∃ r : Int → Option Nat, S.1 (b + 1) = some (cR 6 6 r) ∧ FrA S F r ∧ ∀ k : Int, 0 ≤ k → k < a 0 → ∃ q, r k = some q ∧ F ≤ q ∧ FldAt S q (pN a k) (genN (pN a k))
def BnAt (S : PS) (b F : Nat) (a : Int → Int) : Prop := PmAt S b F a ∧ SqAt S b a ∧ PdAt S b F a
theorem PmAt.pr {S : PS} {b F : Nat} {a : Int → Int} (h : PmAt S b F a) : PrAt S b F a := by
  obtain ⟨h1, r, h2, -, h3⟩ := h
  exact ⟨h1, r, h2, h3⟩
/-- what lies from F on stays -/
def Ext (F : Nat) (S S' : PS) : Prop := ∀ z : Nat, F ≤ z → ∀ c, S.1 z = some c → S'.1 z = some c
theorem Ext.fld {S S' : PS} {F q p e : Nat} (h : Ext F S S') (hF : F ≤ q) (hf : FldAt S q p e) : FldAt S' q p e := by
  obtain ⟨ff, fc, h1, h2, h3⟩ := hf
  exact ⟨ff, fc, h q hF _ h1, h (q + 1) (by omega) _ h2, h3⟩
theorem Ext.fra {S S' : PS} {F : Nat} {r : Int → Option Nat} (h : Ext F S S') (hr : FrA S F r) : FrA S' F r := fun i hi y hy => by
  obtain ⟨h1, fs, h2⟩ := hr i hi y hy
  exact ⟨h1, fs, h y h1 _ h2⟩
theorem BnAt.frame {S S' : PS} {b F : Nat} {a : Int → Int} (h : BnAt S b F a) (he : Ext F S S') (hs : ∀ z : Nat, b ≤ z → z < b + 14 → S'.1 z = S.1 z) : BnAt S' b F a := by
  obtain ⟨⟨h1, r, h2, h3, h4⟩, ⟨w, w1, w2, w3, w4⟩, ⟨fc, c, kd, st, ln, md, vf, pf, p1, p2, p3, p4, p5, p6⟩⟩ := h
  refine ⟨⟨by rw [hs b (by omega) (by omega)]; exact h1, r, by rw [hs (b + 1) (by omega) (by omega)]; exact h2, he.fra h3, fun k k0 k1 => ?_⟩, ⟨w, w1, w2, by rw [hs (b + 2) (by omega) (by omega)]; exact w3, fun s s0 s1 => ?_⟩, fc, c, kd, st, ln, md, vf, pf, by rw [hs (b + 3) (by omega) (by omega)]; exact p1, by rw [hs (b + 4) (by omega) (by omega)]; exact p2, by rw [hs (b + 5) (by omega) (by omega)]; exact p3, he.fra p4, p5, fun h139 => ?_⟩
  · obtain ⟨q, q1, q2, q3⟩ := h4 k k0 k1
    exact ⟨q, q1, q2, he.fld q2 q3⟩
  · have hw := w1 s s0 s1
    obtain ⟨f, ⟨g1, g2⟩, g3⟩ := w4 s s0 s1
    refine ⟨f, ⟨?_, ?_⟩, g3⟩
    · rw [hs _ (by omega) (by omega)]
      exact g1
    · rw [hs _ (by omega) (by omega)]
      exact g2
  · obtain ⟨e1, e2, e3, e4, e5, e6, e7⟩ := p6 h139
    refine ⟨e1, e2, e3, e4, e5, e6, fun i i0 i1 => ?_⟩
    obtain ⟨q, q1, q2, q3⟩ := e7 i i0 i1
    exact ⟨q, q1, q2, he.fld q2 q3⟩
end COPY

/-! the class: Product.takeFields; the primes of the model's product -/
theorem bpS_cong {a a' : Int → Int} : ∀ n : Nat, (∀ i : Int, 0 ≤ i → i < n → a (145 + i) = a' (145 + i)) → bpS a n = bpS a' n
  | 0, _ => rfl
  | n + 1, h => by
    show bpS a n * a (145 + (n : Int)) = bpS a' n * a' (145 + (n : Int))
    rw [bpS_cong n (fun i i0 i1 => h i i0 (by omega)), h n (by omega) (by omega)]
/-- what lies in the row of the model's product when k primes were looked at -/
def BpOk (a B : Int → Int) (set : Int) (k : Nat) : Prop := (0 ≤ B 144 ∧ B 144 ≤ (k : Int)) ∧ (∀ j : Int, 0 ≤ j → j < B 144 → ∃ i : Int, 0 ≤ i ∧ i < (k : Int) ∧ bt set i ∧ B (145 + j) = a (1 + i)) ∧ bpS B (B 144).toNat = prS a set k ∧ (∀ j l : Int, 0 ≤ j → j < l → l < B 144 → ∃ i m : Int, 0 ≤ i ∧ i < m ∧ m < (k : Int) ∧ B (145 + j) = a (1 + i) ∧ B (145 + l) = a (1 + m))
theorem muB_ok {a : Int → Int} {kd s t len set : Int} : ∀ k : Nat, BpOk a (muB a kd s t len set k) set k
  | 0 => by
    have e : muB a kd s t len set 0 144 = 0 := upI_eq
    refine ⟨by rw [e]; omega, fun j j0 j1 => by omega, ?_, fun j l j0 jl l1 => by omega⟩
    rw [e]
    rfl
  | k + 1 => by
    obtain ⟨h1, h2, h3, h4⟩ := muB_ok (a := a) (kd := kd) (s := s) (t := t) (len := len) (set := set) k
    have e : muB a kd s t len set (k + 1) = if b2c (bt set (k : Int)) = 1 then upI (upI (muB a kd s t len set k) (145 + muB a kd s t len set k 144) (a (1 + (k : Int)))) 144 (muB a kd s t len set k 144 + 1) else muB a kd s t len set k := rfl
    by_cases hb : bt set (k : Int)
    · rw [b2c_t hb, if_pos rfl] at e
      have e1 : muB a kd s t len set (k + 1) 144 = muB a kd s t len set k 144 + 1 := by rw [e, upI_eq]
      have e2 : ∀ j : Int, 0 ≤ j → j < muB a kd s t len set k 144 → muB a kd s t len set (k + 1) (145 + j) = muB a kd s t len set k (145 + j) := fun j j0 j1 => by
        rw [e, upI_ne (by omega), upI_ne (by omega)]
      have e3 : muB a kd s t len set (k + 1) (145 + muB a kd s t len set k 144) = a (1 + (k : Int)) := by
        rw [e, upI_ne (by omega), upI_eq]
      refine ⟨by omega, fun j j0 j1 => ?_, ?_, fun j l j0 jl l1 => ?_⟩
      · by_cases c : j = muB a kd s t len set k 144
        · exact ⟨(k : Int), by omega, by omega, hb, by rw [c, e3]⟩
        · obtain ⟨i, i0, i1, i2, i3⟩ := h2 j j0 (by omega)
          exact ⟨i, i0, by omega, i2, by rw [e2 j j0 (by omega)]; exact i3⟩
      · rw [e1, show (muB a kd s t len set k 144 + 1).toNat = (muB a kd s t len set k 144).toNat + 1 by omega, prS_t hb, ← h3]
        show bpS _ _ * muB a kd s t len set (k + 1) (145 + (((muB a kd s t len set k 144).toNat : Nat) : Int)) = _
        rw [show (((muB a kd s t len set k 144).toNat : Nat) : Int) = muB a kd s t len set k 144 by omega, e3, bpS_cong (a' := muB a kd s t len set k) _ (fun i i0 i1 => e2 i i0 (by omega))]
      · by_cases c : l = muB a kd s t len set k 144
        · obtain ⟨i, i0, i1, i2, i3⟩ := h2 j j0 (by omega)
          exact ⟨i, (k : Int), i0, by omega, by omega, by rw [e2 j j0 (by omega)]; exact i3, by rw [c, e3]⟩
        · obtain ⟨i, m, i0, i1, i2, i3, i4⟩ := h4 j l j0 jl (by omega)
          exact ⟨i, m, i0, i1, by omega, by rw [e2 j j0 (by omega)]; exact i3, by rw [e2 l (by omega) (by omega)]; exact i4⟩
    · rw [b2c_f hb, if_neg (by omega)] at e
      rw [e]
      refine ⟨by omega, fun j j0 j1 => ?_, by rw [prS_f hb]; exact h3, fun j l j0 jl l1 => ?_⟩
      · obtain ⟨i, i0, i1, i2, i3⟩ := h2 j j0 j1
        exact ⟨i, i0, by omega, i2, i3⟩
      · obtain ⟨i, m, i0, i1, i2, i3, i4⟩ := h4 j l j0 jl l1
        exact ⟨i, m, i0, i1, by omega, i3, i4⟩
section TAKEF
variable {g : GT} {S0 : PS} {mc ms : Nat} {Q : PO → PS → Prop} {kc ks : Nat} {b F : Nat} {a : Int → Int} {c kd st ln len : Int}
def TkS (S0 S : PS) (b : Nat) (fc c kd st ln md : Int) (pf : Int → Option Nat) : Prop := S.1 (b + 3) = some (pO b fc c kd st ln md) ∧ S.1 (b + 5) = some (cR 6 6 pf) ∧ (∀ z : Nat, z ≠ b + 3 → z ≠ b + 5 → S.1 z = S0.1 z) ∧ S.2 = S0.2
/-- the Fields that were taken are those of the row B -/
def PfB (S0 : PS) (F : Nat) (pf : Int → Option Nat) (B : Int → Int) : Prop := ∀ j : Int, 0 ≤ j → j < B 144 → ∃ q, pf j = some q ∧ F ≤ q ∧ FldAt S0 q (B (145 + j)).toNat (genN (B (145 + j)).toNat)
theorem l_takeF {k0 s t : Int} (hP : PmAt S0 b F a) (hF : b + 14 ≤ F) (hp : MP a) (hst : 0 ≤ st ∧ st ≤ 63) (hq : ∀ S pf, TkS S0 S b (muB a k0 s t len st (a 0).toNat 144) c kd st ln (prS a st (a 0).toNat) pf → PfB S0 F pf (muB a k0 s t len st (a 0).toNat) → FrA S0 F pf → Q (.inl none) S) : ∀ (r i : Nat), (i : Int) + r = a 0 → ∀ S pf, TkS S0 S b (muB a k0 s t len st i 144) c kd st ln (prS a st i) pf → PfB S0 F pf (muB a k0 s t len st i) → FrA S0 F pf →
    PW g cX6_takeFields (iX6_takeFields mc ms) 17 [(0, some (.ref (b + 3))), (1, some (.ref b)), (2, some (vi st)), (3, some (vi (i : Int)))] [] S kc ks Q := by
  intro r
  have hn := hp.1
  obtain ⟨k1, rr, k2, k3, k4⟩ := hP
  induction r with
  | zero =>
    intro i hi S pf hT hB hA
    have h1 : S.1 b = some (bO b (a 0)) := by rw [hT.2.2.1 b (by omega) (by omega)]; exact k1
    have hE : (a 0).toNat = i := by omega
    refine r_iload_n dX6_takeFields_17 (i := 3) rfl rfl (r_aload_n dX6_takeFields_18 (i := 1) rfl rfl (r_get dX6_takeFields_19 fl_X6_47 h1 rfl ?_))
    refine r_icmp_ge 83 dX6_takeFields_22 (by decide) (by omega) (by omega) (fun c1 => ?_) (fun c1 => ?_)
    · refine r_vret dX6_takeFields_83 rfl ?_
      rw [hE] at hq
      exact hq S pf hT hB hA
    · omega
  | succ r ih =>
    intro i hi S pf hT hB hA
    have h1 : S.1 b = some (bO b (a 0)) := by rw [hT.2.2.1 b (by omega) (by omega)]; exact k1
    have h2 : S.1 (b + 1) = some (cR 6 6 rr) := by rw [hT.2.2.1 (b + 1) (by omega) (by omega)]; exact k2
    obtain ⟨y, y1, y2, ff, fc, y3, y4, y5⟩ := k4 (i : Int) (by omega) (by omega)
    obtain ⟨hpa, hpr, hpp⟩ := pN_ok hp (q := (i : Int)) (by omega)
    have y3' : S.1 y = some (cO 1 [vi (pN a (i : Int) : Int), .ref (y + 1), vi (fc : Int), vi (genN (pN a (i : Int)) : Int)]) := by rw [hT.2.2.1 y (by omega) (by omega)]; exact y3
    have hdb := div_bd hst.1 (show st ≤ 64 by omega) (i : Int)
    have hbd := muB_bd (a := a) (kd := k0) (s := s) (t := t) (len := len) (set := st) i
    have e : muB a k0 s t len st (i + 1) = if b2c (bt st (i : Int)) = 1 then upI (upI (muB a k0 s t len st i) (145 + muB a k0 s t len st i 144) (a (1 + (i : Int)))) 144 (muB a k0 s t len st i 144 + 1) else muB a k0 s t len st i := rfl
    refine r_iload_n dX6_takeFields_17 (i := 3) rfl rfl (r_aload_n dX6_takeFields_18 (i := 1) rfl rfl (r_get dX6_takeFields_19 fl_X6_47 h1 rfl ?_))
    refine r_icmp_ge 83 dX6_takeFields_22 (by decide) (by omega) (by omega) (fun c1 => ?_) (fun c1 => ?_)
    · omega
    · refine r_aload_n dX6_takeFields_25 (i := 0) rfl rfl (r_get dX6_takeFields_26 fl_X6_41 hT.1 rfl (r_iload_n dX6_takeFields_29 (i := 3) rfl rfl ?_))
      refine r_ishr (st / 2 ^ (i : Int).toNat) dX6_takeFields_30 (q_shr ⟨by omega, by omega⟩ (by omega)) ?_
      refine r_iconst dX6_takeFields_31 ?_
      refine r_iand (st / 2 ^ (i : Int).toNat % 2) dX6_takeFields_32 (q_and1 (by omega) (by omega)) ?_
      refine r_if_eq 77 dX6_takeFields_33 (by decide) (by omega) (fun c2 => ?_) (fun c2 => ?_)
      · have hb : ¬ bt st (i : Int) := fun z => by have z2 : st / 2 ^ (i : Int).toNat % 2 = 1 := z; omega
        rw [b2c_f hb, if_neg (by omega)] at e
        refine r_iinc dX6_takeFields_77 rfl rfl (r_goto 17 dX6_takeFields_80 (by decide) ?_)
        refine r_loc [(0, some (.ref (b + 3))), (1, some (.ref b)), (2, some (vi st)), (3, some (vi ((i + 1 : Nat) : Int)))] ⟨Or.inl rfl, Or.inl rfl, Or.inl rfl, Or.inl rfl, trivial⟩ (ih (i + 1) (by omega) S pf ?_ ?_ hA)
        · rw [e, prS_f hb]
          exact hT
        · rw [e]
          exact hB
      · have hb : bt st (i : Int) := by show st / 2 ^ (i : Int).toNat % 2 = 1; omega
        rw [b2c_t hb, if_pos rfl] at e
        have e1 : muB a k0 s t len st (i + 1) 144 = muB a k0 s t len st i 144 + 1 := by rw [e, upI_eq]
        have e2 : ∀ j : Int, 0 ≤ j → j < muB a k0 s t len st i 144 → muB a k0 s t len st (i + 1) (145 + j) = muB a k0 s t len st i (145 + j) := fun j j0 j1 => by
          rw [e, upI_ne (by omega), upI_ne (by omega)]
        have e3 : muB a k0 s t len st (i + 1) (145 + muB a k0 s t len st i 144) = a (1 + (i : Int)) := by
          rw [e, upI_ne (by omega), upI_eq]
        refine r_aload_n dX6_takeFields_36 (i := 0) rfl rfl (r_get dX6_takeFields_37 fl_X6_17 hT.1 rfl (r_aload_n dX6_takeFields_40 (i := 0) rfl rfl (r_dup dX6_takeFields_41 rfl (r_get dX6_takeFields_42 fl_X6_44 hT.1 rfl ?_))))
        refine r_dup_x1 dX6_takeFields_45 rfl rfl (r_iconst dX6_takeFields_46 (r_iadd dX6_takeFields_47 (r_put dX6_takeFields_48 fl_X6_44 hT.1 rfl rfl (Nat.le_of_ble_eq_true rfl) (r_aload_n dX6_takeFields_51 (i := 1) rfl rfl ?_))))
        refine r_get dX6_takeFields_52 fl_X6_52 (ps_ne (by omega) h1) rfl (r_iload_n dX6_takeFields_55 (i := 3) rfl rfl (r_aald dX6_takeFields_56 (ps_ne (by omega) h2) rfl (by omega) (by omega) (by omega) y1 ?_))
        refine r_aast dX6_takeFields_57 (ps_ne (by omega) hT.2.1) rfl rfl (ps_ne (by omega) y3') (by omega) (by omega) (by omega) (r_aload_n dX6_takeFields_58 (i := 0) rfl rfl (r_dup dX6_takeFields_59 rfl (r_get dX6_takeFields_60 fl_X6_21 (ps_ne (by omega) ps_same) rfl (r_aload_n dX6_takeFields_63 (i := 1) rfl rfl ?_))))
        refine r_get dX6_takeFields_64 fl_X6_52 (ps_ne (by omega) (ps_ne (by omega) h1)) rfl (r_iload_n dX6_takeFields_67 (i := 3) rfl rfl (r_aald dX6_takeFields_68 (ps_ne (by omega) (ps_ne (by omega) h2)) rfl (by omega) (by omega) (by omega) y1 (r_get dX6_takeFields_69 fl_X6_53 (ps_ne (by omega) (ps_ne (by omega) y3')) rfl (r_i2l dX6_takeFields_72 (by omega) ?_))))
        refine r_lmul dX6_takeFields_73 (r_put dX6_takeFields_74 fl_X6_21 (ps_ne (by omega) ps_same) rfl rfl (Nat.le_of_ble_eq_true rfl) (r_iinc dX6_takeFields_77 rfl rfl (r_goto 17 dX6_takeFields_80 (by decide) ?_)))
        rw [ps_put_comm (q := b + 5) (r := b + 3) (by omega), ps_put_put]
        refine r_loc [(0, some (.ref (b + 3))), (1, some (.ref b)), (2, some (vi st)), (3, some (vi ((i + 1 : Nat) : Int)))] ⟨Or.inl rfl, Or.inl rfl, Or.inl rfl, Or.inl rfl, trivial⟩ (ih (i + 1) (by omega) _ (upR pf (muB a k0 s t len st i 144) (some y)) ⟨?_, ps_same, fun z z1 z2 => ?_, hT.2.2.2⟩ (fun j j0 j1 => ?_) (fun j hj z hz => ?_))
        · rw [e1, prS_t hb, hpa]
          exact ps_ne (by omega) ps_same
        · rw [← hT.2.2.1 z z1 z2]
          exact ps_ne z2 (ps_ne z1 rfl)
        · rw [e1] at j1
          unfold upR
          by_cases cj : j = muB a k0 s t len st i 144
          · rw [if_pos cj, cj, e3]
            exact ⟨y, rfl, y2, ff, fc, y3, y4, y5⟩
          · rw [if_neg cj, e2 j j0 (by omega)]
            exact hB j j0 (by omega)
        · unfold upR at hz
          by_cases cj : (j : Int) = muB a k0 s t len st i 144
          · rw [if_pos cj] at hz
            cases hz
            exact ⟨y2, _, y3⟩
          · rw [if_neg cj] at hz
            exact hA j hj z hz
theorem c_X6_takeFields {S : PS} {k0 s t fc st0 md : Int} {pf : Int → Option Nat} (hP : PmAt S b F a) (hF : b + 14 ≤ F) (hp : MP a) (hst : 0 ≤ st ∧ st ≤ 63) (h3 : S.1 (b + 3) = some (pO b fc c kd st0 ln md)) (h5 : S.1 (b + 5) = some (cR 6 6 pf)) (hA : FrA S F pf) : PC g yX6_takeFields cX6_takeFields (iX6_takeFields mc ms) [.ref (b + 3), .ref b, vi st] S (fun o S' => o = .inl none ∧ ∃ pf', TkS S S' b (muB a k0 s t len st (a 0).toNat 144) c kd st ln (prS a st (a 0).toNat) pf' ∧ PfB S F pf' (muB a k0 s t len st (a 0).toNat) ∧ FrA S F pf') := by
  refine PC_of pnX6 rfl rfl rfl (Nat.le_of_ble_eq_true rfl) ?_
  refine r_aload_n dX6_takeFields_0 (i := 0) rfl rfl (r_iload_n dX6_takeFields_1 (i := 2) rfl rfl (r_put dX6_takeFields_2 fl_X6_41 h3 rfl rfl (Nat.le_of_ble_eq_true rfl) (r_aload_n dX6_takeFields_5 (i := 0) rfl rfl (r_iconst dX6_takeFields_6 ?_))))
  refine r_put dX6_takeFields_7 fl_X6_44 ps_same rfl rfl (Nat.le_of_ble_eq_true rfl) (r_aload_n dX6_takeFields_10 (i := 0) rfl rfl (r_lconst (z := 1) dX6_takeFields_11 (by decide) (r_put dX6_takeFields_12 fl_X6_21 ps_same rfl rfl (Nat.le_of_ble_eq_true rfl) (r_iconst dX6_takeFields_15 ?_))))
  refine r_istore_n dX6_takeFields_16 (i := 3) rfl rfl (Nat.le_of_ble_eq_true rfl) ?_
  refine r_ps (S' := ps_put S (b + 3) (pO b 0 c kd st ln 1)) (by rw [ps_put_put, ps_put_put]; rfl) ?_
  have e0 : muB a k0 s t len st 0 144 = 0 := upI_eq
  refine r_loc [(0, some (.ref (b + 3))), (1, some (.ref b)), (2, some (vi st)), (3, some (vi ((0 : Nat) : Int)))] ⟨Or.inl rfl, Or.inl rfl, Or.inl rfl, Or.inl rfl, trivial⟩ (l_takeF (S0 := S) (k0 := k0) (s := s) (t := t) (len := len) hP hF hp hst (fun S' pf' a1 a2 a3 => ⟨rfl, pf', a1, a2, a3⟩) (a 0).toNat 0 (by have := hp.1; omega) _ pf ⟨?_, ps_ne (by omega) h5, fun z z1 z2 => ps_ne z1 rfl, rfl⟩ (fun j j0 j1 => by omega) hA)
  rw [e0]
  exact ps_same
end TAKEF

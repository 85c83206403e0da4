/-! the class: PlanFinder -/
abbrev plO (q : Nat) (t : Int × Int × Int) : PE := cO 5 [.ref (q + 1), .ref (q + 2), vi t.1, vi t.2.1, vi t.2.2]
/-- PlanFinder's cells in S; all others are as in S0 -/
def PlS (S0 S : PS) (q : Nat) (t : Int × Int × Int) (ff fE : Int → Int) : Prop := S.1 q = some (plO q t) ∧ S.1 (q + 1) = some (cI 6 ff) ∧ S.1 (q + 2) = some (cZ 64 fE) ∧ (∀ z : Nat, z < q ∨ q + 3 ≤ z → S.1 z = S0.1 z) ∧ S.2 = S0.2
theorem PlS.pt {S0 S : PS} {q : Nat} {t t' : Int × Int × Int} {ff fE : Int → Int} (h : PlS S0 S q t ff fE) : PlS S0 (ps_put S q (plO q t')) q t' ff fE :=
  ⟨ps_same, ps_ne (by omega) h.2.1, ps_ne (by omega) h.2.2.1, fun z hz => ps_ne (by omega) (h.2.2.2.1 z hz), h.2.2.2.2⟩
theorem PlS.pf {S0 S : PS} {q : Nat} {t : Int × Int × Int} {ff ff' fE : Int → Int} (h : PlS S0 S q t ff fE) : PlS S0 (ps_put S (q + 1) (cI 6 ff')) q t ff' fE :=
  ⟨ps_ne (by omega) h.1, ps_same, ps_ne (by omega) h.2.2.1, fun z hz => ps_ne (by omega) (h.2.2.2.1 z hz), h.2.2.2.2⟩
theorem PlS.pe {S0 S : PS} {q : Nat} {t : Int × Int × Int} {ff fE fE' : Int → Int} (h : PlS S0 S q t ff fE) : PlS S0 (ps_put S (q + 2) (cZ 64 fE')) q t ff fE' :=
  ⟨ps_ne (by omega) h.1, ps_ne (by omega) h.2.1, ps_same, fun z hz => ps_ne (by omega) (h.2.2.2.1 z hz), h.2.2.2.2⟩
theorem PrAt.frame {S S' : PS} {b F q : Nat} {a : Int → Int} (h : PrAt S b F a) (hs : ∀ z : Nat, z < q ∨ q + 3 ≤ z → S'.1 z = S.1 z) (h1 : b + 14 ≤ q) (h2 : q + 3 ≤ F) : PrAt S' b F a := by
  obtain ⟨g1, r, g2, g3⟩ := h
  refine ⟨by rw [hs b (by omega)]; exact g1, r, by rw [hs (b + 1) (by omega)]; exact g2, fun k k0 k1 => ?_⟩
  obtain ⟨y, y1, y2, ff, fc, y3, y4, y5⟩ := g3 k k0 k1
  exact ⟨y, y1, y2, ff, fc, by rw [hs y (by omega)]; exact y3, by rw [hs (y + 1) (by omega)]; exact y4, y5⟩
theorem bt_of_lt : ∀ n : Nat, n < 7 → ∀ s : Nat, s < 2 ^ n → ∀ k : Nat, k < 7 → n ≤ k → ¬ s / 2 ^ k % 2 = 1 := by decide +kernel
theorem bt_top {n set k : Int} (hn : 0 ≤ n ∧ n ≤ 6) (hs : 0 ≤ set ∧ set ≤ 2 ^ n.toNat - 1) (hk : n ≤ k ∧ k ≤ 6) : ¬ bt set k := by
  obtain ⟨m, rfl⟩ := Int.eq_ofNat_of_zero_le hn.1
  obtain ⟨s, rfl⟩ := Int.eq_ofNat_of_zero_le hs.1
  obtain ⟨i, rfl⟩ := Int.eq_ofNat_of_zero_le (show 0 ≤ k by omega)
  rw [Int.toNat_natCast] at hs
  have hc : ((2 ^ m : Nat) : Int) = (2 : Int) ^ m := Int.natCast_pow 2 m
  rw [bt_nat]
  exact bt_of_lt m (by omega) s (by omega) i (by omega) (by omega)
theorem stS_top {a : Int → Int} {kd set : Int} {w : Nat} {n : Nat} (h : ∀ k : Nat, n ≤ k → k < 6 → ¬ bt set (k : Int)) : ∀ j : Nat, n + j ≤ 6 → stS a kd w set (n + j) = stS a kd w set n ∧ stR set (n + j) = stR set n
  | 0, _ => ⟨rfl, rfl⟩
  | j + 1, hj => by
    obtain ⟨e1, e2⟩ := stS_top (a := a) (kd := kd) (w := w) h j (by omega)
    have hb := h (n + j) (by omega) (by omega)
    have c1 : stS a kd w set (n + j + 1) = stS a kd w set (n + j) + b2c (bt set ((n + j : Nat) : Int)) * trm (a (1 + ((n + j : Nat) : Int))) kd w := rfl
    have c2 : stR set (n + j + 1) = stR set (n + j) + b2c (bt set ((n + j : Nat) : Int)) := rfl
    rw [b2c_f hb, Int.zero_mul] at c1
    rw [b2c_f hb] at c2
    exact ⟨by show stS a kd w set (n + j + 1) = _; omega, by show stR set (n + j + 1) = _; omega⟩
section PLAN
variable {g : GT} {S0 : PS} {mc ms : Nat} {Q : PO → PS → Prop} {kc ks : Nat} {q b F : Nat} {a : Int → Int}
/-- what is known of the prime i in the set u -/
def FsOk (a : Int → Int) (kd : Int) (w : Nat) (u : Int) (ff : Int → Int) : Prop := ∀ i : Int, 0 ≤ i → i < a 0 → bt u i → ff i = trm (a (1 + i)) kd w
theorem l_cmp {kd set : Int} {w : Nat} {S : PS} {t : Int × Int × Int} {ff fE : Int → Int} (hS : PlS S0 S q t ff fE) (hn : 0 ≤ a 0 ∧ a 0 ≤ 6) (hw : 1 ≤ w ∧ w ≤ 64) (hs : 0 ≤ set ∧ set ≤ 2 ^ (a 0).toNat - 1) (hff : FsOk a kd w set ff) (ht : -18 ≤ t.1 ∧ t.1 ≤ 100000) (hq : ∀ S', (t.1 = -1 ∨ stI a kd w set < t.1 → PlS S0 S' q (stI a kd w set, (w : Int), set) ff fE) → (¬ (t.1 = -1 ∨ stI a kd w set < t.1) → PlS S0 S' q t ff fE) → Q (.inl none) S') : ∀ (r i : Nat), i + r = 6 →
    PW g cX5_compare (iX5_compare mc ms) 8 [(0, some (.ref q)), (1, some (vi (w : Int))), (2, some (vi set)), (3, some (vi (stR set i))), (4, some (vi (stS a kd w set i))), (5, some (vi (i : Int)))] [] S kc ks Q := by
  intro r
  have h64 : (2 : Int) ^ (a 0).toNat ≤ 64 := by
    have := Nat.pow_le_pow_right (show 0 < 2 by omega) (show (a 0).toNat ≤ 6 by omega)
    have hc : ((2 ^ (a 0).toNat : Nat) : Int) = (2 : Int) ^ (a 0).toNat := Int.natCast_pow 2 _
    omega
  induction r with
  | zero =>
    intro i hi
    have e : i = 6 := by omega
    subst e
    obtain ⟨e1, e2⟩ := stS_top (a := a) (kd := kd) (set := set) (w := w) (n := (a 0).toNat) (fun k k0 k1 => bt_top hn hs (by omega)) (6 - (a 0).toNat) (by omega)
    rw [show (a 0).toNat + (6 - (a 0).toNat) = 6 by omega] at e1 e2
    have hI : stI a kd w set = stS a kd w set 6 + (w : Int) * stR set 6 * (stR set 6 - 1) / 2 := by
      rw [e1, e2]
      rfl
    have hrb := stR_bd set 6
    have hrr := rr_bd (w := (w : Int)) (r := stR set 6) (by omega) (by omega)
    have hIb := stI_bd (a := a) (kd := kd) (set := set) hn hw
    have hSb := stS_bd (a := a) (kd := kd) (set := set) hw 6
    refine r_iload dX5_compare_8 rfl (r_bipush dX5_compare_10 (by decide) ?_)
    refine r_icmp_ge 45 dX5_compare_12 (by decide) (by omega) (by omega) (fun c1 => ?_) (fun c1 => ?_)
    · refine r_iload dX5_compare_45 rfl (r_iload_n dX5_compare_47 (i := 1) rfl rfl (r_iload_n dX5_compare_48 (i := 3) rfl rfl (r_imul dX5_compare_49 (r_iload_n dX5_compare_50 (i := 3) rfl rfl ?_))))
      refine r_iconst dX5_compare_51 (r_isub dX5_compare_52 (r_imul dX5_compare_53 (r_iconst dX5_compare_54 (r_idivN dX5_compare_55 (by omega) (by omega) (by omega) (by omega) ?_))))
      refine r_iadd dX5_compare_56 (r_istore dX5_compare_57 rfl (Nat.le_of_ble_eq_true rfl) ?_)
      rw [← hI]
      refine r_aload_n dX5_compare_59 (i := 0) rfl rfl (r_get dX5_compare_60 fl_X5_19 hS.1 rfl (r_iconst dX5_compare_63 ?_))
      refine r_icmp_eq 76 dX5_compare_64 (by decide) (by omega) (by omega) (fun c1 => ?_) (fun c1 => ?_)
      · refine r_aload_n dX5_compare_76 (i := 0) rfl rfl (r_iload dX5_compare_77 rfl (r_put dX5_compare_79 fl_X5_19 hS.1 rfl rfl (Nat.le_of_ble_eq_true rfl) (r_aload_n dX5_compare_82 (i := 0) rfl rfl (r_iload_n dX5_compare_83 (i := 1) rfl rfl ?_))))
        refine r_put dX5_compare_84 fl_X5_23 ps_same rfl rfl (Nat.le_of_ble_eq_true rfl) (r_aload_n dX5_compare_87 (i := 0) rfl rfl (r_iload_n dX5_compare_88 (i := 2) rfl rfl (r_put dX5_compare_89 fl_X5_26 ps_same rfl rfl (Nat.le_of_ble_eq_true rfl) ?_)))
        refine r_vret dX5_compare_92 rfl ?_
        show Q (Sum.inl none) (ps_put (ps_put (ps_put S q (plO q (stI a kd w set, t.2.1, t.2.2))) q (plO q (stI a kd w set, (w : Int), t.2.2))) q (plO q (stI a kd w set, (w : Int), set)))
        rw [ps_put_put, ps_put_put]
        exact hq _ (fun _ => hS.pt) (fun z => absurd (by omega) z)
      · refine r_iload dX5_compare_67 rfl (r_aload_n dX5_compare_69 (i := 0) rfl rfl (r_get dX5_compare_70 fl_X5_19 hS.1 rfl ?_))
        refine r_icmp_ge 92 dX5_compare_73 (by decide) (by omega) (by omega) (fun c2 => ?_) (fun c2 => ?_)
        · refine r_vret dX5_compare_92 rfl ?_
          exact hq _ (fun z => absurd z (by omega)) (fun _ => hS)
        · refine r_aload_n dX5_compare_76 (i := 0) rfl rfl (r_iload dX5_compare_77 rfl (r_put dX5_compare_79 fl_X5_19 hS.1 rfl rfl (Nat.le_of_ble_eq_true rfl) (r_aload_n dX5_compare_82 (i := 0) rfl rfl (r_iload_n dX5_compare_83 (i := 1) rfl rfl ?_))))
          refine r_put dX5_compare_84 fl_X5_23 ps_same rfl rfl (Nat.le_of_ble_eq_true rfl) (r_aload_n dX5_compare_87 (i := 0) rfl rfl (r_iload_n dX5_compare_88 (i := 2) rfl rfl (r_put dX5_compare_89 fl_X5_26 ps_same rfl rfl (Nat.le_of_ble_eq_true rfl) ?_)))
          refine r_vret dX5_compare_92 rfl ?_
          show Q (Sum.inl none) (ps_put (ps_put (ps_put S q (plO q (stI a kd w set, t.2.1, t.2.2))) q (plO q (stI a kd w set, (w : Int), t.2.2))) q (plO q (stI a kd w set, (w : Int), set)))
          rw [ps_put_put, ps_put_put]
          exact hq _ (fun _ => hS.pt) (fun z => absurd (by omega) z)
    · omega
  | succ r ih =>
    intro i hi
    have hdb := div_bd hs.1 (show set ≤ 64 by omega) (i : Int)
    have eS : stS a kd w set (i + 1) = stS a kd w set i + b2c (bt set (i : Int)) * trm (a (1 + (i : Int))) kd w := rfl
    have eR : stR set (i + 1) = stR set i + b2c (bt set (i : Int)) := rfl
    refine r_iload dX5_compare_8 rfl (r_bipush dX5_compare_10 (by decide) ?_)
    refine r_icmp_ge 45 dX5_compare_12 (by decide) (by omega) (by omega) (fun c1 => ?_) (fun c1 => ?_)
    · omega
    · refine r_iload_n dX5_compare_15 (i := 2) rfl rfl (r_iload dX5_compare_16 rfl ?_)
      refine r_ishr (set / 2 ^ (i : Int).toNat) dX5_compare_18 (q_shr ⟨by omega, by omega⟩ (by omega)) ?_
      refine r_iconst dX5_compare_19 ?_
      refine r_iand (set / 2 ^ (i : Int).toNat % 2) dX5_compare_20 (q_and1 (by omega) (by omega)) ?_
      refine r_if_eq 39 dX5_compare_21 (by decide) (by omega) (fun c2 => ?_) (fun c2 => ?_)
      · refine r_iinc dX5_compare_39 rfl rfl (r_goto 8 dX5_compare_42 (by decide) ?_)
        first
          | (have hb : ¬ bt set (i : Int) := fun z => by have z2 : set / 2 ^ (i : Int).toNat % 2 = 1 := z; omega
             rw [b2c_f hb, Int.zero_mul] at eS
             rw [b2c_f hb] at eR
             exact r_loc [(0, some (.ref q)), (1, some (vi (w : Int))), (2, some (vi set)), (3, some (vi (stR set (i + 1)))), (4, some (vi (stS a kd w set (i + 1)))), (5, some (vi ((i + 1 : Nat) : Int)))] ⟨Or.inl rfl, Or.inl rfl, Or.inl rfl, Or.inl (lvi_eq (by omega)), Or.inl (lvi_eq (by omega)), Or.inl rfl, trivial⟩ (ih (i + 1) (by omega)))
          | (have hb : bt set (i : Int) := by show set / 2 ^ (i : Int).toNat % 2 = 1; omega
             have hi6 : (i : Int) < a 0 := by
               rcases Int.lt_or_le (i : Int) (a 0) with z | z
               · exact z
               · exact absurd hb (bt_top hn hs ⟨z, by omega⟩)
             have hfi := hff i (by omega) hi6 hb
             rw [b2c_t hb, Int.one_mul] at eS
             rw [b2c_t hb] at eR
             exact r_loc [(0, some (.ref q)), (1, some (vi (w : Int))), (2, some (vi set)), (3, some (vi (stR set (i + 1)))), (4, some (vi (stS a kd w set (i + 1)))), (5, some (vi ((i + 1 : Nat) : Int)))] ⟨Or.inl rfl, Or.inl rfl, Or.inl rfl, Or.inl (lvi_eq (by omega)), Or.inl (lvi_eq (by omega)), Or.inl rfl, trivial⟩ (ih (i + 1) (by omega)))
      · refine r_iload dX5_compare_24 rfl (r_aload_n dX5_compare_26 (i := 0) rfl rfl (r_get dX5_compare_27 fl_X5_9 hS.1 rfl (r_iload dX5_compare_30 rfl (r_iald dX5_compare_32 hS.2.1 (by omega) (by omega) (by omega) ?_))))
        refine r_iadd dX5_compare_33 (r_istore dX5_compare_34 rfl (Nat.le_of_ble_eq_true rfl) (r_iinc dX5_compare_36 rfl rfl (r_iinc dX5_compare_39 rfl rfl (r_goto 8 dX5_compare_42 (by decide) ?_))))
        first
          | (have hb : ¬ bt set (i : Int) := fun z => by have z2 : set / 2 ^ (i : Int).toNat % 2 = 1 := z; omega
             rw [b2c_f hb, Int.zero_mul] at eS
             rw [b2c_f hb] at eR
             exact r_loc [(0, some (.ref q)), (1, some (vi (w : Int))), (2, some (vi set)), (3, some (vi (stR set (i + 1)))), (4, some (vi (stS a kd w set (i + 1)))), (5, some (vi ((i + 1 : Nat) : Int)))] ⟨Or.inl rfl, Or.inl rfl, Or.inl rfl, Or.inl (lvi_eq (by omega)), Or.inl (lvi_eq (by omega)), Or.inl rfl, trivial⟩ (ih (i + 1) (by omega)))
          | (have hb : bt set (i : Int) := by show set / 2 ^ (i : Int).toNat % 2 = 1; omega
             have hi6 : (i : Int) < a 0 := by
               rcases Int.lt_or_le (i : Int) (a 0) with z | z
               · exact z
               · exact absurd hb (bt_top hn hs ⟨z, by omega⟩)
             have hfi := hff i (by omega) hi6 hb
             rw [b2c_t hb, Int.one_mul] at eS
             rw [b2c_t hb] at eR
             exact r_loc [(0, some (.ref q)), (1, some (vi (w : Int))), (2, some (vi set)), (3, some (vi (stR set (i + 1)))), (4, some (vi (stS a kd w set (i + 1)))), (5, some (vi ((i + 1 : Nat) : Int)))] ⟨Or.inl rfl, Or.inl rfl, Or.inl rfl, Or.inl (lvi_eq (by omega)), Or.inl (lvi_eq (by omega)), Or.inl rfl, trivial⟩ (ih (i + 1) (by omega)))
theorem c_X5_compare {kd set : Int} {w : Nat} {S : PS} {t : Int × Int × Int} {ff fE : Int → Int} (hS : PlS S0 S q t ff fE) (hn : 0 ≤ a 0 ∧ a 0 ≤ 6) (hw : 1 ≤ w ∧ w ≤ 64) (hs : 0 ≤ set ∧ set ≤ 2 ^ (a 0).toNat - 1) (hff : FsOk a kd w set ff) (ht : -18 ≤ t.1 ∧ t.1 ≤ 100000) : PC g yX5_compare cX5_compare (iX5_compare mc ms) [.ref q, vi (w : Int), vi set] S (fun o S' => o = .inl none ∧ (t.1 = -1 ∨ stI a kd w set < t.1 → PlS S0 S' q (stI a kd w set, (w : Int), set) ff fE) ∧ (¬ (t.1 = -1 ∨ stI a kd w set < t.1) → PlS S0 S' q t ff fE)) := by
  refine PC_of pnX5 rfl rfl rfl (Nat.le_of_ble_eq_true rfl) ?_
  refine r_iconst dX5_compare_0 (r_istore_n dX5_compare_1 (i := 3) rfl rfl (Nat.le_of_ble_eq_true rfl) (r_iconst dX5_compare_2 (r_istore dX5_compare_3 rfl (Nat.le_of_ble_eq_true rfl) (r_iconst dX5_compare_5 ?_))))
  refine r_istore dX5_compare_6 rfl (Nat.le_of_ble_eq_true rfl) ?_
  exact r_loc [(0, some (.ref q)), (1, some (vi (w : Int))), (2, some (vi set)), (3, some (vi (stR set (0 : Nat)))), (4, some (vi (stS a kd w set (0 : Nat)))), (5, some (vi ((0 : Nat) : Int)))] ⟨Or.inl rfl, Or.inl rfl, Or.inl rfl, Or.inl rfl, Or.inl rfl, Or.inl rfl, trivial⟩ (l_cmp hS hn hw hs hff ht (fun S' h1 h2 => ⟨rfl, h1, h2⟩) 6 0 (by omega))
theorem l_meas {kd u : Int} {w : Nat} {t : Int × Int × Int} {fE : Int → Int} (hPr : PrAt S0 b F a) (hbq : b + 14 ≤ q) (hqF : q + 3 ≤ F) (hp : MP a) (hw : 1 ≤ w ∧ w ≤ 64) (hkd : RI kd) (hu : 0 ≤ u ∧ u ≤ 63) (hq : ∀ S' ff', PlS S0 S' q t ff' fE → FsOk a kd w u ff' → Q (.inl none) S') : ∀ (r i : Nat), (i : Int) + r = a 0 → ∀ S ff, PlS S0 S q t ff fE → (∀ j : Int, 0 ≤ j → j < i → bt u j → ff j = trm (a (1 + j)) kd w) →
    PW g cX5_measureFields (iX5_measureFields mc ms) 17 [(0, some (.ref q)), (1, some (.ref b)), (2, some (vi kd)), (3, some (vi (w : Int))), (4, some (vi u)), (5, some (vi (if kd = 2 then 4 * (w : Int) else (w : Int)))), (6, some (vi (i : Int)))] [] S kc ks Q := by
  intro r
  have hn := hp.1
  induction r with
  | zero =>
    intro i hi S ff hS hf
    have hP := hPr.frame hS.2.2.2.1 hbq hqF
    have h1 := hP.1
    refine r_iload dX5_measureFields_17 rfl (r_aload_n dX5_measureFields_19 (i := 1) rfl rfl (r_get dX5_measureFields_20 fl_X5_29 h1 rfl ?_))
    refine r_icmp_ge 80 dX5_measureFields_23 (by decide) (by omega) (by omega) (fun c1 => ?_) (fun c1 => ?_)
    · refine r_vret dX5_measureFields_80 rfl ?_
      exact hq _ _ hS (fun j j0 j1 j2 => hf j j0 (by omega) j2)
    · omega
  | succ r ih =>
    intro i hi S ff hS hf
    obtain ⟨h1, rr, h2, h3⟩ := hPr.frame hS.2.2.2.1 hbq hqF
    obtain ⟨y, y1, y2, f9, fc, y3, y4, y5⟩ := h3 (i : Int) (by omega) (by omega)
    obtain ⟨hpa, hpr, hpp⟩ := pN_ok hp (q := (i : Int)) (by omega)
    have hdb := div_bd hu.1 (show u ≤ 64 by omega) (i : Int)
    have hcs := csI_bd (pN a (i : Int) : Int) hw (bmI (pN a (i : Int) : Int) w)
    have hbm := bmI_bd (pN a (i : Int) : Int) w
    have eT : trm (a (1 + (i : Int))) kd w = 3 * csI (pN a (i : Int) : Int) w (bmI (pN a (i : Int) : Int) w) + (if kd = 2 then 4 * (w : Int) else (w : Int)) := by
      unfold trm
      rw [hpa]
      split <;> omega
    refine r_iload dX5_measureFields_17 rfl (r_aload_n dX5_measureFields_19 (i := 1) rfl rfl (r_get dX5_measureFields_20 fl_X5_29 h1 rfl ?_))
    refine r_icmp_ge 80 dX5_measureFields_23 (by decide) (by omega) (by omega) (fun c1 => ?_) (fun c1 => ?_)
    · omega
    · refine r_iload dX5_measureFields_26 rfl (r_iload dX5_measureFields_28 rfl ?_)
      refine r_ishr (u / 2 ^ (i : Int).toNat) dX5_measureFields_30 (q_shr ⟨by omega, by omega⟩ (by omega)) ?_
      refine r_iconst dX5_measureFields_31 ?_
      refine r_iand (u / 2 ^ (i : Int).toNat % 2) dX5_measureFields_32 (q_and1 (by omega) (by omega)) ?_
      refine r_if_eq 74 dX5_measureFields_33 (by decide) (by omega) (fun c2 => ?_) (fun c2 => ?_)
      · refine r_iinc dX5_measureFields_74 rfl rfl (r_goto 17 dX5_measureFields_77 (by decide) ?_)
        first
          | exact r_loc [(0, some (.ref q)), (1, some (.ref b)), (2, some (vi kd)), (3, some (vi (w : Int))), (4, some (vi u)), (5, some (vi (if kd = 2 then 4 * (w : Int) else (w : Int)))), (6, some (vi ((i + 1 : Nat) : Int)))] ⟨Or.inl rfl, Or.inl rfl, Or.inl rfl, Or.inl rfl, Or.inl rfl, Or.inl rfl, Or.inl rfl, trivial⟩ (ih (i + 1) (by omega) _ _ hS (fun j j0 j1 j2 => by
              by_cases e : j = i
              · subst e
                have z2 : u / 2 ^ (i : Int).toNat % 2 = 1 := j2
                omega
              · exact hf j j0 (by omega) j2))
          | exact r_loc [(0, some (.ref q)), (1, some (.ref b)), (2, some (vi kd)), (3, some (vi (w : Int))), (4, some (vi u)), (5, some (vi (if kd = 2 then 4 * (w : Int) else (w : Int)))), (6, some (vi ((i + 1 : Nat) : Int)))] ⟨Or.inl rfl, Or.inl rfl, Or.inl rfl, Or.inl rfl, Or.inl rfl, Or.inl rfl, Or.inl rfl, trivial⟩ (ih (i + 1) (by omega) _ _ hS.pf (fun j j0 j1 j2 => by
              by_cases e : j = i
              · subst e
                rw [upI_eq, eT]
              · rw [upI_ne e]
                exact hf j j0 (by omega) j2))
      · refine r_aload_n dX5_measureFields_36 (i := 1) rfl rfl (r_get dX5_measureFields_37 fl_X5_50 h1 rfl (r_iload dX5_measureFields_40 rfl (r_aald dX5_measureFields_42 h2 rfl (by omega) (by omega) (by omega) y1 (r_iload_n dX5_measureFields_43 (i := 3) rfl rfl ?_))))
        refine c_srN dX5_measureFields_44 (c_X9_cheapestMethod y3 hw hpr) rfl rfl mq_X9_cheapestMethod ml_X5_54 ⟨Nat.le_of_ble_eq_true rfl, Nat.le_of_ble_eq_true rfl⟩ rfl rfl (Nat.le_of_ble_eq_true rfl) (r_istore dX5_measureFields_47 rfl (Nat.le_of_ble_eq_true rfl) (r_aload_n dX5_measureFields_49 (i := 0) rfl rfl (r_get dX5_measureFields_50 fl_X5_9 hS.1 rfl (r_iload dX5_measureFields_53 rfl ?_))))
        refine r_iconst dX5_measureFields_55 (r_aload_n dX5_measureFields_56 (i := 1) rfl rfl (r_get dX5_measureFields_57 fl_X5_50 h1 rfl (r_iload dX5_measureFields_60 rfl (r_aald dX5_measureFields_62 h2 rfl (by omega) (by omega) (by omega) y1 ?_))))
        refine r_iload_n dX5_measureFields_63 (i := 3) rfl rfl (r_iload dX5_measureFields_64 rfl (c_srN dX5_measureFields_66 (c_X9_methodCost y3 hw hpr (by omega)) rfl rfl mq_X9_methodCost ml_X5_58 ⟨Nat.le_of_ble_eq_true rfl, Nat.le_of_ble_eq_true rfl⟩ rfl rfl (Nat.le_of_ble_eq_true rfl) (r_imul dX5_measureFields_69 (r_iload dX5_measureFields_70 rfl ?_))))
        refine r_iadd dX5_measureFields_72 (r_iast dX5_measureFields_73 hS.2.1 (by omega) (by omega) (by omega) (r_iinc dX5_measureFields_74 rfl rfl (r_goto 17 dX5_measureFields_77 (by decide) ?_)))
        first
          | exact r_loc [(0, some (.ref q)), (1, some (.ref b)), (2, some (vi kd)), (3, some (vi (w : Int))), (4, some (vi u)), (5, some (vi (if kd = 2 then 4 * (w : Int) else (w : Int)))), (6, some (vi ((i + 1 : Nat) : Int)))] ⟨Or.inl rfl, Or.inl rfl, Or.inl rfl, Or.inl rfl, Or.inl rfl, Or.inl rfl, Or.inl rfl, trivial⟩ (ih (i + 1) (by omega) _ _ hS (fun j j0 j1 j2 => by
              by_cases e : j = i
              · subst e
                have z2 : u / 2 ^ (i : Int).toNat % 2 = 1 := j2
                omega
              · exact hf j j0 (by omega) j2))
          | exact r_loc [(0, some (.ref q)), (1, some (.ref b)), (2, some (vi kd)), (3, some (vi (w : Int))), (4, some (vi u)), (5, some (vi (if kd = 2 then 4 * (w : Int) else (w : Int)))), (6, some (vi ((i + 1 : Nat) : Int)))] ⟨Or.inl rfl, Or.inl rfl, Or.inl rfl, Or.inl rfl, Or.inl rfl, Or.inl rfl, Or.inl rfl, trivial⟩ (ih (i + 1) (by omega) _ _ hS.pf (fun j j0 j1 j2 => by
              by_cases e : j = i
              · subst e
                rw [upI_eq, eT]
              · rw [upI_ne e]
                exact hf j j0 (by omega) j2))
theorem c_X5_measureFields {kd u : Int} {w : Nat} {S : PS} {t : Int × Int × Int} {ff fE : Int → Int} (hS : PlS S0 S q t ff fE) (hPr : PrAt S0 b F a) (hbq : b + 14 ≤ q) (hqF : q + 3 ≤ F) (hp : MP a) (hw : 1 ≤ w ∧ w ≤ 64) (hkd : RI kd) (hu : 0 ≤ u ∧ u ≤ 63) : PC g yX5_measureFields cX5_measureFields (iX5_measureFields mc ms) [.ref q, .ref b, vi kd, vi (w : Int), vi u] S (fun o S' => o = .inl none ∧ ∃ ff', PlS S0 S' q t ff' fE ∧ FsOk a kd w u ff') := by
  refine PC_of pnX5 rfl rfl rfl (Nat.le_of_ble_eq_true rfl) ?_
  refine r_iload_n dX5_measureFields_0 (i := 2) rfl rfl (r_iconst dX5_measureFields_1 ?_)
  refine r_icmp_ne 11 dX5_measureFields_2 (by decide) (by omega) (by omega) (fun c1 => ?_) (fun c1 => ?_)
  · refine r_iload_n dX5_measureFields_11 (i := 3) rfl rfl (r_istore dX5_measureFields_12 rfl (Nat.le_of_ble_eq_true rfl) (r_iconst dX5_measureFields_14 (r_istore dX5_measureFields_15 rfl (Nat.le_of_ble_eq_true rfl) ?_)))
    exact r_loc [(0, some (.ref q)), (1, some (.ref b)), (2, some (vi kd)), (3, some (vi (w : Int))), (4, some (vi u)), (5, some (vi (if kd = 2 then 4 * (w : Int) else (w : Int)))), (6, some (vi ((0 : Nat) : Int)))] ⟨Or.inl rfl, Or.inl rfl, Or.inl rfl, Or.inl rfl, Or.inl rfl, Or.inl (lvi_eq (by split <;> omega)), Or.inl rfl, trivial⟩ (l_meas hPr hbq hqF hp hw hkd hu (fun S' ff' h1 h2 => ⟨rfl, ff', h1, h2⟩) (a 0).toNat 0 (by have := hp.1; omega) S ff hS (fun j j0 j1 => by omega))
  · refine r_iconst dX5_measureFields_5 (r_iload_n dX5_measureFields_6 (i := 3) rfl rfl (r_imul dX5_measureFields_7 (r_goto 12 dX5_measureFields_8 (by decide) (r_istore dX5_measureFields_12 rfl (Nat.le_of_ble_eq_true rfl) ?_))))
    refine r_iconst dX5_measureFields_14 (r_istore dX5_measureFields_15 rfl (Nat.le_of_ble_eq_true rfl) ?_)
    exact r_loc [(0, some (.ref q)), (1, some (.ref b)), (2, some (vi kd)), (3, some (vi (w : Int))), (4, some (vi u)), (5, some (vi (if kd = 2 then 4 * (w : Int) else (w : Int)))), (6, some (vi ((0 : Nat) : Int)))] ⟨Or.inl rfl, Or.inl rfl, Or.inl rfl, Or.inl rfl, Or.inl rfl, Or.inl (lvi_eq (by split <;> omega)), Or.inl rfl, trivial⟩ (l_meas hPr hbq hqF hp hw hkd hu (fun S' ff' h1 h2 => ⟨rfl, ff', h1, h2⟩) (a 0).toNat 0 (by have := hp.1; omega) S ff hS (fun j j0 j1 => by omega))
end PLAN

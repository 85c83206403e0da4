/-! the class: LogarithmTable.fill, find; the face's logarithm -/
def LgS (S0 S : PS) (q : Nat) (pw ex : Int → Int) : Prop := S.1 q = some (lgO q) ∧ S.1 (q + 1) = some (cI 1024 pw) ∧ S.1 (q + 2) = some (cI 1024 ex) ∧ (∀ z : Nat, z < q ∨ q + 3 ≤ z → S.1 z = S0.1 z) ∧ S.2 = S0.2
theorem LgS.pw {S0 S : PS} {q : Nat} {pw pw' ex : Int → Int} (h : LgS S0 S q pw ex) : LgS S0 (ps_put S (q + 1) (cI 1024 pw')) q pw' ex :=
  ⟨ps_ne (by omega) h.1, ps_same, ps_ne (by omega) h.2.2.1, fun z hz => ps_ne (by omega) (h.2.2.2.1 z hz), h.2.2.2.2⟩
theorem LgS.ex {S0 S : PS} {q : Nat} {pw ex ex' : Int → Int} (h : LgS S0 S q pw ex) : LgS S0 (ps_put S (q + 2) (cI 1024 ex')) q pw ex' :=
  ⟨ps_ne (by omega) h.1, ps_ne (by omega) h.2.1, ps_same, fun z hz => ps_ne (by omega) (h.2.2.2.1 z hz), h.2.2.2.2⟩
section LOG2
variable {g : GT} {S0 : PS} {mc ms : Nat} {Q : PO → PS → Prop} {kc ks : Nat} {q y p e : Nat} {v1 v2 : Value}
theorem l_fill1 {ex : Int → Int} (hk : ∀ S pw, LgS S0 S q pw ex → (∀ z : Nat, z < 1024 → pw (z : Int) = 0) → PW g cX3_fill (iX3_fill mc ms) 22 [(0, some (.ref q)), (1, some (.ref y))] [] S kc ks Q) : ∀ (r i : Nat), i + r = 1024 → ∀ S pw, LgS S0 S q pw ex → (∀ z : Nat, z < i → pw (z : Int) = 0) →
    PW g cX3_fill (iX3_fill mc ms) 2 [(0, some (.ref q)), (1, some (.ref y)), (2, some (vi (i : Int)))] [] S kc ks Q := by
  intro r
  induction r with
  | zero =>
    intro i hi S pw hS hz
    refine r_iload_n dX3_fill_2 (i := 2) rfl rfl (r_sipush dX3_fill_3 (by decide) ?_)
    refine r_icmp_ge 22 dX3_fill_6 (by decide) (by omega) (by omega) (fun c1 => ?_) (fun c1 => ?_)
    · exact r_loc [(0, some (.ref q)), (1, some (.ref y))] ⟨Or.inl rfl, Or.inl rfl, trivial⟩ (hk S pw hS (fun z hz1 => hz z (by omega)))
    · omega
  | succ r ih =>
    intro i hi S pw hS hz
    refine r_iload_n dX3_fill_2 (i := 2) rfl rfl (r_sipush dX3_fill_3 (by decide) ?_)
    refine r_icmp_ge 22 dX3_fill_6 (by decide) (by omega) (by omega) (fun c1 => ?_) (fun c1 => ?_)
    · omega
    · refine r_aload_n dX3_fill_9 (i := 0) rfl rfl (r_get dX3_fill_10 fl_X3_11 hS.1 rfl (r_iload_n dX3_fill_13 (i := 2) rfl rfl (r_iconst dX3_fill_14 (r_iast dX3_fill_15 hS.2.1 (by omega) (by omega) (by omega) ?_))))
      refine r_iinc dX3_fill_16 rfl rfl (r_goto 2 dX3_fill_19 (by decide) ?_)
      exact r_loc [(0, some (.ref q)), (1, some (.ref y)), (2, some (vi ((i + 1 : Nat) : Int)))] ⟨Or.inl rfl, Or.inl rfl, Or.inl rfl, trivial⟩ (ih (i + 1) (by omega) _ _ hS.pw (fun z hz1 => by
        by_cases c : z = i
        · subst c
          exact upI_eq
        · rw [upI_ne (by omega)]
          exact hz z (by omega)))
def PwOk (pw : Int → Int) : Prop := ∀ z : Int, 0 ≤ z → z < 1024 → 0 ≤ pw z ∧ pw z ≤ 100003
theorem l_fill2 (hf : S0.1 y = some (cO 1 [vi (p : Int), v1, v2, vi (e : Int)])) (hy : q + 3 ≤ y) (hp : 3 ≤ p ∧ p ≤ 100003) (hpp : Pr p) (he : GenOf p e) (hk : ∀ S pw ex, LgS S0 S q pw ex → TB p e pw ex (min 317 (p - 1)) → PwOk pw → Q (.inl none) S) : ∀ (r k : Nat), k + r = min 317 (p - 1) → ∀ S pw ex, LgS S0 S q pw ex → TB p e pw ex k → PwOk pw →
    PW g cX3_fill (iX3_fill mc ms) 26 [(0, some (.ref q)), (1, some (.ref y)), (2, some (vi ((e ^ k % p : Nat) : Int))), (3, some (vi (k : Int)))] [] S kc ks Q := by
  intro r
  induction r with
  | zero =>
    intro k hr S pw ex hS hT hb
    have h1 : S.1 y = some (cO 1 [vi (p : Int), v1, v2, vi (e : Int)]) := by
      rw [hS.2.2.2.1 y (by omega)]
      exact hf
    refine r_iload_n dX3_fill_26 (i := 3) rfl rfl (r_sipush dX3_fill_27 (by decide) ?_)
    refine r_icmp_ge 82 dX3_fill_30 (by decide) (by omega) (by omega) (fun c1 => ?_) (fun c1 => ?_)
    · refine r_vret dX3_fill_82 rfl ?_
      have ek : k = min 317 (p - 1) := by omega
      subst ek
      exact hk S pw ex hS hT hb
    · refine r_iload_n dX3_fill_33 (i := 3) rfl rfl (r_aload_n dX3_fill_34 (i := 1) rfl rfl (r_get dX3_fill_35 fl_X3_42 h1 rfl (r_iconst dX3_fill_38 (r_isub dX3_fill_39 ?_))))
      refine r_icmp_ge 82 dX3_fill_40 (by decide) (by omega) (by omega) (fun c2 => ?_) (fun c2 => ?_)
      · refine r_vret dX3_fill_82 rfl ?_
        have ek : k = min 317 (p - 1) := by omega
        subst ek
        exact hk S pw ex hS hT hb
      · omega
  | succ r ih =>
    intro k hr S pw ex hS hT hb
    have h1 : S.1 y = some (cO 1 [vi (p : Int), v1, v2, vi (e : Int)]) := by
      rw [hS.2.2.2.1 y (by omega)]
      exact hf
    have hm := Nat.mod_lt (e ^ k) (show 0 < p by omega)
    obtain ⟨J, hJ⟩ := hT.fst (by omega) (e ^ k % p)
    have hT' := hT.add hpp hp.1 he (by omega) hJ
    have hS' : LgS S0 (ps_put (ps_put S (q + 1) (cI 1024 (upI pw (((e ^ k % p + J) % 1024 : Nat) : Int) ((e ^ k % p : Nat) : Int)))) (q + 2) (cI 1024 (upI ex (((e ^ k % p + J) % 1024 : Nat) : Int) (k : Int)))) q (upI pw (((e ^ k % p + J) % 1024 : Nat) : Int) ((e ^ k % p : Nat) : Int)) (upI ex (((e ^ k % p + J) % 1024 : Nat) : Int) (k : Int)) := hS.pw.ex
    have eN : (e ^ k % p) * e % p = e ^ (k + 1) % p := by
      rw [Nat.mod_mul_mod, Nat.pow_succ]
    have hc5 : PC g yX1_times cX1_times (iX1_times 0 0) [.ref y, vi ((e ^ k % p : Nat) : Int), vi (e : Int)] (ps_put (ps_put S (q + 1) (cI 1024 (upI pw (((e ^ k % p + J) % 1024 : Nat) : Int) ((e ^ k % p : Nat) : Int)))) (q + 2) (cI 1024 (upI ex (((e ^ k % p + J) % 1024 : Nat) : Int) (k : Int)))) (Rt (some (vi ((e ^ (k + 1) % p : Nat) : Int))) (ps_put (ps_put S (q + 1) (cI 1024 (upI pw (((e ^ k % p + J) % 1024 : Nat) : Int) ((e ^ k % p : Nat) : Int)))) (q + 2) (cI 1024 (upI ex (((e ^ k % p + J) % 1024 : Nat) : Int) (k : Int))))) := by
      rw [← eN]
      exact c_X1_times (ps_ne (by omega) (ps_ne (by omega) h1)) hp hm he.2.1
    refine r_iload_n dX3_fill_26 (i := 3) rfl rfl (r_sipush dX3_fill_27 (by decide) ?_)
    refine r_icmp_ge 82 dX3_fill_30 (by decide) (by omega) (by omega) (fun c1 => ?_) (fun c1 => ?_)
    · omega
    · refine r_iload_n dX3_fill_33 (i := 3) rfl rfl (r_aload_n dX3_fill_34 (i := 1) rfl rfl (r_get dX3_fill_35 fl_X3_42 h1 rfl (r_iconst dX3_fill_38 (r_isub dX3_fill_39 ?_))))
      refine r_icmp_ge 82 dX3_fill_40 (by decide) (by omega) (by omega) (fun c2 => ?_) (fun c2 => ?_)
      · omega
      · refine r_aload_n dX3_fill_43 (i := 0) rfl rfl (r_iload_n dX3_fill_44 (i := 2) rfl rfl (c_vr dX3_fill_45 (c_X3_placeOf hS.1 hS.2.1 (by omega) hb hJ) rfl rfl mq_X3_placeOf ml_X3_36 ⟨Nat.le_of_ble_eq_true rfl, Nat.le_of_ble_eq_true rfl⟩ hS.1 rfl rfl rfl (Nat.le_of_ble_eq_true rfl) (r_istore dX3_fill_48 rfl (Nat.le_of_ble_eq_true rfl) (r_aload_n dX3_fill_50 (i := 0) rfl rfl ?_))))
        refine r_get dX3_fill_51 fl_X3_11 hS.1 rfl (r_iload dX3_fill_54 rfl (r_iload_n dX3_fill_56 (i := 2) rfl rfl (r_iast dX3_fill_57 hS.2.1 (by omega) (by omega) (by omega) (r_aload_n dX3_fill_58 (i := 0) rfl rfl ?_))))
        refine r_get dX3_fill_59 fl_X3_15 (ps_ne (by omega) hS.1) rfl (r_iload dX3_fill_62 rfl (r_iload_n dX3_fill_64 (i := 3) rfl rfl (r_iast dX3_fill_65 (ps_ne (by omega) hS.2.2.1) (by omega) (by omega) (by omega) ?_)))
        refine r_aload_n dX3_fill_66 (i := 1) rfl rfl (r_iload_n dX3_fill_67 (i := 2) rfl rfl (r_aload_n dX3_fill_68 (i := 1) rfl rfl (r_get dX3_fill_69 fl_X3_22 (ps_ne (by omega) (ps_ne (by omega) h1)) rfl (c_vr dX3_fill_72 (hc5) rfl rfl mq_X1_times ml_X3_39 ⟨Nat.le_of_ble_eq_true rfl, Nat.le_of_ble_eq_true rfl⟩ (ps_ne (by omega) (ps_ne (by omega) h1)) rfl rfl rfl (Nat.le_of_ble_eq_true rfl) ?_))))
        refine r_istore_n dX3_fill_75 (i := 2) rfl rfl (Nat.le_of_ble_eq_true rfl) (r_iinc dX3_fill_76 rfl rfl (r_goto 26 dX3_fill_79 (by decide) ?_))
        exact r_loc [(0, some (.ref q)), (1, some (.ref y)), (2, some (vi ((e ^ (k + 1) % p : Nat) : Int))), (3, some (vi ((k + 1 : Nat) : Int)))] ⟨Or.inl rfl, Or.inl rfl, Or.inl rfl, Or.inl rfl, trivial⟩ (ih (k + 1) (by omega) _ _ _ hS' hT' (fun z z0 z1 => by
          by_cases c : z = (((e ^ k % p + J) % 1024 : Nat) : Int)
          · rw [c, upI_eq]
            omega
          · rw [upI_ne c]
            exact hb z z0 z1))
theorem c_X3_fill {S : PS} {pw ex : Int → Int} (h0 : S.1 q = some (lgO q)) (h1 : S.1 (q + 1) = some (cI 1024 pw)) (h2 : S.1 (q + 2) = some (cI 1024 ex)) (hf : S.1 y = some (cO 1 [vi (p : Int), v1, v2, vi (e : Int)])) (hy : q + 3 ≤ y) (hp : 3 ≤ p ∧ p ≤ 100003) (hpp : Pr p) (he : GenOf p e) : PC g yX3_fill cX3_fill (iX3_fill mc ms) [.ref q, .ref y] S (fun o S' => o = .inl none ∧ ∃ pw ex, LgS S S' q pw ex ∧ TB p e pw ex (min 317 (p - 1)) ∧ PwOk pw) := by
  have hS : LgS S S q pw ex := ⟨h0, h1, h2, fun _ _ => rfl, rfl⟩
  refine PC_of pnX3 rfl rfl rfl (Nat.le_of_ble_eq_true rfl) ?_
  refine r_iconst dX3_fill_0 (r_istore_n dX3_fill_1 (i := 2) rfl rfl (Nat.le_of_ble_eq_true rfl) ?_)
  refine r_loc [(0, some (.ref q)), (1, some (.ref y)), (2, some (vi ((0 : Nat) : Int)))] ⟨Or.inl rfl, Or.inl rfl, Or.inl rfl, trivial⟩ (l_fill1 (S0 := S) (fun S1 pw1 hS1 hz => ?_) 1024 0 (by omega) S pw hS (fun z hz => by omega))
  refine r_iconst dX3_fill_22 (r_istore_n dX3_fill_23 (i := 2) rfl rfl (Nat.le_of_ble_eq_true rfl) (r_iconst dX3_fill_24 (r_istore_n dX3_fill_25 (i := 3) rfl rfl (Nat.le_of_ble_eq_true rfl) ?_)))
  have e1 : 1 % p = 1 := Nat.mod_eq_of_lt (by omega)
  exact r_loc [(0, some (.ref q)), (1, some (.ref y)), (2, some (vi ((e ^ 0 % p : Nat) : Int))), (3, some (vi ((0 : Nat) : Int)))] ⟨Or.inl rfl, Or.inl rfl, Or.inl (lvi_eq (by rw [Nat.pow_zero, e1]; rfl)), Or.inl rfl, trivial⟩ (l_fill2 hf hy hp hpp he (fun S2 pw2 ex2 a1 a2 a3 => ⟨rfl, pw2, ex2, a1, a2, a3⟩) (min 317 (p - 1)) 0 (by omega) S1 pw1 ex hS1 (TB.nil hz) (fun z z0 z1 => by
    obtain ⟨i, rfl⟩ := Int.eq_ofNat_of_zero_le z0
    rw [hz i (by omega)]
    omega))
theorem l_find {S : PS} {pw ex : Int → Int} {N B : Nat} {u0 : Int} (hS : LgS S0 S q pw ex) (hf : S.1 y = some (cO 1 [vi (p : Int), v1, v2, vi (e : Int)])) (hp : 3 ≤ p ∧ p ≤ 100003) (hpp : Pr p) (he : GenOf p e) (hT : TB p e pw ex (min 317 (p - 1))) (hb : PwOk pw) (hN : N < p - 1) (hB : B < p) (hBg : e ^ 317 * B % p = 1) (hq : Q (.inl (some (vi (N : Int)))) S) : ∀ (r s : Nat), s + r = N / 317 →
    PW g cX3_find (iX3_find mc ms) 27 [(0, some (.ref q)), (1, some (.ref y)), (2, some (vi u0)), (3, some (vi (B : Int))), (4, some (vi ((e ^ (N - 317 * s) % p : Nat) : Int))), (5, some (vi (s : Int)))] [] S kc ks Q := by
  intro r
  induction r with
  | zero =>
    intro s hs
    have hm := Nat.mod_lt (e ^ (N - 317 * s)) (show 0 < p by omega)
    obtain ⟨J, hJ⟩ := hT.fst (by omega) (e ^ (N - 317 * s) % p)
    obtain ⟨y1, y2⟩ := hT.yes (i := N - 317 * s) (by omega) hJ
    have hbp := hb (((e ^ (N - 317 * s) % p + J) % 1024 : Nat) : Int) (by omega) (by omega)
    refine r_iload dX3_find_27 rfl (r_sipush dX3_find_29 (by decide) ?_)
    refine r_icmp_ge 85 dX3_find_32 (by decide) (by omega) (by omega) (fun c1 => ?_) (fun c1 => ?_)
    · omega
    · refine r_aload_n dX3_find_35 (i := 0) rfl rfl (r_iload dX3_find_36 rfl (c_vr dX3_find_38 (c_X3_placeOf hS.1 hS.2.1 (by omega) hb hJ) rfl rfl mq_X3_placeOf ml_X3_36 ⟨Nat.le_of_ble_eq_true rfl, Nat.le_of_ble_eq_true rfl⟩ hS.1 rfl rfl rfl (Nat.le_of_ble_eq_true rfl) (r_istore dX3_find_41 rfl (Nat.le_of_ble_eq_true rfl) (r_aload_n dX3_find_43 (i := 0) rfl rfl ?_))))
      refine r_get dX3_find_44 fl_X3_11 hS.1 rfl (r_iload dX3_find_47 rfl (r_iald dX3_find_49 hS.2.1 (by omega) (by omega) (by omega) (r_iload dX3_find_50 rfl ?_)))
      refine r_icmp_ne 70 dX3_find_52 (by decide) (by omega) (by omega) (fun c2 => ?_) (fun c2 => ?_)
      · omega
      · refine r_iload dX3_find_55 rfl (r_sipush dX3_find_57 (by decide) (r_imul dX3_find_60 (r_aload_n dX3_find_61 (i := 0) rfl rfl (r_get dX3_find_62 fl_X3_15 hS.1 rfl ?_))))
        refine r_iload dX3_find_65 rfl (r_iald dX3_find_67 hS.2.2.1 (by omega) (by omega) (by omega) (r_iadd dX3_find_68 ?_))
        refine r_iret dX3_find_69 rfl rfl ?_
        have hq' : Q (.inl (some (vi ((s : Int) * 317 + ex (((e ^ (N - 317 * s) % p + J) % 1024 : Nat) : Int))))) S := by
          rw [y2, show (s : Int) * 317 + ((N - 317 * s : Nat) : Int) = (N : Int) by omega]
          exact hq
        exact hq'
  | succ r ih =>
    intro s hs
    have hm := Nat.mod_lt (e ^ (N - 317 * s)) (show 0 < p by omega)
    obtain ⟨J, hJ⟩ := hT.fst (by omega) (e ^ (N - 317 * s) % p)
    have hno := hT.no (v := e ^ (N - 317 * s) % p) (fun i hi hc => by have := gpow_inj hpp hp.1 he (by omega) (by omega) hc; omega) (gpow_pos hpp he _) hJ
    have hpos := gpow_pos hpp he (N - 317 * s)
    have hbp := hb (((e ^ (N - 317 * s) % p + J) % 1024 : Nat) : Int) (by omega) (by omega)
    have eN : (e ^ (N - 317 * s) % p) * B % p = e ^ (N - 317 * (s + 1)) % p := by
      rw [show N - 317 * s = (N - 317 * (s + 1)) + 317 by omega, Nat.pow_add, Nat.mod_mul_mod, Nat.mul_assoc, Nat.mul_mod, hBg, Nat.mul_one, Nat.mod_mod]
    have hc5 : PC g yX1_times cX1_times (iX1_times 0 0) [.ref y, vi ((e ^ (N - 317 * s) % p : Nat) : Int), vi (B : Int)] S (Rt (some (vi ((e ^ (N - 317 * (s + 1)) % p : Nat) : Int))) S) := by
      rw [← eN]
      exact c_X1_times hf hp hm hB
    refine r_iload dX3_find_27 rfl (r_sipush dX3_find_29 (by decide) ?_)
    refine r_icmp_ge 85 dX3_find_32 (by decide) (by omega) (by omega) (fun c1 => ?_) (fun c1 => ?_)
    · omega
    · refine r_aload_n dX3_find_35 (i := 0) rfl rfl (r_iload dX3_find_36 rfl (c_vr dX3_find_38 (c_X3_placeOf hS.1 hS.2.1 (by omega) hb hJ) rfl rfl mq_X3_placeOf ml_X3_36 ⟨Nat.le_of_ble_eq_true rfl, Nat.le_of_ble_eq_true rfl⟩ hS.1 rfl rfl rfl (Nat.le_of_ble_eq_true rfl) (r_istore dX3_find_41 rfl (Nat.le_of_ble_eq_true rfl) (r_aload_n dX3_find_43 (i := 0) rfl rfl ?_))))
      refine r_get dX3_find_44 fl_X3_11 hS.1 rfl (r_iload dX3_find_47 rfl (r_iald dX3_find_49 hS.2.1 (by omega) (by omega) (by omega) (r_iload dX3_find_50 rfl ?_)))
      refine r_icmp_ne 70 dX3_find_52 (by decide) (by omega) (by omega) (fun c2 => ?_) (fun c2 => ?_)
      · refine r_aload_n dX3_find_70 (i := 1) rfl rfl (r_iload dX3_find_71 rfl (r_iload_n dX3_find_73 (i := 3) rfl rfl (c_vr dX3_find_74 (hc5) rfl rfl mq_X1_times ml_X3_39 ⟨Nat.le_of_ble_eq_true rfl, Nat.le_of_ble_eq_true rfl⟩ hf rfl rfl rfl (Nat.le_of_ble_eq_true rfl) (r_istore dX3_find_77 rfl (Nat.le_of_ble_eq_true rfl) ?_))))
        refine r_iinc dX3_find_79 rfl rfl (r_goto 27 dX3_find_82 (by decide) ?_)
        exact r_loc [(0, some (.ref q)), (1, some (.ref y)), (2, some (vi u0)), (3, some (vi (B : Int))), (4, some (vi ((e ^ (N - 317 * (s + 1)) % p : Nat) : Int))), (5, some (vi ((s + 1 : Nat) : Int)))] ⟨Or.inl rfl, Or.inl rfl, Or.inl rfl, Or.inl rfl, Or.inl rfl, Or.inl rfl, trivial⟩ (ih (s + 1) (by omega))
      · refine r_iload dX3_find_55 rfl (r_sipush dX3_find_57 (by decide) (r_imul dX3_find_60 (r_aload_n dX3_find_61 (i := 0) rfl rfl (r_get dX3_find_62 fl_X3_15 hS.1 rfl ?_))))
        refine r_iload dX3_find_65 rfl (r_iald dX3_find_67 hS.2.2.1 (by omega) (by omega) (by omega) (r_iadd dX3_find_68 ?_))
        refine r_iret dX3_find_69 rfl rfl ?_
        omega
/-- the inverse by Fermat -/
theorem inv_ok {p x : Nat} (hp : Pr p) (h3 : 3 ≤ p) (hx : 0 < x ∧ x < p) : x * (x ^ (p - 2) % p) % p = 1 := by
  have hf := fermat hp (show ¬ p ∣ x from fun hd => by have := Nat.le_of_dvd hx.1 hd; omega)
  rw [show p - 1 = (p - 2) + 1 by omega, Nat.pow_succ, Nat.mul_comm] at hf
  rw [Nat.mul_mod_mod]
  exact hf
theorem c_X3_find {S : PS} {pw ex : Int → Int} {u : Nat} (h0 : S.1 q = some (lgO q)) (h1 : S.1 (q + 1) = some (cI 1024 pw)) (h2 : S.1 (q + 2) = some (cI 1024 ex)) (hf : S.1 y = some (cO 1 [vi (p : Int), v1, v2, vi (e : Int)])) (hy : q + 3 ≤ y) (hp : 3 ≤ p ∧ p ≤ 100003) (hpp : Pr p) (he : GenOf p e) (hu : 0 < u ∧ u < p) : PC g yX3_find cX3_find (iX3_find mc ms) [.ref q, .ref y, vi (u : Int)] S (fun o S' => o = .inl (some (vi (logN p e u : Int))) ∧ ∃ pw ex, LgS S S' q pw ex) := by
  refine PC_of pnX3 rfl rfl rfl (Nat.le_of_ble_eq_true rfl) ?_
  refine r_aload_n dX3_find_0 (i := 0) rfl rfl (r_aload_n dX3_find_1 (i := 1) rfl rfl ?_)
  refine c_vq dX3_find_2 (c_X3_fill h0 h1 h2 hf hy hp hpp he) rfl rfl mq_X3_fill ml_X3_18 ⟨Nat.le_of_ble_eq_true rfl, Nat.le_of_ble_eq_true rfl⟩ h0 rfl rfl rfl (Nat.le_of_ble_eq_true rfl) (fun E S' h => by simp at h) (fun v S' hq => ?_)
  obtain ⟨d1, pw1, ex1, hS, hT, hb⟩ := hq
  cases d1
  have hf' : S'.1 y = some (cO 1 [vi (p : Int), v1, v2, vi (e : Int)]) := by
    rw [hS.2.2.2.1 y (by omega)]
    exact hf
  obtain ⟨hL, hN⟩ := logN_ok hpp hp.1 he hu
  have hm := Nat.mod_lt (e ^ 317) (show 0 < p by omega)
  have hg := gpow_pos hpp he 317
  have hiv := inv_ok hpp hp.1 (x := e ^ 317 % p) ⟨hg, hm⟩
  rw [Nat.mod_mul_mod] at hiv
  have hBl := Nat.mod_lt ((e ^ 317 % p) ^ (p - 2)) (show 0 < p by omega)
  show PW _ _ _ 5 _ [] _ _ _ _
  refine r_aload_n dX3_find_5 (i := 1) rfl rfl (r_aload_n dX3_find_6 (i := 1) rfl rfl (r_aload_n dX3_find_7 (i := 1) rfl rfl (r_get dX3_find_8 fl_X3_22 hf' rfl (r_sipush dX3_find_11 (by decide) ?_))))
  refine c_vr dX3_find_14 (c_X1_raise (e := 317) hf' hp he.2.1 (by omega)) rfl rfl mq_X1_raise ml_X3_28 ⟨Nat.le_of_ble_eq_true rfl, Nat.le_of_ble_eq_true rfl⟩ hf' rfl rfl rfl (Nat.le_of_ble_eq_true rfl) (c_vr dX3_find_17 (c_X1_invert hf' hp hm) rfl rfl mq_X1_invert ml_X3_32 ⟨Nat.le_of_ble_eq_true rfl, Nat.le_of_ble_eq_true rfl⟩ hf' rfl rfl rfl (Nat.le_of_ble_eq_true rfl) (r_istore_n dX3_find_20 (i := 3) rfl rfl (Nat.le_of_ble_eq_true rfl) (r_iload_n dX3_find_21 (i := 2) rfl rfl (r_istore dX3_find_22 rfl (Nat.le_of_ble_eq_true rfl) ?_))))
  refine r_iconst dX3_find_24 (r_istore dX3_find_25 rfl (Nat.le_of_ble_eq_true rfl) ?_)
  refine r_loc [(0, some (.ref q)), (1, some (.ref y)), (2, some (vi (u : Int))), (3, some (vi (((e ^ 317 % p) ^ (p - 2) % p : Nat) : Int))), (4, some (vi ((e ^ (logN p e u - 317 * 0) % p : Nat) : Int))), (5, some (vi ((0 : Nat) : Int)))] ⟨Or.inl rfl, Or.inl rfl, Or.inl rfl, Or.inl rfl, Or.inl (lvi_eq (by rw [Nat.mul_zero, Nat.sub_zero, hL.1])), Or.inl rfl, trivial⟩ ?_
  exact l_find hS hf' hp hpp he hT hb hN hBl hiv ⟨rfl, pw1, ex1, hS⟩ (logN p e u / 317) 0 (by omega)
end LOG2
section FACE8
variable {g : GT} {S : PS} {mc ms : Nat} {x F : Nat} {a : Int → Int} {H : Int → Int → Int} {nx ct fd ea : Int} {tx : Int → Int}
theorem lgs_cx (hC : CX S x F a H nx ct fd ea tx) {S' : PS} {pw ex : Int → Int} (h : LgS S S' (x + 145) pw ex) : CX S' x F a H nx ct fd ea tx ∧ FrC x S S' := by
  obtain ⟨h0, h1, h2, ⟨h3, h4⟩, h5, h6, h7, h8⟩ := hC
  obtain ⟨p1, p2, p3, p4, p5⟩ := h
  have he : Ext F S S' := fun z hz c hc => by
    rw [p4 z (by omega)]
    exact hc
  exact ⟨⟨h0, by rw [p4 x (by omega)]; exact h1, h2.frame he (fun z z1 z2 => p4 z (by omega)), ⟨h3.frame he (fun z z1 z2 => p4 z (by omega)), h4⟩, h5.frame he (fun z z1 z2 => p4 z (by omega)), ⟨p1, ⟨_, p2⟩, _, p3⟩, h7.frame (fun z z1 z2 => p4 z (by omega)), h8.frame (fun z z1 z2 => p4 z (by omega))⟩, fun z c hz hc => by rw [p4 z (by omega)]; exact hc, by rw [p5]; exact Nat.le_refl _⟩
theorem c_X9_logarithm {q v : Int} (hC : CX S x F a H nx ct fd ea tx) (hp : MP a) (hqr : RI q) (hv : RI v) (hm : 1 ≤ mc) (hm2 : 6 ≤ ms) : PC g yX9_logarithm cX9_logarithm (iX9_logarithm mc ms) [.ref x, vi q, vi v] S (Out ["java/lang/IndexOutOfBoundsException", "java/util/NoSuchElementException"] (noUnitI a q v) (vi (logN (pN a q) (genN (pN a q)) (uN a q v) : Int)) S (fun S' => CX S' x F a H nx ct fd ea tx ∧ FrC x S S')) := by
  have h0 := hp.1
  have hx := hC.2.1
  have hb := hC.2.2.1
  have hF := hC.1
  obtain ⟨t0, ⟨pw, t1⟩, ex, t2⟩ := hC.2.2.2.2.2.1
  refine PC_of pnX9 rfl rfl rfl (Nat.le_of_ble_eq_true rfl) ?_
  refine r_bud (kc' := 1) (ks' := 6) hm hm2 ?_
  refine r_aload_n dX9_logarithm_0 (i := 0) rfl rfl (r_iload_n dX9_logarithm_1 (i := 1) rfl rfl ?_)
  by_cases hq : 0 ≤ q ∧ q ≤ a 0 - 1
  rotate_left
  · exact c_vx (E := "") dX9_logarithm_2 (c_X9_fieldAt0 (mc := 1) (ms := 6) hx hb.1.1 h0 hqr hq (by omega) (by omega)) rfl mq_X9_fieldAt ml_X9_109 ⟨Nat.le_of_ble_eq_true rfl, Nat.le_of_ble_eq_true rfl⟩ hx rfl rfl rfl (Nat.le_of_ble_eq_true rfl) (by show 1 ≤ 1; omega) (by show 6 ≤ 6; omega) (fun o S' ho => ⟨_, ho.1, Out.th 0 (by unfold noUnitI; rw [if_neg hq]; rfl) rfl ⟨rfl, ho.2⟩⟩)
  obtain ⟨r, y, ff, fc, h2, y1, y2, f1, f2, f3, hpa, hpr, hpp⟩ := fld_at hb hp hq
  have m1 := Int.emod_nonneg v (show (pN a q : Int) ≠ 0 by omega)
  have m2 := Int.emod_lt_of_pos v (show (0 : Int) < pN a q by omega)
  refine c_vr dX9_logarithm_2 (c_X9_fieldAt1 hx hb.1.1 h2 h0 hqr hq y1) rfl rfl mq_X9_fieldAt ml_X9_109 ⟨Nat.le_of_ble_eq_true rfl, Nat.le_of_ble_eq_true rfl⟩ hx rfl rfl rfl (Nat.le_of_ble_eq_true rfl) (r_astore_n dX9_logarithm_5 (i := 3) rfl rfl (Nat.le_of_ble_eq_true rfl) (r_aload_n dX9_logarithm_6 (i := 0) rfl rfl (r_get dX9_logarithm_7 fl_X9_33 hx rfl (r_aload_n dX9_logarithm_10 (i := 3) rfl rfl ?_))))
  refine r_aload_n dX9_logarithm_11 (i := 3) rfl rfl (r_iload_n dX9_logarithm_12 (i := 2) rfl rfl ?_)
  by_cases hu : v % (pN a q : Int) ≠ 0
  rotate_left
  · exact c_sx dX9_logarithm_13 (c_X9_unitOf0 (mc := 1) (ms := 6) f1 hpr hv (by omega) (by omega) (by omega)) rfl mq_X9_unitOf ml_X9_146 ⟨Nat.le_of_ble_eq_true rfl, Nat.le_of_ble_eq_true rfl⟩ rfl rfl (Nat.le_of_ble_eq_true rfl) (by show 1 ≤ 1; omega) (by show 6 ≤ 6; omega) (fun o S' ho => ⟨_, ho.1, Out.th 1 (by unfold noUnitI; rw [if_pos hq, hpa, if_pos (by omega)]; rfl) rfl ⟨rfl, ho.2⟩⟩)
  have huN : v % (pN a q : Int) = (uN a q v : Int) := by unfold uN; rw [hpa]; omega
  have hu2 : 0 < uN a q v ∧ uN a q v < pN a q := by omega
  have hcu : PC g yX9_unitOf cX9_unitOf (iX9_unitOf 0 0) [.ref y, vi v] S (Rt (some (vi (uN a q v : Int))) S) := by rw [← huN]; exact c_X9_unitOf1 f1 hpr hv hu
  refine c_sr dX9_logarithm_13 (hcu) rfl rfl mq_X9_unitOf ml_X9_146 ⟨Nat.le_of_ble_eq_true rfl, Nat.le_of_ble_eq_true rfl⟩ rfl rfl (Nat.le_of_ble_eq_true rfl) ?_
  refine c_vq dX9_logarithm_16 (c_X3_find t0 t1 t2 f1 (by omega) hpr hpp (genN_ok hpp hpr.1) hu2) rfl rfl mq_X3_find ml_X9_156 ⟨Nat.le_of_ble_eq_true rfl, Nat.le_of_ble_eq_true rfl⟩ t0 rfl rfl rfl (Nat.le_of_ble_eq_true rfl) (fun E S' h => by simp at h) (fun v S' hk => ?_)
  obtain ⟨d1, pw', ex', hS⟩ := hk
  cases d1
  show PW _ _ _ 19 _ [vi (logN (pN a q) (genN (pN a q)) (uN a q v) : Int)] _ _ _ _
  refine r_iret dX9_logarithm_19 rfl rfl ?_
  exact Out.ok (by unfold noUnitI; rw [if_pos hq, hpa, if_neg hu]) rfl (lgs_cx hC hS)
end FACE8

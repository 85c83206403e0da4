/-! the class: LogarithmTable: the table -/
theorem q_and1023 {x : Int} (h : RI x) : Int32.ofInt x &&& Int32.ofInt 1023 = Int32.ofInt (x % 1024) := by
  rw [pk_and _ 10 (show (Int32.ofInt 1023).toBitVec.toNat = 2 ^ 10 - 1 by decide)]
  show Int32.ofInt (((BitVec.ofInt 32 x).toNat % 2 ^ 10 : Nat) : Int) = _
  rw [BitVec.toNat_ofInt]
  congr 1
  have h1 := h.1
  have h2 := h.2
  omega
/-- the powers of a generator are different and not 0 -/
theorem gpow_pos {p e : Nat} (hp : Pr p) (he : GenOf p e) (i : Nat) : 0 < e ^ i % p := by
  have hnd : ¬ p ∣ e := fun hd => by have := Nat.le_of_dvd (by have := he.1; omega) hd; have := he.2.1; omega
  rcases Nat.eq_zero_or_pos (e ^ i % p) with z | z
  · exact absurd (pr_pow hp i (Nat.dvd_of_mod_eq_zero z)) hnd
  · exact z
theorem gpow_inj {p e : Nat} (hp : Pr p) (h3 : 3 ≤ p) (he : GenOf p e) {i j : Nat} (hi : i < p - 1) (hj : j < p - 1) (h : e ^ i % p = e ^ j % p) : i = j := by
  have hnd : ¬ p ∣ e := fun hd => by have := Nat.le_of_dvd (by have := he.1; omega) hd; have := he.2.1; omega
  have hlo := gen_ord hp h3 hnd he.2.2.1
  have main : ∀ i j, i < j → j < p - 1 → e ^ i % p ≠ e ^ j % p := fun i j h1 h2 h => by
    have e1 : j = i + (j - i) := by omega
    rw [e1, Nat.pow_add] at h
    have h4 : e ^ i * 1 % p = e ^ i * e ^ (j - i) % p := by rw [Nat.mul_one]; exact h
    have h5 := cancel hp (fun hd => hnd (pr_pow hp i hd)) h4
    rw [Nat.mod_eq_of_lt (show 1 < p by omega)] at h5
    exact hlo.2.2 (j - i) (by omega) (by omega) h5.symm
  rcases Nat.lt_trichotomy i j with z | z | z
  · exact absurd h (main i j z hj)
  · exact z
  · exact absurd h.symm (main j i z hi)
theorem least_ex {P : Nat → Prop} : ∀ n : Nat, (∃ j, j < n ∧ P j) → ∃ j, j < n ∧ P j ∧ ∀ i, i < j → ¬ P i
  | 0, ⟨j, hj, _⟩ => absurd hj (Nat.not_lt_zero j)
  | n + 1, ⟨j, hj, hP⟩ => by
    by_cases h : ∃ j, j < n ∧ P j
    · obtain ⟨j, h1, h2, h3⟩ := least_ex n h
      exact ⟨j, by omega, h2, h3⟩
    · have e : j = n := by
        rcases Nat.lt_or_ge j n with z | z
        · exact absurd ⟨j, z, hP⟩ h
        · omega
      subst e
      exact ⟨j, by omega, hP, fun i hi hPi => h ⟨i, hi, hPi⟩⟩
/-- place i of the search for v stops it -/
def Hit (pw : Int → Int) (v i : Nat) : Prop := pw (((v + i) % 1024 : Nat) : Int) = (v : Int) ∨ pw (((v + i) % 1024 : Nat) : Int) = 0
def Fst (pw : Int → Int) (v J : Nat) : Prop := J < 1024 ∧ Hit pw v J ∧ ∀ i, i < J → ¬ Hit pw v i
/-- k powers lie in the table -/
def TB (p e : Nat) (pw ex : Int → Int) (k : Nat) : Prop := ∃ J : Nat → Nat, (∀ i, i < k → Fst pw (e ^ i % p) (J i) ∧ pw (((e ^ i % p + J i) % 1024 : Nat) : Int) = ((e ^ i % p : Nat) : Int) ∧ ex (((e ^ i % p + J i) % 1024 : Nat) : Int) = (i : Int)) ∧ ∀ z : Nat, z < 1024 → pw (z : Int) = 0 ∨ ∃ i, i < k ∧ pw (z : Int) = ((e ^ i % p : Nat) : Int) ∧ z = (e ^ i % p + J i) % 1024
theorem TB.free {p e k : Nat} {pw ex : Int → Int} (h : TB p e pw ex k) (hk : k ≤ 317) : ∃ z : Nat, z < 1024 ∧ pw (z : Int) = 0 := by
  obtain ⟨J, h1, h2⟩ := h
  rcases Classical.em (∃ z : Nat, z < 1024 ∧ pw (z : Int) = 0) with hz | hz
  · exact hz
  · exfalso
    have h3 : ∀ z : Nat, z < 1024 → ∃ i, i < k ∧ z = (e ^ i % p + J i) % 1024 := fun z hz1 => by
      rcases h2 z hz1 with g | ⟨i, g1, g2, g3⟩
      · exact absurd ⟨z, hz1, g⟩ hz
      · exact ⟨i, g1, g3⟩
    have h4 : ∀ z : Nat, z < 1024 → Classical.epsilon (fun i => i < k ∧ z = (e ^ i % p + J i) % 1024) < k ∧ z = (e ^ (Classical.epsilon (fun i => i < k ∧ z = (e ^ i % p + J i) % 1024)) % p + J (Classical.epsilon (fun i => i < k ∧ z = (e ^ i % p + J i) % 1024))) % 1024 := fun z hz1 => Classical.epsilon_spec (p := fun i => i < k ∧ z = (e ^ i % p + J i) % 1024) (h3 z hz1)
    obtain ⟨i, i1, i2⟩ := inj_surj 1024 (fun z => Classical.epsilon (fun i => i < k ∧ z = (e ^ i % p + J i) % 1024)) (fun z hz1 => by have := (h4 z hz1).1; show _ < 1024; omega) (fun y z hy hz1 hyz => by
      have a1 := (h4 y hy).2
      have a2 := (h4 z hz1).2
      have hyz' : Classical.epsilon (fun i => i < k ∧ y = (e ^ i % p + J i) % 1024) = Classical.epsilon (fun i => i < k ∧ z = (e ^ i % p + J i) % 1024) := hyz
      rw [hyz'] at a1
      exact a1.trans a2.symm) 1000 (by omega)
    have := (h4 i i1).1
    have i3 : Classical.epsilon (fun j => j < k ∧ i = (e ^ j % p + J j) % 1024) = 1000 := i2
    omega
/-- the search for v ends -/
theorem TB.fst {p e k : Nat} {pw ex : Int → Int} (h : TB p e pw ex k) (hk : k ≤ 317) (v : Nat) : ∃ J, Fst pw v J := by
  obtain ⟨z, z1, z2⟩ := h.free hk
  have hx : ∃ j, j < 1024 ∧ Hit pw v j := by
    refine ⟨(z + 1024 - v % 1024) % 1024, by omega, Or.inr ?_⟩
    rw [show (v + (z + 1024 - v % 1024) % 1024) % 1024 = z by omega]
    exact z2
  obtain ⟨J, j1, j2, j3⟩ := least_ex 1024 hx
  exact ⟨J, j1, j2, j3⟩
theorem Fst.uniq {pw : Int → Int} {v i j : Nat} (h : Fst pw v i) (h' : Fst pw v j) : i = j := by
  rcases Nat.lt_trichotomy i j with z | z | z
  · exact absurd h.2.1 (h'.2.2 i z)
  · exact z
  · exact absurd h'.2.1 (h.2.2 j z)
/-- a power that is in the table is found -/
theorem TB.yes {p e k i J : Nat} {pw ex : Int → Int} (h : TB p e pw ex k) (hi : i < k) (hJ : Fst pw (e ^ i % p) J) : pw (((e ^ i % p + J) % 1024 : Nat) : Int) = ((e ^ i % p : Nat) : Int) ∧ ex (((e ^ i % p + J) % 1024 : Nat) : Int) = (i : Int) := by
  obtain ⟨J', h1, h2⟩ := h
  obtain ⟨g1, g2, g3⟩ := h1 i hi
  have e1 := hJ.uniq g1
  subst e1
  exact ⟨g2, g3⟩
/-- a number that is none of them is not -/
theorem TB.no {p e k v J : Nat} {pw ex : Int → Int} (h : TB p e pw ex k) (hv : ∀ i, i < k → e ^ i % p ≠ v) (h0 : 0 < v) (hJ : Fst pw v J) : pw (((v + J) % 1024 : Nat) : Int) = 0 := by
  obtain ⟨J', h1, h2⟩ := h
  rcases hJ.2.1 with g | g
  · rcases h2 ((v + J) % 1024) (by omega) with g2 | ⟨i, i1, i2, -⟩
    · exact g2
    · exact absurd (show e ^ i % p = v by omega) (hv i i1)
  · exact g
theorem TB.add {p e k J : Nat} {pw ex : Int → Int} (hp : Pr p) (h3 : 3 ≤ p) (he : GenOf p e) (h : TB p e pw ex k) (hk : k < p - 1) (hJ : Fst pw (e ^ k % p) J) : TB p e (upI pw (((e ^ k % p + J) % 1024 : Nat) : Int) ((e ^ k % p : Nat) : Int)) (upI ex (((e ^ k % p + J) % 1024 : Nat) : Int) (k : Int)) (k + 1) := by
  have hpk := gpow_pos hp he k
  have hz := h.no (v := e ^ k % p) (fun i hi hc => by have := gpow_inj hp h3 he (by omega) hk hc; omega) hpk hJ
  obtain ⟨J', h1, h2⟩ := h
  have hup : ∀ z : Nat, z ≠ (e ^ k % p + J) % 1024 → upI pw (((e ^ k % p + J) % 1024 : Nat) : Int) ((e ^ k % p : Nat) : Int) (z : Int) = pw (z : Int) := fun z hz1 => upI_ne (by omega)
  have hux : ∀ z : Nat, z ≠ (e ^ k % p + J) % 1024 → upI ex (((e ^ k % p + J) % 1024 : Nat) : Int) (k : Int) (z : Int) = ex (z : Int) := fun z hz1 => upI_ne (by omega)
  refine ⟨fun i => if i = k then J else J' i, fun i hi => ?_, fun z hz1 => ?_⟩
  · by_cases ei : i = k
    · subst ei
      simp only [if_pos]
      refine ⟨⟨hJ.1, Or.inl upI_eq, fun j hj hh => hJ.2.2 j hj ?_⟩, upI_eq, upI_eq⟩
      have hne : (e ^ i % p + j) % 1024 ≠ (e ^ i % p + J) % 1024 := by
        have := hJ.1
        omega
      unfold Hit at hh ⊢
      rw [hup _ hne] at hh
      exact hh
    · simp only [if_neg ei]
      have hik : i < k := by omega
      obtain ⟨g1, g2, g3⟩ := h1 i hik
      have hpi := gpow_pos hp he i
      have hne : (e ^ i % p + J' i) % 1024 ≠ (e ^ k % p + J) % 1024 := fun hc => by
        rw [hc] at g2
        omega
      have hd : e ^ i % p ≠ e ^ k % p := fun hc => by have := gpow_inj hp h3 he (by omega) hk hc; omega
      refine ⟨⟨g1.1, ?_, fun j hj hh => g1.2.2 j hj ?_⟩, ?_, ?_⟩
      · unfold Hit
        rw [hup _ hne]
        exact g1.2.1
      · unfold Hit at hh ⊢
        by_cases hc : (e ^ i % p + j) % 1024 = (e ^ k % p + J) % 1024
        · rw [hc, upI_eq] at hh
          omega
        · rw [hup _ hc] at hh
          exact hh
      · rw [hup _ hne]
        exact g2
      · rw [hux _ hne]
        exact g3
  · by_cases hc : z = (e ^ k % p + J) % 1024
    · refine Or.inr ⟨k, by omega, ?_, ?_⟩
      · rw [hc, upI_eq]
      · show z = (e ^ k % p + (if k = k then J else J' k)) % 1024
        rw [if_pos rfl]
        exact hc
    · rw [hup z hc]
      rcases h2 z hz1 with g | ⟨i, i1, i2, i3⟩
      · exact Or.inl g
      · refine Or.inr ⟨i, by omega, i2, ?_⟩
        show z = (e ^ i % p + (if i = k then J else J' i)) % 1024
        rw [if_neg (by omega)]
        exact i3
theorem TB.nil {p e : Nat} {pw ex : Int → Int} (h : ∀ z : Nat, z < 1024 → pw (z : Int) = 0) : TB p e pw ex 0 := ⟨fun _ => 0, fun i hi => absurd hi (Nat.not_lt_zero i), fun z hz => Or.inl (h z hz)⟩
section LOG
variable {g : GT} {S : PS} {mc ms : Nat} {Q : PO → PS → Prop} {kc ks : Nat} {q : Nat} {pw ex : Int → Int}
abbrev lgO (q : Nat) : PE := cO 3 [.ref (q + 1), .ref (q + 2)]
theorem l_place {v J : Nat} (h0 : S.1 q = some (lgO q)) (h1 : S.1 (q + 1) = some (cI 1024 pw)) (hv : v ≤ 100003) (hb : ∀ z : Int, 0 ≤ z → z < 1024 → 0 ≤ pw z ∧ pw z ≤ 100003) (hJ : Fst pw v J) (hq : Q (.inl (some (vi (((v + J) % 1024 : Nat) : Int)))) S) : ∀ (r i : Nat), i + r = J →
    PW g cX3_placeOf (iX3_placeOf mc ms) 8 [(0, some (.ref q)), (1, some (vi (v : Int))), (2, some (vi (((v + i) % 1024 : Nat) : Int))), (3, some (vi (i : Int)))] [] S kc ks Q := by
  intro r
  have hJ1 := hJ.1
  induction r with
  | zero =>
    intro i hi
    have e : i = J := by omega
    subst e
    have hbi := hb (((v + i) % 1024 : Nat) : Int) (by omega) (by omega)
    have hh : pw (((v + i) % 1024 : Nat) : Int) = (v : Int) ∨ pw (((v + i) % 1024 : Nat) : Int) = 0 := hJ.2.1
    refine r_iload_n dX3_placeOf_8 (i := 3) rfl rfl (r_sipush dX3_placeOf_9 (by decide) ?_)
    refine r_icmp_ge 50 dX3_placeOf_12 (by decide) (by omega) (by omega) (fun c1 => ?_) (fun c1 => ?_)
    · omega
    · refine r_aload_n dX3_placeOf_15 (i := 0) rfl rfl (r_get dX3_placeOf_16 fl_X3_11 h0 rfl (r_iload_n dX3_placeOf_19 (i := 2) rfl rfl (r_iald dX3_placeOf_20 h1 (by omega) (by omega) (by omega) (r_iload_n dX3_placeOf_21 (i := 1) rfl rfl ?_))))
      refine r_icmp_eq 34 dX3_placeOf_22 (by decide) (by omega) (by omega) (fun c2 => ?_) (fun c2 => ?_)
      · refine r_iload_n dX3_placeOf_34 (i := 2) rfl rfl ?_
        refine r_iret dX3_placeOf_35 rfl rfl ?_
        exact hq
      · refine r_aload_n dX3_placeOf_25 (i := 0) rfl rfl (r_get dX3_placeOf_26 fl_X3_11 h0 rfl (r_iload_n dX3_placeOf_29 (i := 2) rfl rfl (r_iald dX3_placeOf_30 h1 (by omega) (by omega) (by omega) ?_)))
        refine r_if_ne 36 dX3_placeOf_31 (by decide) (by omega) (fun c3 => ?_) (fun c3 => ?_)
        · omega
        · refine r_iload_n dX3_placeOf_34 (i := 2) rfl rfl ?_
          refine r_iret dX3_placeOf_35 rfl rfl ?_
          exact hq
  | succ r ih =>
    intro i hi
    have hbi := hb (((v + i) % 1024 : Nat) : Int) (by omega) (by omega)
    have hh : ¬ (pw (((v + i) % 1024 : Nat) : Int) = (v : Int) ∨ pw (((v + i) % 1024 : Nat) : Int) = 0) := hJ.2.2 i (by omega)
    refine r_iload_n dX3_placeOf_8 (i := 3) rfl rfl (r_sipush dX3_placeOf_9 (by decide) ?_)
    refine r_icmp_ge 50 dX3_placeOf_12 (by decide) (by omega) (by omega) (fun c1 => ?_) (fun c1 => ?_)
    · omega
    · refine r_aload_n dX3_placeOf_15 (i := 0) rfl rfl (r_get dX3_placeOf_16 fl_X3_11 h0 rfl (r_iload_n dX3_placeOf_19 (i := 2) rfl rfl (r_iald dX3_placeOf_20 h1 (by omega) (by omega) (by omega) (r_iload_n dX3_placeOf_21 (i := 1) rfl rfl ?_))))
      refine r_icmp_eq 34 dX3_placeOf_22 (by decide) (by omega) (by omega) (fun c2 => ?_) (fun c2 => ?_)
      · refine r_iload_n dX3_placeOf_34 (i := 2) rfl rfl ?_
        refine r_iret dX3_placeOf_35 rfl rfl ?_
        omega
      · refine r_aload_n dX3_placeOf_25 (i := 0) rfl rfl (r_get dX3_placeOf_26 fl_X3_11 h0 rfl (r_iload_n dX3_placeOf_29 (i := 2) rfl rfl (r_iald dX3_placeOf_30 h1 (by omega) (by omega) (by omega) ?_)))
        refine r_if_ne 36 dX3_placeOf_31 (by decide) (by omega) (fun c3 => ?_) (fun c3 => ?_)
        · refine r_iload_n dX3_placeOf_36 (i := 2) rfl rfl (r_iconst dX3_placeOf_37 (r_iadd dX3_placeOf_38 (r_sipush dX3_placeOf_39 (by decide) ?_)))
          refine r_iand (((((v + i) % 1024 : Nat) : Int) + 1) % 1024) dX3_placeOf_42 (q_and1023 (by omega)) ?_
          refine r_istore_n dX3_placeOf_43 (i := 2) rfl rfl (Nat.le_of_ble_eq_true rfl) (r_iinc dX3_placeOf_44 rfl rfl (r_goto 8 dX3_placeOf_47 (by decide) ?_))
          exact r_loc [(0, some (.ref q)), (1, some (vi (v : Int))), (2, some (vi (((v + (i + 1)) % 1024 : Nat) : Int))), (3, some (vi ((i + 1 : Nat) : Int)))] ⟨Or.inl rfl, Or.inl rfl, Or.inl (lvi_eq (by omega)), Or.inl rfl, trivial⟩ (ih (i + 1) (by omega))
        · refine r_iload_n dX3_placeOf_34 (i := 2) rfl rfl ?_
          refine r_iret dX3_placeOf_35 rfl rfl ?_
          omega
theorem c_X3_placeOf {v J : Nat} (h0 : S.1 q = some (lgO q)) (h1 : S.1 (q + 1) = some (cI 1024 pw)) (hv : v ≤ 100003) (hb : ∀ z : Int, 0 ≤ z → z < 1024 → 0 ≤ pw z ∧ pw z ≤ 100003) (hJ : Fst pw v J) : PC g yX3_placeOf cX3_placeOf (iX3_placeOf mc ms) [.ref q, vi (v : Int)] S (Rt (some (vi (((v + J) % 1024 : Nat) : Int))) S) := by
  refine PC_of pnX3 rfl rfl rfl (Nat.le_of_ble_eq_true rfl) ?_
  refine r_iload_n dX3_placeOf_0 (i := 1) rfl rfl (r_sipush dX3_placeOf_1 (by decide) ?_)
  refine r_iand ((v : Int) % 1024) dX3_placeOf_4 (q_and1023 (by omega)) ?_
  refine r_istore_n dX3_placeOf_5 (i := 2) rfl rfl (Nat.le_of_ble_eq_true rfl) (r_iconst dX3_placeOf_6 (r_istore_n dX3_placeOf_7 (i := 3) rfl rfl (Nat.le_of_ble_eq_true rfl) ?_))
  exact r_loc [(0, some (.ref q)), (1, some (vi (v : Int))), (2, some (vi (((v + 0) % 1024 : Nat) : Int))), (3, some (vi ((0 : Nat) : Int)))] ⟨Or.inl rfl, Or.inl rfl, Or.inl (lvi_eq (by omega)), Or.inl rfl, trivial⟩ (l_place h0 h1 hv hb hJ ⟨rfl, rfl⟩ J 0 (by omega))
end LOG

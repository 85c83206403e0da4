/-! the class: Multiplier.widen, whole; convolve -/
theorem inv_cg {p : Nat} {x : Int} (hp : Pr p) (h3 : 3 ≤ p) (hx : ¬ (p : Int) ∣ x) : Cg p (x * pwI x (p - 2) p) 1 := by
  have h1 := Int.emod_nonneg x (show (p : Int) ≠ 0 by omega)
  have h2 := Int.emod_lt_of_pos x (show (0 : Int) < p by omega)
  have h0 : x % (p : Int) ≠ 0 := fun z => hx (Int.dvd_of_emod_eq_zero z)
  obtain ⟨n, hn⟩ := Int.eq_ofNat_of_zero_le h1
  have hc : Cg p x (n : Int) := (Cg.mod x).symm.trans (Cg.of hn)
  have e1 : pwI x (p - 2) p = ((n ^ (p - 2) % p : Nat) : Int) := by
    unfold pwI
    rw [hn, Int.toNat_natCast]
  rw [e1]
  refine (hc.mul (Cg.refl _)).trans ?_
  rw [← Int.natCast_mul]
  refine Cg.nat ?_
  rw [inv_ok hp h3 ⟨by omega, by omega⟩, Nat.mod_eq_of_lt (show 1 < p by omega)]
theorem bpS_nd {B : Int → Int} {n p : Nat} (hp : Pr p) (h : ∀ i : Int, 0 ≤ i → i < n → Pr (B (145 + i)).toNat ∧ 3 ≤ B (145 + i) ∧ B (145 + i) ≠ (p : Int)) : ¬ (p : Int) ∣ bpS B n := by
  induction n with
  | zero =>
    intro hd
    have h1 : (p : Int) ∣ 1 := hd
    have := Int.le_of_dvd (by omega) h1
    have := hp.1
    omega
  | succ n ih =>
    intro hd
    have h1 : (p : Int) ∣ bpS B n * B (145 + (n : Int)) := hd
    obtain ⟨g1, g2, g3⟩ := h n (by omega) (by omega)
    rcases int_pr_mul hp h1 with z | z
    · exact ih (fun i i0 i1 => h i i0 (by omega)) z
    · have e : B (145 + (n : Int)) = (((B (145 + (n : Int))).toNat : Nat) : Int) := by omega
      rw [e] at z
      have z2 := pr_eq hp g1 (Int.natCast_dvd_natCast.mp z)
      omega
section CONVL
variable {g : GT} {S : PS} {mc ms : Nat} {Q : PO → PS → Prop} {kc ks : Nat} {q p : Nat} {v1 v2 v3 : Value}
theorem c_X4_widen {m pr L : Nat} {c kd st md fc t rad : Int} {sp vf cf : Int → Int} (h0 : S.1 m = some (cO 4 [.ref (m + 1)])) (h1 : S.1 (m + 1) = some (cI 64 sp)) (hpr : S.1 pr = some (cO 6 [.ref (pr + 1), .ref (pr + 2), vi fc, vi c, vi kd, vi st, vi (L : Int), vl md])) (hv : S.1 (pr + 1) = some (cJ 64 vf)) (hf : S.1 q = some (cO 1 [vi (p : Int), v1, v2, vi (genN p : Int)])) (hne : m ≠ pr + 1 ∧ m + 1 ≠ pr + 1 ∧ q ≠ pr + 1) (hp : 3 ≤ p ∧ p ≤ 100003) (hpp : Pr p) (hL : 1 ≤ L ∧ L ≤ 64) (hc : 0 ≤ c ∧ c ≤ 64) (ht : 0 ≤ t ∧ t < p) (hrad : 1 ≤ rad ∧ rad * (p : Int) ≤ 4000000000000000000) (hnd : ¬ (p : Int) ∣ rad) (hsp : ∀ j : Int, 0 ≤ j → j < L → 0 ≤ sp j ∧ sp j < p) (hvf : ∀ k : Int, 0 ≤ k → k < c → 0 ≤ vf k ∧ vf k < rad) (hcf : ∀ k : Nat, (k : Int) < c → ∀ x y : Int, Cg p x (pwI (L : Int) (p - 2) p * pwI t (p - 2) p ^ k) → Cg p y (pwI (rtI p L) (p - 2) p ^ k) → Cg p (x * SM (fun j => sp (j : Int) * y ^ j) L) (cf (k : Int))) : PC g yX4_widen cX4_widen (iX4_widen mc ms) [.ref m, .ref pr, .ref q, vi t, vl rad] S (fun o S' => o = .inl none ∧ ∃ vf' : Int → Int, (∀ k : Int, 0 ≤ k → k < c → (0 ≤ vf' k ∧ vf' k < rad * (p : Int)) ∧ Cg p (vf' k) (cf k) ∧ ∃ d, vf' k = vf k + rad * d) ∧ S' = ps_put S (pr + 1) (cJ 64 vf')) := by
  have hrt := rtI_bd (p := p) (n := L) (by omega)
  have hcr : PC g yX1_rootOfOrder cX1_rootOfOrder (iX1_rootOfOrder 0 0) [.ref q, vi (L : Int)] S (Rt (some (vi (rtI p L))) S) := c_X1_rootI (n := (L : Int)) hf hp hpp (by omega)
  have b1 := pwI_lt (b := rtI p L) (e := p - 2) (p := p) (by omega)
  have b2 := pwI_lt (b := t) (e := p - 2) (p := p) (by omega)
  have b3 := pwI_lt (b := rad % (p : Int)) (e := p - 2) (p := p) (by omega)
  have b4 := pwI_lt (b := (L : Int) % (p : Int)) (e := p - 2) (p := p) (by omega)
  have hradM : rad ≤ rad * (p : Int) := by
    have := Int.mul_le_mul_of_nonneg_left (show (1 : Int) ≤ p by omega) (show 0 ≤ rad by omega)
    omega
  have mr1 := Int.emod_nonneg rad (show (p : Int) ≠ 0 by omega)
  have mr2 := Int.emod_lt_of_pos rad (show (0 : Int) < p by omega)
  have ml1 := Int.emod_nonneg (L : Int) (show (p : Int) ≠ 0 by omega)
  have ml2 := Int.emod_lt_of_pos (L : Int) (show (0 : Int) < p by omega)
  refine PC_of pnX4 rfl rfl rfl (Nat.le_of_ble_eq_true rfl) ?_
  refine r_aload_n dX4_widen_0 (i := 2) rfl rfl (r_aload_n dX4_widen_1 (i := 2) rfl rfl (r_aload_n dX4_widen_2 (i := 1) rfl rfl (r_get dX4_widen_3 fl_X4_28 hpr rfl (c_vr dX4_widen_6 (hcr) rfl rfl mq_X1_rootOfOrder ml_X4_31 ⟨Nat.le_of_ble_eq_true rfl, Nat.le_of_ble_eq_true rfl⟩ hf rfl rfl rfl (Nat.le_of_ble_eq_true rfl) ?_))))
  refine c_vr dX4_widen_9 (c_X1_invertI hf hp hrt) rfl rfl mq_X1_invert ml_X4_67 ⟨Nat.le_of_ble_eq_true rfl, Nat.le_of_ble_eq_true rfl⟩ hf rfl rfl rfl (Nat.le_of_ble_eq_true rfl) (r_istore dX4_widen_12 rfl (Nat.le_of_ble_eq_true rfl) (r_aload_n dX4_widen_14 (i := 2) rfl rfl (r_iload_n dX4_widen_15 (i := 3) rfl rfl (c_vr dX4_widen_16 (c_X1_invertI hf hp ht) rfl rfl mq_X1_invert ml_X4_67 ⟨Nat.le_of_ble_eq_true rfl, Nat.le_of_ble_eq_true rfl⟩ hf rfl rfl rfl (Nat.le_of_ble_eq_true rfl) ?_))))
  refine r_istore dX4_widen_19 rfl (Nat.le_of_ble_eq_true rfl) ?_
  refine r_aload_n dX4_widen_21 (i := 2) rfl rfl (r_aload_n dX4_widen_22 (i := 2) rfl rfl (r_lload dX4_widen_23 rfl (c_vr dX4_widen_25 (c_X1_residueOf hf hp (by omega)) rfl rfl mq_X1_residueOf ml_X4_70 ⟨Nat.le_of_ble_eq_true rfl, Nat.le_of_ble_eq_true rfl⟩ hf rfl rfl rfl (Nat.le_of_ble_eq_true rfl) (c_vr dX4_widen_28 (c_X1_invertI hf hp ⟨mr1, mr2⟩) rfl rfl mq_X1_invert ml_X4_67 ⟨Nat.le_of_ble_eq_true rfl, Nat.le_of_ble_eq_true rfl⟩ hf rfl rfl rfl (Nat.le_of_ble_eq_true rfl) ?_))))
  refine r_istore dX4_widen_31 rfl (Nat.le_of_ble_eq_true rfl) ?_
  refine r_aload_n dX4_widen_33 (i := 2) rfl rfl (r_aload_n dX4_widen_34 (i := 2) rfl rfl (r_aload_n dX4_widen_35 (i := 1) rfl rfl (r_get dX4_widen_36 fl_X4_28 hpr rfl (r_i2l dX4_widen_39 (by omega) ?_))))
  refine c_vr dX4_widen_40 (c_X1_residueOf hf hp (by omega)) rfl rfl mq_X1_residueOf ml_X4_70 ⟨Nat.le_of_ble_eq_true rfl, Nat.le_of_ble_eq_true rfl⟩ hf rfl rfl rfl (Nat.le_of_ble_eq_true rfl) (c_vr dX4_widen_43 (c_X1_invertI hf hp ⟨ml1, ml2⟩) rfl rfl mq_X1_invert ml_X4_67 ⟨Nat.le_of_ble_eq_true rfl, Nat.le_of_ble_eq_true rfl⟩ hf rfl rfl rfl (Nat.le_of_ble_eq_true rfl) (r_istore dX4_widen_46 rfl (Nat.le_of_ble_eq_true rfl) (r_iconst dX4_widen_48 (r_istore dX4_widen_49 rfl (Nat.le_of_ble_eq_true rfl) ?_))))
  refine r_iconst dX4_widen_51 (r_istore dX4_widen_52 rfl (Nat.le_of_ble_eq_true rfl) ?_)
  refine r_ps (ps_put_self hv).symm ?_
  refine r_loc [(0, some (.ref m)), (1, some (.ref pr)), (2, some (.ref q)), (3, some (vi t)), (4, some (vl rad)), (6, some (vi (pwI (rtI p L) (p - 2) p))), (7, some (vi (pwI t (p - 2) p))), (8, some (vi (pwI (rad % (p : Int)) (p - 2) p))), (9, some (vi (pwI ((L : Int) % (p : Int)) (p - 2) p))), (10, some (vi 1)), (11, some (vi ((0 : Nat) : Int)))] ⟨Or.inl rfl, Or.inl rfl, Or.inl rfl, Or.inl rfl, Or.inl rfl, Or.inl rfl, Or.inl rfl, Or.inl rfl, Or.inl rfl, Or.inl rfl, Or.inl rfl, trivial⟩ ?_
  refine l_widen (li := pwI (L : Int) (p - 2) p) (cf := cf) h0 h1 hpr hf hne hp hL hc b1 b2 b3 hrad ?_ hsp hvf hcf (fun vf' hvf' => ⟨rfl, vf', hvf', rfl⟩) c.toNat 0 (by omega) _ 1 vf b4 ⟨by omega, by omega⟩ ?_ ?_ (fun j j0 j1 => by omega) (fun j j0 j1 => rfl)
  · rw [pwI_mod]
    exact inv_cg hpp hp.1 hnd
  · rw [Int.pow_zero, Int.mul_one, pwI_mod]
    exact Cg.refl _
  · rw [Int.pow_zero]
    exact Cg.refl _
/-- what the multiplier leaves: the values of the product, its spectrum -/
def CvS (S0 S : PS) (pr m : Nat) (vf sp : Int → Int) : Prop := S.1 (pr + 1) = some (cJ 64 vf) ∧ S.1 (m + 1) = some (cI 64 sp) ∧ (∀ z : Nat, z ≠ pr + 1 → z ≠ m + 1 → S.1 z = S0.1 z) ∧ S.2 = S0.2
theorem CvS.vf {S0 S : PS} {pr m : Nat} {vf vf' sp : Int → Int} (h : CvS S0 S pr m vf sp) (hne : m + 1 ≠ pr + 1) : CvS S0 (ps_put S (pr + 1) (cJ 64 vf')) pr m vf' sp := ⟨ps_same, ps_ne hne h.2.1, fun z z1 z2 => by rw [← h.2.2.1 z z1 z2]; exact ps_ne z1 rfl, h.2.2.2⟩
theorem CvS.sp {S0 S : PS} {pr m : Nat} {vf sp sp' : Int → Int} (h : CvS S0 S pr m vf sp) (hne : m + 1 ≠ pr + 1) : CvS S0 (ps_put S (m + 1) (cI 64 sp')) pr m vf sp' := ⟨ps_ne (by omega) h.1, ps_same, fun z z1 z2 => by rw [← h.2.2.1 z z1 z2]; exact ps_ne z2 rfl, h.2.2.2⟩
theorem l_conv {S0 : PS} {m pr sa sb L F : Nat} {c kd st md fc la lb : Int} {f h B : Int → Int} {pf : Int → Option Nat} (h0 : S0.1 m = some (cO 4 [.ref (m + 1)])) (hpr : S0.1 pr = some (cO 6 [.ref (pr + 1), .ref (pr + 2), vi fc, vi c, vi kd, vi st, vi (L : Int), vl md])) (hpf : S0.1 (pr + 2) = some (cR 6 6 pf)) (hA : SeqAt S0 sa la f) (hB : SeqAt S0 sb lb h) (hFl : ∀ j : Int, 0 ≤ j → j < fc → ∃ q, pf j = some q ∧ F ≤ q ∧ FldAt S0 q (B (145 + j)).toNat (genN (B (145 + j)).toNat)) (hFs : pr + 3 ≤ F ∧ m + 2 ≤ F) (hne : m ≠ pr + 1 ∧ m + 1 ≠ pr ∧ m ≠ pr ∧ m + 1 ≠ pr + 2 ∧ m ≠ pr + 2) (hnA : sa ≠ m + 1 ∧ sa + 1 ≠ m + 1 ∧ sa ≠ pr + 1 ∧ sa + 1 ≠ pr + 1) (hnB : sb ≠ m + 1 ∧ sb + 1 ≠ m + 1 ∧ sb ≠ pr + 1 ∧ sb + 1 ≠ pr + 1) (hla : 0 ≤ la ∧ la ≤ 32) (hlb : 0 ≤ lb ∧ lb ≤ 32) (oA : TermsOk la f) (oB : TermsOk lb h) (hL : 1 ≤ L ∧ L ≤ 64) (hc : 0 ≤ c ∧ c ≤ L) (hkd : 0 ≤ kd ∧ kd ≤ 2) (hsz : (kd = 0 ∧ la + lb ≤ L + 1) ∨ (kd ≠ 0 ∧ la ≤ L ∧ lb ≤ L)) (hfc : 0 ≤ fc ∧ fc ≤ 6) (hBp : ∀ i : Int, 0 ≤ i → i < fc → 3 ≤ B (145 + i) ∧ B (145 + i) ≤ 100003 ∧ Pr (B (145 + i)).toNat) (hBd : ∀ i j : Int, 0 ≤ i → i < j → j < fc → B (145 + i) ≠ B (145 + j)) (hBr : ∀ i : Int, 0 ≤ i → i < fc → (B (145 + i) - 1) % (if kd = 2 then 2 * (L : Int) else (L : Int)) = 0) (hBm : bpS B fc.toNat ≤ 4000000000000000000)
    (hk : ∀ S vf sp, CvS S0 S pr m vf sp → (∀ k : Int, 0 ≤ k → k < c → (0 ≤ vf k ∧ vf k < bpS B fc.toNat) ∧ bpS B fc.toNat ∣ vf k - cfI kd L k f h lb.toNat la.toNat) → PW g cX4_convolve (iX4_convolve mc ms) 91 [(0, some (.ref m)), (3, some (.ref pr))] [] S kc ks Q) : ∀ (r i : Nat), (i : Int) + r = fc → ∀ S vf sp, CvS S0 S pr m vf sp → (∀ k : Int, 0 ≤ k → k < c → (0 ≤ vf k ∧ vf k < bpS B i) ∧ bpS B i ∣ vf k - cfI kd L k f h lb.toNat la.toNat) →
    PW g cX4_convolve (iX4_convolve mc ms) 6 [(0, some (.ref m)), (1, some (.ref sa)), (2, some (.ref sb)), (3, some (.ref pr)), (4, some (vl (bpS B i))), (6, some (vi (i : Int)))] [] S kc ks Q := by
  intro r
  induction r with
  | zero =>
    intro i hi S vf sp hS hv
    have gp : S.1 pr = some (cO 6 [.ref (pr + 1), .ref (pr + 2), vi fc, vi c, vi kd, vi st, vi (L : Int), vl md]) := by rw [hS.2.2.1 pr (by omega) (by omega)]; exact hpr
    have e : fc.toNat = i := by omega
    rw [e] at hk
    refine r_iload dX4_convolve_6 rfl (r_aload_n dX4_convolve_8 (i := 3) rfl rfl (r_get dX4_convolve_9 fl_X4_15 gp rfl ?_))
    refine r_icmp_ge 91 dX4_convolve_12 (by decide) (by omega) (by omega) (fun c1 => ?_) (fun c1 => ?_)
    · exact r_loc [(0, some (.ref m)), (3, some (.ref pr))] ⟨Or.inl rfl, Or.inl rfl, trivial⟩ (hk S vf sp hS hv)
    · omega
  | succ r ih =>
    intro i hi S vf sp hS hv
    have gp : S.1 pr = some (cO 6 [.ref (pr + 1), .ref (pr + 2), vi fc, vi c, vi kd, vi st, vi (L : Int), vl md]) := by rw [hS.2.2.1 pr (by omega) (by omega)]; exact hpr
    have gf : S.1 (pr + 2) = some (cR 6 6 pf) := by rw [hS.2.2.1 _ (by omega) (by omega)]; exact hpf
    have g0 : S.1 m = some (cO 4 [.ref (m + 1)]) := by rw [hS.2.2.1 _ (by omega) (by omega)]; exact h0
    have gA : SeqAt S sa la f := ⟨by rw [hS.2.2.1 _ (by omega) (by omega)]; exact hA.1, by rw [hS.2.2.1 _ (by omega) (by omega)]; exact hA.2⟩
    have gB : SeqAt S sb lb h := ⟨by rw [hS.2.2.1 _ (by omega) (by omega)]; exact hB.1, by rw [hS.2.2.1 _ (by omega) (by omega)]; exact hB.2⟩
    obtain ⟨q, q1, q2, ff, fc2, q3, q4, q5⟩ := hFl (i : Int) (by omega) (by omega)
    obtain ⟨P, hP⟩ : ∃ P : Nat, P = (B (145 + (i : Int))).toNat := ⟨_, rfl⟩
    rw [← hP] at q3 q5
    obtain ⟨p1, p2, p3⟩ := hBp (i : Int) (by omega) (by omega)
    rw [← hP] at p3
    have hPe : B (145 + (i : Int)) = (P : Int) := by omega
    have hp : 3 ≤ P ∧ P ≤ 100003 := by omega
    have q3' : S.1 q = some (cO 1 [vi (P : Int), .ref (q + 1), vi (fc2 : Int), vi (genN P : Int)]) := by rw [hS.2.2.1 q (by omega) (by omega)]; exact q3
    have hrad1 := bpS_pos hBp i (by omega)
    have hstep : bpS B (i + 1) = bpS B i * (P : Int) := by
      show bpS B i * B (145 + (i : Int)) = _
      rw [hPe]
    have hle := bpS_le hBp (i := i + 1) (fc.toNat - (i + 1)) (by omega)
    rw [show i + 1 + (fc.toNat - (i + 1)) = fc.toNat by omega, hstep] at hle
    have hnd : ¬ (P : Int) ∣ bpS B i := bpS_nd p3 (fun j j0 j1 => ⟨(hBp j j0 (by omega)).2.2, (hBp j j0 (by omega)).1, fun z => hBd j (i : Int) j0 j1 (by omega) (by omega)⟩)
    have hroot := hBr (i : Int) (by omega) (by omega)
    rw [hPe] at hroot
    have hdL : (P - 1) % L = 0 := by
      split at hroot
      · have h2 : 2 * (L : Int) ∣ (P : Int) - 1 := Int.dvd_of_emod_eq_zero hroot
        obtain ⟨z, hz⟩ := h2
        have h3 : (L : Int) ∣ (P : Int) - 1 := ⟨2 * z, by rw [hz]; grind⟩
        have h4 := Int.emod_eq_zero_of_dvd h3
        have h5 : (((P - 1 : Nat) : Int)) % (L : Int) = 0 := by rw [show (((P - 1 : Nat) : Int)) = (P : Int) - 1 by omega]; exact h4
        omega
      · have h5 : (((P - 1 : Nat) : Int)) % (L : Int) = 0 := by rw [show (((P - 1 : Nat) : Int)) = (P : Int) - 1 by omega]; exact hroot
        omega
    obtain ⟨hw, hwp⟩ := rt_ok p3 hp.1 (show 0 < L by omega) hdL
    have hLlt : L < P := by
      have := Nat.le_of_dvd (by omega) (Nat.dvd_of_mod_eq_zero hdL)
      omega
    have hLnd : ¬ (P : Int) ∣ (L : Int) := fun z => by have := Int.le_of_dvd (by omega) z; omega
    have main : ∀ t : Int, (0 < t ∧ t < P) → Cg P (t ^ L) (if kd = 2 then -1 else 1) → PW g cX4_convolve (iX4_convolve mc ms) 47 [(0, some (.ref m)), (1, some (.ref sa)), (2, some (.ref sb)), (3, some (.ref pr)), (4, some (vl (bpS B i))), (6, some (vi (i : Int))), (7, some (.ref q))] [vi t] S kc ks Q := fun t ht htL => by
      have htnd : ¬ (P : Int) ∣ t := fun z => by have := Int.le_of_dvd (by omega) z; omega
      refine r_istore dX4_convolve_47 rfl (Nat.le_of_ble_eq_true rfl) (r_aload_n dX4_convolve_49 (i := 0) rfl rfl (r_aload dX4_convolve_50 rfl (r_aload_n dX4_convolve_52 (i := 1) rfl rfl (r_aload_n dX4_convolve_53 (i := 2) rfl rfl ?_))))
      refine r_aload_n dX4_convolve_54 (i := 3) rfl rfl (r_get dX4_convolve_55 fl_X4_28 gp rfl (r_iload dX4_convolve_58 rfl ?_))
      refine c_vq dX4_convolve_60 (c_X4_multiplySpectra (L := L) g0 hS.2.1 q3' gA gB ⟨by omega, hnA.1, hnA.2.1, hnB.1, hnB.2.1⟩ hla hlb oA oB hp p3 hL ⟨by omega, ht.2⟩) rfl rfl mq_X4_multiplySpectra ml_X4_37 ⟨Nat.le_of_ble_eq_true rfl, Nat.le_of_ble_eq_true rfl⟩ g0 rfl rfl rfl (Nat.le_of_ble_eq_true rfl) (fun E S' h => by simp at h) (fun v S' hs => ?_)
      obtain ⟨d1, sp', hsp', rfl⟩ := hs
      cases d1
      have hS1 := hS.sp (sp' := sp') (by omega)
      have gp1 : (ps_put S (m + 1) (cI 64 sp')).1 pr = some (cO 6 [.ref (pr + 1), .ref (pr + 2), vi fc, vi c, vi kd, vi st, vi (L : Int), vl md]) := ps_ne (by omega) gp
      have g01 : (ps_put S (m + 1) (cI 64 sp')).1 m = some (cO 4 [.ref (m + 1)]) := ps_ne (by omega) g0
      have q31 : (ps_put S (m + 1) (cI 64 sp')).1 q = some (cO 1 [vi (P : Int), .ref (q + 1), vi (fc2 : Int), vi (genN P : Int)]) := ps_ne (by omega) q3'
      show PW _ _ _ 63 _ [] _ _ _ _
      refine r_aload_n dX4_convolve_63 (i := 0) rfl rfl (r_aload_n dX4_convolve_64 (i := 3) rfl rfl (r_aload dX4_convolve_65 rfl (r_iload dX4_convolve_67 rfl (r_lload dX4_convolve_69 rfl ?_))))
      have hcf9 : ∀ k : Nat, (k : Int) < c → ∀ x y : Int, Cg P x (pwI (L : Int) (P - 2) P * pwI t (P - 2) P ^ k) → Cg P y (pwI (rtI P L) (P - 2) P ^ k) → Cg P (x * SM (fun j => sp' (j : Int) * y ^ j) L) ((fun k => cfI kd L k f h lb.toNat la.toNat) (k : Int)) := fun k hk2 x y hx hy => by
        have hcv := conv (k := k) (la := la.toNat) (lb := lb.toNat) (kd := kd) (f := f) (h := h) (t := t) (tb := pwI t (P - 2) P) (Li := pwI (L : Int) (P - 2) P) p3 hL.1 hw (inv_cg p3 hp.1 htnd) (inv_cg p3 hp.1 hLnd) htL hkd (by omega) (by omega)
        refine (hx.mul (Cg.sm L (fun j hj => ?_))).trans hcv
        exact ((hsp' j hj).2).mul (hy.pow j)
      have hspb : ∀ j : Int, 0 ≤ j → j < L → 0 ≤ sp' j ∧ sp' j < P := fun j j0 j1 => by
        obtain ⟨j', rfl⟩ := Int.eq_ofNat_of_zero_le j0
        exact (hsp' j' (by omega)).1
      refine c_vq dX4_convolve_71 (c_X4_widen (L := L) (cf := fun k => cfI kd L k f h lb.toNat la.toNat) g01 hS1.2.1 gp1 hS1.1 q31 ⟨by omega, by omega, by omega⟩ hp p3 hL (by omega) ⟨by omega, ht.2⟩ ⟨hrad1, by omega⟩ hnd hspb (fun k k0 k1 => (hv k k0 k1).1) hcf9) rfl rfl mq_X4_widen ml_X4_41 ⟨Nat.le_of_ble_eq_true rfl, Nat.le_of_ble_eq_true rfl⟩ g01 rfl rfl rfl (Nat.le_of_ble_eq_true rfl) (fun E S' h => by simp at h) (fun v S' hw5 => ?_)
      obtain ⟨d1, vf', hvf', rfl⟩ := hw5
      cases d1
      have hS2 := hS1.vf (vf' := vf') (by omega)
      have gp2 : (ps_put (ps_put S (m + 1) (cI 64 sp')) (pr + 1) (cJ 64 vf')).1 q = some (cO 1 [vi (P : Int), .ref (q + 1), vi (fc2 : Int), vi (genN P : Int)]) := ps_ne (by omega) q31
      show PW _ _ _ 74 _ [] _ _ _ _
      refine r_lload dX4_convolve_74 rfl (r_aload dX4_convolve_76 rfl (r_get dX4_convolve_78 fl_X4_45 gp2 rfl (r_i2l dX4_convolve_81 (by omega) (r_lmul dX4_convolve_82 ?_))))
      refine r_lstore dX4_convolve_83 rfl (Nat.le_of_ble_eq_true rfl) (r_iinc dX4_convolve_85 rfl rfl (r_goto 6 dX4_convolve_88 (by decide) ?_))
      rw [← hstep]
      refine r_loc [(0, some (.ref m)), (1, some (.ref sa)), (2, some (.ref sb)), (3, some (.ref pr)), (4, some (vl (bpS B (i + 1)))), (6, some (vi ((i + 1 : Nat) : Int)))] ⟨Or.inl rfl, Or.inl rfl, Or.inl rfl, Or.inl rfl, Or.inl rfl, Or.inl rfl, trivial⟩ (ih (i + 1) (by omega) _ vf' sp' hS2 (fun k k0 k1 => ?_))
      obtain ⟨w1, w2, d, w3⟩ := hvf' k k0 k1
      obtain ⟨u1, y, u2⟩ := hv k k0 k1
      rw [hstep]
      refine ⟨w1, ?_⟩
      have e3 : vf' k - cfI kd L k f h lb.toNat la.toNat = bpS B i * (d + y) := by
        rw [Int.mul_add, ← u2, w3]
        omega
      have w2' : (P : Int) ∣ vf' k - cfI kd L k f h lb.toNat la.toNat := w2
      rw [e3] at w2' ⊢
      rcases int_pr_mul p3 w2' with z | z
      · exact absurd z hnd
      · obtain ⟨z1, z2⟩ := z
        exact ⟨z1, by rw [z2, Int.mul_assoc]⟩
    refine r_iload dX4_convolve_6 rfl (r_aload_n dX4_convolve_8 (i := 3) rfl rfl (r_get dX4_convolve_9 fl_X4_15 gp rfl ?_))
    refine r_icmp_ge 91 dX4_convolve_12 (by decide) (by omega) (by omega) (fun c1 => ?_) (fun c1 => ?_)
    · omega
    · refine r_aload_n dX4_convolve_15 (i := 3) rfl rfl (r_get dX4_convolve_16 fl_X4_21 gp rfl (r_iload dX4_convolve_19 rfl (r_aald dX4_convolve_21 gf rfl (by omega) (by omega) (by omega) q1 (r_astore dX4_convolve_22 rfl (Nat.le_of_ble_eq_true rfl) ?_))))
      refine r_aload_n dX4_convolve_24 (i := 3) rfl rfl (r_get dX4_convolve_25 fl_X4_25 gp rfl (r_iconst dX4_convolve_28 ?_))
      refine r_icmp_ne 46 dX4_convolve_29 (by decide) (by omega) (by omega) (fun c2 => ?_) (fun c2 => ?_)
      · refine r_iconst dX4_convolve_46 ?_
        exact r_loc [(0, some (.ref m)), (1, some (.ref sa)), (2, some (.ref sb)), (3, some (.ref pr)), (4, some (vl (bpS B i))), (6, some (vi (i : Int))), (7, some (.ref q))] ⟨Or.inl rfl, Or.inl rfl, Or.inl rfl, Or.inl rfl, Or.inl rfl, Or.inl rfl, Or.inl rfl, trivial⟩ (main 1 (by omega) (by rw [Int.one_pow, if_neg c2]; exact Cg.refl _))
      · rw [if_pos c2] at hroot
        have hd2 : (P - 1) % (2 * L) = 0 := by
          have h5 : (((P - 1 : Nat) : Int)) % ((2 * L : Nat) : Int) = 0 := by rw [show (((P - 1 : Nat) : Int)) = (P : Int) - 1 by omega, show ((2 * L : Nat) : Int) = 2 * (L : Int) by omega]; exact hroot
          omega
        have hr2 := (rt_ok p3 hp.1 (show 0 < 2 * L by omega) hd2).2
        have hrb := rtI_bd (p := P) (n := 2 * L) (by omega)
        have hc2r : PC g yX1_rootOfOrder cX1_rootOfOrder (iX1_rootOfOrder 0 0) [.ref q, vi (2 * (L : Int))] S (Rt (some (vi (rtI P (2 * L)))) S) := by
          have := c_X1_rootI (g := g) (mc := 0) (ms := 0) (n := 2 * (L : Int)) q3' hp p3 (by omega)
          rw [show (2 * (L : Int)).toNat = 2 * L by omega] at this
          exact this
        refine r_aload dX4_convolve_32 rfl (r_iconst dX4_convolve_34 (r_aload_n dX4_convolve_35 (i := 3) rfl rfl (r_get dX4_convolve_36 fl_X4_28 gp rfl (r_imul dX4_convolve_39 ?_))))
        refine c_vr dX4_convolve_40 (hc2r) rfl rfl mq_X1_rootOfOrder ml_X4_31 ⟨Nat.le_of_ble_eq_true rfl, Nat.le_of_ble_eq_true rfl⟩ q3' rfl rfl rfl (Nat.le_of_ble_eq_true rfl) (r_goto 47 dX4_convolve_43 (by decide) ?_)
        exact r_loc [(0, some (.ref m)), (1, some (.ref sa)), (2, some (.ref sb)), (3, some (.ref pr)), (4, some (vl (bpS B i))), (6, some (vi (i : Int))), (7, some (.ref q))] ⟨Or.inl rfl, Or.inl rfl, Or.inl rfl, Or.inl rfl, Or.inl rfl, Or.inl rfl, Or.inl rfl, trivial⟩ (main _ ⟨hr2, hrb.2⟩ (by rw [if_pos c2]; exact rt_neg p3 hp.1 (by omega) hd2))
theorem c_X4_convolve {m b sa sb L F : Nat} {c kd st md fc la lb : Int} {f h B vf sp : Int → Int} {pf : Int → Option Nat} (h0 : S.1 m = some (cO 4 [.ref (m + 1)])) (hms : S.1 (m + 1) = some (cI 64 sp)) (hpr : S.1 (b + 3) = some (pO b fc c kd st (L : Int) md)) (hv : S.1 (b + 4) = some (cJ 64 vf)) (hpf : S.1 (b + 5) = some (cR 6 6 pf)) (hA : SeqAt S sa la f) (hB : SeqAt S sb lb h) (hFl : ∀ j : Int, 0 ≤ j → j < fc → ∃ q, pf j = some q ∧ F ≤ q ∧ FldAt S q (B (145 + j)).toNat (genN (B (145 + j)).toNat)) (hFs : b + 6 ≤ F ∧ m + 2 ≤ F) (hne : b + 6 ≤ m) (hnA : b + 6 ≤ sa ∧ sa + 1 < m) (hnB : b + 6 ≤ sb ∧ sb + 1 < m) (hla : 0 ≤ la ∧ la ≤ 32) (hlb : 0 ≤ lb ∧ lb ≤ 32) (oA : TermsOk la f) (oB : TermsOk lb h) (hL : 1 ≤ L ∧ L ≤ 64) (hc : 0 ≤ c ∧ c ≤ L) (hkd : 0 ≤ kd ∧ kd ≤ 2) (hsz : (kd = 0 ∧ la + lb ≤ L + 1) ∨ (kd ≠ 0 ∧ la ≤ L ∧ lb ≤ L)) (hfc : 0 ≤ fc ∧ fc ≤ 6) (hBp : ∀ i : Int, 0 ≤ i → i < fc → 3 ≤ B (145 + i) ∧ B (145 + i) ≤ 100003 ∧ Pr (B (145 + i)).toNat) (hBd : ∀ i j : Int, 0 ≤ i → i < j → j < fc → B (145 + i) ≠ B (145 + j)) (hBr : ∀ i : Int, 0 ≤ i → i < fc → (B (145 + i) - 1) % (if kd = 2 then 2 * (L : Int) else (L : Int)) = 0) (hmd : md = bpS B fc.toNat) (hBm : md ≤ 4000000000000000000) (hv0 : ∀ k : Int, 0 ≤ k → k < c → vf k = 0) : PC g yX4_convolve cX4_convolve (iX4_convolve mc ms) [.ref m, .ref sa, .ref sb, .ref (b + 3)] S (fun o S' => o = .inl none ∧ ∃ vf' sp', CvS S S' (b + 3) m vf' sp' ∧ ∀ k : Int, 0 ≤ k → k < c → vf' k = ctr (cfI kd L k f h lb.toNat la.toNat) md) := by
  subst hmd
  have hpos := bpS_pos hBp fc.toNat (by omega)
  refine PC_of pnX4 rfl rfl rfl (Nat.le_of_ble_eq_true rfl) ?_
  refine r_lconst (z := 1) dX4_convolve_0 (by decide) (r_lstore dX4_convolve_1 rfl (Nat.le_of_ble_eq_true rfl) (r_iconst dX4_convolve_3 (r_istore dX4_convolve_4 rfl (Nat.le_of_ble_eq_true rfl) ?_)))
  refine r_loc [(0, some (.ref m)), (1, some (.ref sa)), (2, some (.ref sb)), (3, some (.ref (b + 3))), (4, some (vl (bpS B 0))), (6, some (vi ((0 : Nat) : Int)))] ⟨Or.inl rfl, Or.inl rfl, Or.inl rfl, Or.inl rfl, Or.inl rfl, Or.inl rfl, trivial⟩ ?_
  refine l_conv (S0 := S) (pr := b + 3) (F := F) h0 hpr hpf hA hB hFl ⟨by omega, hFs.2⟩ ⟨by omega, by omega, by omega, by omega, by omega⟩ ⟨by omega, by omega, by omega, by omega⟩ ⟨by omega, by omega, by omega, by omega⟩ hla hlb oA oB hL hc hkd hsz hfc hBp hBd hBr hBm (fun S1 vf1 sp1 hS1 hv1 => ?_) fc.toNat 0 (by omega) S vf sp ⟨hv, hms, fun _ _ _ => rfl, rfl⟩ (fun k k0 k1 => ?_)
  · have gp : S1.1 (b + 3) = some (pO b fc c kd st (L : Int) (bpS B fc.toNat)) := by rw [hS1.2.2.1 _ (by omega) (by omega)]; exact hpr
    refine r_aload_n dX4_convolve_91 (i := 3) rfl rfl (c_vn dX4_convolve_92 (c_X6_centre gp hS1.1 (by omega) ⟨hpos, hBm⟩ (fun k k0 k1 => (hv1 k k0 k1).1)) rfl rfl mq_X6_centre ml_X4_48 ⟨Nat.le_of_ble_eq_true rfl, Nat.le_of_ble_eq_true rfl⟩ gp rfl rfl rfl (Nat.le_of_ble_eq_true rfl) (r_vret dX4_convolve_95 rfl ?_))
    refine ⟨rfl, _, sp1, hS1.vf (by omega), fun k k0 k1 => ?_⟩
    obtain ⟨u1, u2⟩ := hv1 k k0 k1
    rw [mix_in ⟨k0, k1⟩]
    have e : cfI kd L k f h lb.toNat la.toNat % bpS B fc.toNat = vf1 k := by
      have h1 := Int.emod_eq_emod_iff_emod_sub_eq_zero.mpr (Int.emod_eq_zero_of_dvd u2)
      rw [Int.emod_eq_of_lt u1.1 u1.2] at h1
      exact h1.symm
    unfold ctF ctr
    rw [e]
  · rw [hv0 k k0 k1]
    refine ⟨⟨Int.le_refl _, by show (0 : Int) < 1; omega⟩, ?_⟩
    exact ⟨_, (Int.one_mul _).symm⟩
end CONVL

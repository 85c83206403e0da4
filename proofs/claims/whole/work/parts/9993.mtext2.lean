/-! the model's texts: isWord, isSign, must, sees over its token -/
theorem skP_run {P : Int → Bool} : ∀ (k u : Nat) (p : Int), k ≤ u → (∀ i : Nat, i < k → P (p + (i : Int)) = true) → P (p + (k : Int)) = false → skP P u p = p + (k : Int)
  | 0, u, p, _, _, h => by
    rw [skP_fix (by simpa using h) u]
    omega
  | k + 1, 0, p, h, _, _ => absurd h (by omega)
  | k + 1, u + 1, p, h, h1, h2 => by
    have e : skP P (u + 1) p = if P p = true then skP P u (p + 1) else p := rfl
    have h0 := h1 0 (by omega)
    rw [show p + ((0 : Nat) : Int) = p by omega] at h0
    rw [e, if_pos h0, skP_run k u (p + 1) (by omega) (fun i hi => by
      have := h1 (i + 1) (by omega)
      rw [show p + 1 + (i : Int) = p + ((i + 1 : Nat) : Int) by omega]
      exact this) (by rw [show p + 1 + (k : Int) = p + ((k + 1 : Nat) : Int) by omega]; exact h2)]
    omega
/-- letters only, at least one -/
def LwL (L : List Int) : Prop := 0 < L.length ∧ L.length < 128 ∧ ∀ i : Nat, i < L.length → 97 ≤ L.getD i 0 ∧ L.getD i 0 ≤ 122
theorem LwP : LwL chP := ⟨by decide, by decide, by decide⟩
theorem LwS : LwL chS := ⟨by decide, by decide, by decide⟩
theorem wd_lt {B : Int → Int} {n : Int} (hB : BOk B n) {L : List Int} (hL : LwL L) {q : Int} (h : wdB B L q) : q < n ∧ ltB B q = true ∧ ltE B q = q + (L.length : Int) := by
  have h0 := h.1 0 hL.1
  have l0 := hL.2.2 0 hL.1
  rw [show q + ((0 : Nat) : Int) = q by omega] at h0
  refine ⟨?_, by unfold ltB; rw [decide_eq_true_eq]; omega, ?_⟩
  · rcases Int.lt_or_le q n with z | z
    · exact z
    · have := hB.2.2 q z
      omega
  · exact skP_run L.length 600 q (by have := hL.2.1; omega) (fun i hi => by
      have h1 := h.1 i hi
      have l1 := hL.2.2 i hi
      unfold ltB
      rw [decide_eq_true_eq]
      omega) (by
      unfold ltB
      rw [decide_eq_false_iff_not]
      exact h.2)
theorem wd_of {B : Int → Int} {n : Int} (hB : BOk B n) {L : List Int} {q : Int} (h0 : 0 ≤ q) (h1 : q ≤ n) (he : ltE B q = q + (L.length : Int)) (h : ∀ i : Nat, i < L.length → B (q + (i : Int)) = L.getD i 0) : wdB B L q := by
  have h2 := (ltE_ok hB h0 h1).1
  rw [he] at h2
  exact ⟨h, of_decide_eq_false h2⟩
theorem tkK_1 {B : Int → Int} {n q : Int} (hB : BOk B n) : tkK B n q = 1 ↔ dgB B q = true := by
  unfold tkK
  constructor
  · intro h
    split at h
    · omega
    · split at h
      · omega
      · split at h
        · assumption
        · omega
  · intro h
    have hlt := dg_lt hB h
    have hd := of_decide_eq_true h
    rw [if_neg (by omega), if_neg (by unfold ltB; rw [decide_eq_true_eq]; omega), if_pos h]
section MTOK
variable {g : GT} {S0 S : PS} {mc ms : Nat} {Q : PO → PS → Prop} {kc ks : Nat} {m : Nat} {bf fr : Int → Int} {km th bu sz ea bs bw bt' : Int}
/-- the model at the token at q, with the row fr that it reads -/
def TM (S0 S : PS) (m : Nat) (bf : Int → Int) (km th bu sz ea bs bw bt' q : Int) (fr : Int → Int) : Prop := (∀ z : Nat, z ≠ m → z ≠ m + 2 → S.1 z = S0.1 z) ∧ S.2 = S0.2 ∧ S.1 (m + 2) = some (cJ 215 fr) ∧ S0.1 (m + 4) = some (cI 600 bf) ∧ (∀ i : Int, 0 ≤ i → i < sz → 0 ≤ bf i ∧ bf i ≤ 255) ∧ (0 ≤ sz ∧ sz ≤ 600) ∧ (0 ≤ q ∧ q ≤ sz) ∧ ∃ wa nu : Int, S.1 m = some (mO m km th bu sz q (tkE (seeI bf sz) sz q) (tkK (seeI bf sz) sz q) 0 wa ea nu bs bw bt') ∧ (dgB (seeI bf sz) q = true → nu = nmM (seeI bf sz) 600 q 0)
/-- the model behind an error er at p -/
def WM (S0 S : PS) (m : Nat) (bf : Int → Int) (km th bu sz ea bs bw bt' er p : Int) (fr : Int → Int) : Prop := (∀ z : Nat, z ≠ m → z ≠ m + 2 → S.1 z = S0.1 z) ∧ S.2 = S0.2 ∧ S.1 (m + 2) = some (cJ 215 fr) ∧ (-4 ≤ er ∧ er < 0) ∧ ∃ at' be ki nu : Int, S.1 m = some (mO m km th bu sz at' be ki er p ea nu bs bw bt')
theorem c_X10_fT {c q : Int} (hT : TM S0 S m bf km th bu sz ea bs bw bt' q fr) (hc : -4 ≤ c ∧ c < 0) : PC g yX10_fails cX10_fails (iX10_fails mc ms) [.ref m, vi c] S (fun o S' => o = .inl none ∧ WM S0 S' m bf km th bu sz ea bs bw bt' c q fr) := by
  obtain ⟨t1, t2, t3, t4, t5, t6, t7, wa, nu, t8, t10⟩ := hT
  refine (c_X10_fails0 t8).mono (fun o S' hh => ?_)
  obtain ⟨e1, e2⟩ := hh
  subst e2
  exact ⟨e1, fun z z1 z2 => by rw [← t1 z z1 z2]; exact ps_ne z1 rfl, t2, ps_ne (by omega) t3, hc, _, _, _, _, ps_same⟩
theorem c_X10_fW {c er p : Int} (hW : WM S0 S m bf km th bu sz ea bs bw bt' er p fr) : PC g yX10_fails cX10_fails (iX10_fails mc ms) [.ref m, vi c] S (Rt none S) := by
  obtain ⟨t1, t2, t3, t4, a1, a2, a3, a4, t5⟩ := hW
  exact c_X10_fails1 t5 (by omega) (by omega)
theorem TM.o {q : Int} (hT : TM S0 S m bf km th bu sz ea bs bw bt' q fr) : ∃ wa nu : Int, S.1 m = some (mO m km th bu sz q (tkE (seeI bf sz) sz q) (tkK (seeI bf sz) sz q) 0 wa ea nu bs bw bt') := by
  obtain ⟨t1, t2, t3, t4, t5, t6, t7, wa, nu, t8, t10⟩ := hT
  exact ⟨wa, nu, t8⟩
theorem c_X10_nT {q : Int} (hT : TM S0 S m bf km th bu sz ea bs bw bt' q fr) : PC g yX10_next cX10_next (iX10_next mc ms) [.ref m] S (fun o S' => o = .inl none ∧ TM S0 S' m bf km th bu sz ea bs bw bt' (sk (seeI bf sz) (tkE (seeI bf sz) sz q)) fr) := by
  obtain ⟨t1, t2, t3, t4, t5, t6, t7, wa, nu, t8, t10⟩ := hT
  have hB : BOk (seeI bf sz) sz := seeI_ok t6
  have he := tkE_ok hB t7.1 t7.2
  have hk := sk_ok hB (p := tkE (seeI bf sz) sz q) (by omega) he.2
  refine (c_X10_next t8 (by rw [t1 _ (by omega) (by omega)]; exact t4) t5 t6 ⟨by omega, he.2⟩).mono (fun o S' hh => ?_)
  obtain ⟨e1, e2⟩ := hh
  subst e2
  refine ⟨e1, fun z z1 z2 => by rw [← t1 z z1 z2]; exact ps_ne z1 rfl, t2, ps_ne (by omega) t3, t4, t5, t6, ⟨by omega, hk.2.2⟩, wa, _, ps_same, fun hd => ?_⟩
  have hlt := dg_lt hB hd
  have hdd := of_decide_eq_true hd
  unfold tkN
  rw [if_neg (by omega), if_neg (by unfold ltB; rw [decide_eq_true_eq]; omega), if_pos hd]
theorem c_X10_must1 {q : Int} (hT : TM S0 S m bf km th bu sz ea bs bw bt' q fr) : PC g yX10_must cX10_must (iX10_must mc ms) [.ref m, vi 1] S (fun o S' => o = .inl none ∧ TM S0 S' m bf km th bu sz ea bs bw bt' (sk (seeI bf sz) (tkE (seeI bf sz) sz q)) fr) := by
  obtain ⟨wa, nu, ho⟩ := hT.o
  refine PC_of pnX10 rfl rfl rfl (Nat.le_of_ble_eq_true rfl) ?_
  refine r_iload_n dX10_must_0 (i := 1) rfl rfl ?_
  refine r_if_ne 10 dX10_must_1 (by decide) (by omega) (fun c1 => ?_) (fun c1 => ?_)
  · refine r_aload_n dX10_must_10 (i := 0) rfl rfl (r_get dX10_must_11 fl_X10_82 ho rfl ?_)
    refine r_if_ne 21 dX10_must_14 (by decide) (by omega) (fun c2 => ?_) (fun c2 => ?_)
    · omega
    · refine r_aload_n dX10_must_17 (i := 0) rfl rfl ?_
      refine c_vq dX10_must_18 (c_X10_nT hT) rfl rfl mq_X10_next ml_X10_102 ⟨Nat.le_of_ble_eq_true rfl, Nat.le_of_ble_eq_true rfl⟩ ho rfl rfl rfl (Nat.le_of_ble_eq_true rfl) (fun E S' h => by simp at h) (fun v S2 hn => ?_)
      obtain ⟨e1, e2⟩ := hn
      cases e1
      show PW _ _ _ 21 _ [] _ _ _ _
      refine r_vret dX10_must_21 rfl ?_
      exact ⟨rfl, e2⟩
  · omega
theorem c_X10_must0 {q : Int} (hT : TM S0 S m bf km th bu sz ea bs bw bt' q fr) : PC g yX10_must cX10_must (iX10_must mc ms) [.ref m, vi 0] S (fun o S' => o = .inl none ∧ WM S0 S' m bf km th bu sz ea bs bw bt' (-2) q fr) := by
  obtain ⟨wa, nu, ho⟩ := hT.o
  refine PC_of pnX10 rfl rfl rfl (Nat.le_of_ble_eq_true rfl) ?_
  refine r_iload_n dX10_must_0 (i := 1) rfl rfl ?_
  refine r_if_ne 10 dX10_must_1 (by decide) (by omega) (fun c1 => ?_) (fun c1 => ?_)
  · omega
  · refine r_aload_n dX10_must_4 (i := 0) rfl rfl (r_bipush dX10_must_5 (by decide) ?_)
    refine c_vq dX10_must_7 (c_X10_fT hT ⟨by omega, by omega⟩) rfl rfl mq_X10_fails ml_X10_98 ⟨Nat.le_of_ble_eq_true rfl, Nat.le_of_ble_eq_true rfl⟩ ho rfl rfl rfl (Nat.le_of_ble_eq_true rfl) (fun E S' h => by simp at h) (fun v S2 hn => ?_)
    obtain ⟨e1, e2⟩ := hn
    cases e1
    obtain ⟨t1, t2, t3, t4, a1, a2, a3, a4, t5⟩ := id e2
    show PW _ _ _ 10 _ [] _ _ _ _
    refine r_aload_n dX10_must_10 (i := 0) rfl rfl (r_get dX10_must_11 fl_X10_82 t5 rfl ?_)
    refine r_if_ne 21 dX10_must_14 (by decide) (by omega) (fun c2 => ?_) (fun c2 => ?_)
    · refine r_vret dX10_must_21 rfl ?_
      exact ⟨rfl, e2⟩
    · omega
theorem c_X10_mustW {er p b : Int} (hW : WM S0 S m bf km th bu sz ea bs bw bt' er p fr) (hb : RI b) : PC g yX10_must cX10_must (iX10_must mc ms) [.ref m, vi b] S (Rt none S) := by
  obtain ⟨t1, t2, t3, t4, a1, a2, a3, a4, t5⟩ := id hW
  have hfin : ∀ L, lk L 0 = some (.ref m) → PW g cX10_must (iX10_must mc ms) 10 L [] S mc ms (Rt none S) := fun L hL0 => by
    refine r_loc [(0, some (.ref m))] ⟨Or.inl hL0.symm, trivial⟩ ?_
    refine r_aload_n dX10_must_10 (i := 0) rfl rfl (r_get dX10_must_11 fl_X10_82 t5 rfl ?_)
    refine r_if_ne 21 dX10_must_14 (by decide) (by omega) (fun c2 => ?_) (fun c2 => ?_)
    · refine r_vret dX10_must_21 rfl ?_
      exact ⟨rfl, rfl⟩
    · omega
  refine PC_of pnX10 rfl rfl rfl (Nat.le_of_ble_eq_true rfl) ?_
  refine r_iload_n dX10_must_0 (i := 1) rfl rfl ?_
  refine r_if_ne 10 dX10_must_1 (by decide) (by omega) (fun c1 => ?_) (fun c1 => ?_)
  · exact hfin _ rfl
  · refine r_aload_n dX10_must_4 (i := 0) rfl rfl (r_bipush dX10_must_5 (by decide) (c_vn dX10_must_7 (c_X10_fW hW) rfl rfl mq_X10_fails ml_X10_98 ⟨Nat.le_of_ble_eq_true rfl, Nat.le_of_ble_eq_true rfl⟩ t5 rfl rfl rfl (Nat.le_of_ble_eq_true rfl) ?_))
    exact hfin _ rfl
theorem c_X10_isSignT {q c : Int} (hT : TM S0 S m bf km th bu sz ea bs bw bt' q fr) (hc : c = 59 ∨ c = 45) : PC g yX10_isSign cX10_isSign (iX10_isSign mc ms) [.ref m, vi c] S (Rt (some (vi (b2i (seeI bf sz q = c)))) S) := by
  obtain ⟨t1, t2, t3, t4, t5, t6, t7, wa, nu, t8, t10⟩ := hT
  have hB : BOk (seeI bf sz) sz := seeI_ok t6
  have h4 : S.1 (m + 4) = some (cI 600 bf) := by rw [t1 _ (by omega) (by omega)]; exact t4
  have hkk : (tkK (seeI bf sz) sz q = 2 ∧ q < sz) ∨ (tkK (seeI bf sz) sz q ≠ 2 ∧ seeI bf sz q ≠ c ∧ (0 ≤ tkK (seeI bf sz) sz q ∧ tkK (seeI bf sz) sz q ≤ 3)) := by
    unfold tkK
    by_cases z1 : sz ≤ q
    · have := hB.2.2 q z1
      rw [if_pos z1]
      omega
    · rw [if_neg z1]
      by_cases z2 : ltB (seeI bf sz) q = true
      · have := of_decide_eq_true z2
        rw [if_pos z2]
        omega
      · rw [if_neg z2]
        by_cases z3 : dgB (seeI bf sz) q = true
        · have := of_decide_eq_true z3
          rw [if_pos z3]
          omega
        · rw [if_neg z3]
          omega
  refine PC_of pnX10 rfl rfl rfl (Nat.le_of_ble_eq_true rfl) ?_
  refine r_aload_n dX10_isSign_0 (i := 0) rfl rfl (r_get dX10_isSign_1 fl_X10_82 t8 rfl ?_)
  refine r_if_ne 32 dX10_isSign_4 (by decide) (by omega) (fun c1 => ?_) (fun c1 => ?_)
  · omega
  · refine r_aload_n dX10_isSign_7 (i := 0) rfl rfl (r_get dX10_isSign_8 fl_X10_64 t8 rfl (r_iconst dX10_isSign_11 ?_))
    refine r_icmp_ne 32 dX10_isSign_12 (by decide) (by omega) (by omega) (fun c2 => ?_) (fun c2 => ?_)
    · refine r_iconst dX10_isSign_32 (r_iret dX10_isSign_33 rfl (q_narZ (by first | exact Or.inl rfl | exact Or.inr rfl)) ?_)
      exact ⟨by rw [b2i_f (by omega)], rfl⟩
    · have hbq := t5 q t7.1 (by omega)
      have es : seeI bf sz q = bf q := by unfold seeI; rw [if_pos (by omega), Int.emod_eq_of_lt hbq.1 (by omega)]
      rw [es]
      refine r_aload_n dX10_isSign_15 (i := 0) rfl rfl (r_get dX10_isSign_16 fl_X10_19 t8 rfl (r_aload_n dX10_isSign_19 (i := 0) rfl rfl (r_get dX10_isSign_20 fl_X10_57 t8 rfl (r_iald dX10_isSign_23 h4 (by omega) (by omega) (by omega) ?_))))
      refine r_iload_n dX10_isSign_24 (i := 1) rfl rfl ?_
      refine r_icmp_ne 32 dX10_isSign_25 (by decide) (by omega) (by omega) (fun c3 => ?_) (fun c3 => ?_)
      · refine r_iconst dX10_isSign_32 (r_iret dX10_isSign_33 rfl (q_narZ (by first | exact Or.inl rfl | exact Or.inr rfl)) ?_)
        exact ⟨by rw [b2i_f (by omega)], rfl⟩
      · refine r_iconst dX10_isSign_28 (r_goto 33 dX10_isSign_29 (by decide) (r_iret dX10_isSign_33 rfl (q_narZ (by first | exact Or.inl rfl | exact Or.inr rfl)) ?_))
        exact ⟨by rw [b2i_t (by omega)], rfl⟩
theorem c_X10_isSignW {er p c : Int} (hW : WM S0 S m bf km th bu sz ea bs bw bt' er p fr) : PC g yX10_isSign cX10_isSign (iX10_isSign mc ms) [.ref m, vi c] S (Rt (some (vi 0)) S) := by
  obtain ⟨t1, t2, t3, t4, a1, a2, a3, a4, t5⟩ := id hW
  refine PC_of pnX10 rfl rfl rfl (Nat.le_of_ble_eq_true rfl) ?_
  refine r_aload_n dX10_isSign_0 (i := 0) rfl rfl (r_get dX10_isSign_1 fl_X10_82 t5 rfl ?_)
  refine r_if_ne 32 dX10_isSign_4 (by decide) (by omega) (fun c1 => ?_) (fun c1 => ?_)
  · refine r_iconst dX10_isSign_32 (r_iret dX10_isSign_33 rfl (q_narZ (by first | exact Or.inl rfl | exact Or.inr rfl)) ?_)
    exact ⟨rfl, rfl⟩
  · omega
theorem c_X10_isWordW {er p : Int} {qs : Nat} (hW : WM S0 S m bf km th bu sz ea bs bw bt' er p fr) : PC g yX10_isWord cX10_isWord (iX10_isWord mc ms) [.ref m, .ref qs] S (Rt (some (vi 0)) S) := by
  obtain ⟨t1, t2, t3, t4, a1, a2, a3, a4, t5⟩ := id hW
  refine PC_of pnX10 rfl rfl rfl (Nat.le_of_ble_eq_true rfl) ?_
  refine r_aload_n dX10_isWord_0 (i := 0) rfl rfl (r_get dX10_isWord_1 fl_X10_82 t5 rfl ?_)
  refine r_if_ne 30 dX10_isWord_4 (by decide) (by omega) (fun c1 => ?_) (fun c1 => ?_)
  · refine r_iconst dX10_isWord_30 (r_iret dX10_isWord_31 rfl (q_narZ (by first | exact Or.inl rfl | exact Or.inr rfl)) ?_)
    exact ⟨rfl, rfl⟩
  · omega
theorem l_mword {q at' be ki wr wa nu : Int} {qs : Nat} {L : List Int} (hT : TxtB g) (hs : StrG g qs L) (h : S.1 m = some (mO m km th bu sz q be ki wr wa ea nu bs bw bt')) (h4 : S.1 (m + 4) = some (cI 600 bf)) (hb : ∀ i : Int, 0 ≤ i → i < sz → 0 ≤ bf i ∧ bf i ≤ 255) (hz : 0 ≤ q ∧ q + (L.length : Int) ≤ sz ∧ sz ≤ 600) (hy : (∀ i : Nat, i < L.length → seeI bf sz (q + (i : Int)) = L.getD i 0) → Q (.inl (some (vi 1))) S) (hn : ¬ (∀ i : Nat, i < L.length → seeI bf sz (q + (i : Int)) = L.getD i 0) → Q (.inl (some (vi 0))) S) : ∀ (u i : Nat), i + u = L.length → (∀ j : Nat, j < i → seeI bf sz (q + (j : Int)) = L.getD j 0) →
    PW g cX10_isWord (iX10_isWord mc ms) 34 [(0, some (.ref m)), (1, some (.ref qs)), (2, some (vi (i : Int)))] [] S kc ks Q := by
  intro u
  have hl := hs.2.2.2.1
  induction u with
  | zero =>
    intro i hi hm
    refine r_iload_n dX10_isWord_34 (i := 2) rfl rfl (r_aload_n dX10_isWord_35 (i := 1) rfl rfl ?_)
    refine c_vrK dX10_isWord_36 (c_J0_length hT hs) rfl rfl mq_J0_length_8abf5 ml_X10_85 ⟨Nat.le_of_ble_eq_true rfl, Nat.le_of_ble_eq_true rfl⟩ hs.1 rfl rfl (Nat.le_of_ble_eq_true rfl) ?_
    refine r_icmp_ge 69 dX10_isWord_39 (by decide) (by omega) (by omega) (fun c1 => ?_) (fun c1 => ?_)
    · refine r_iconst dX10_isWord_69 (r_iret dX10_isWord_70 rfl (q_narZ (by first | exact Or.inl rfl | exact Or.inr rfl)) ?_)
      exact hy (fun j hj => hm j (by omega))
    · omega
  | succ u ih =>
    intro i hi hm
    have hbi := hb (q + (i : Int)) (by omega) (by omega)
    have es : seeI bf sz (q + (i : Int)) = bf (q + (i : Int)) := by unfold seeI; rw [if_pos (by omega), Int.emod_eq_of_lt hbi.1 (by omega)]
    have hg : 0 ≤ L.getD ((i : Int)).toNat 0 ∧ L.getD ((i : Int)).toNat 0 < 128 := by
      have e : L.getD ((i : Int)).toNat 0 = L[i]'(by omega) := by
        rw [Int.toNat_natCast, List.getD_eq_getElem?_getD, List.getElem?_eq_getElem (by omega)]
        rfl
      rw [e]
      exact hs.2.2.1 _ (List.getElem_mem _)
    refine r_iload_n dX10_isWord_34 (i := 2) rfl rfl (r_aload_n dX10_isWord_35 (i := 1) rfl rfl ?_)
    refine c_vrK dX10_isWord_36 (c_J0_length hT hs) rfl rfl mq_J0_length_8abf5 ml_X10_85 ⟨Nat.le_of_ble_eq_true rfl, Nat.le_of_ble_eq_true rfl⟩ hs.1 rfl rfl (Nat.le_of_ble_eq_true rfl) ?_
    refine r_icmp_ge 69 dX10_isWord_39 (by decide) (by omega) (by omega) (fun c1 => ?_) (fun c1 => ?_)
    · omega
    · refine r_aload_n dX10_isWord_42 (i := 0) rfl rfl (r_get dX10_isWord_43 fl_X10_19 h rfl (r_aload_n dX10_isWord_46 (i := 0) rfl rfl (r_get dX10_isWord_47 fl_X10_57 h rfl (r_iload_n dX10_isWord_50 (i := 2) rfl rfl ?_))))
      refine r_iadd dX10_isWord_51 (r_iald dX10_isWord_52 h4 (by omega) (by omega) (by omega) (r_aload_n dX10_isWord_53 (i := 1) rfl rfl (r_iload_n dX10_isWord_54 (i := 2) rfl rfl ?_)))
      refine c_vrK dX10_isWord_55 (c_J0_charAt hT hs ⟨by omega, by omega⟩) rfl rfl mq_J0_charAt_5068e ml_X10_91 ⟨Nat.le_of_ble_eq_true rfl, Nat.le_of_ble_eq_true rfl⟩ hs.1 rfl rfl (Nat.le_of_ble_eq_true rfl) ?_
      refine r_icmp_eq 63 dX10_isWord_58 (by decide) (by omega) (by omega) (fun c2 => ?_) (fun c2 => ?_)
      · refine r_iinc dX10_isWord_63 rfl rfl (r_goto 34 dX10_isWord_66 (by decide) ?_)
        exact r_loc [(0, some (.ref m)), (1, some (.ref qs)), (2, some (vi ((i + 1 : Nat) : Int)))] ⟨Or.inl rfl, Or.inl rfl, Or.inl rfl, trivial⟩ (ih (i + 1) (by omega) (fun j hj => by
          by_cases e : j = i
          · subst e
            rw [es]
            exact c2
          · exact hm j (by omega)))
      · refine r_iconst dX10_isWord_61 (r_iret dX10_isWord_62 rfl (q_narZ (by first | exact Or.inl rfl | exact Or.inr rfl)) ?_)
        exact hn (fun z => c2 (by rw [← es]; exact z i (by omega)))
theorem c_X10_isWordT {q : Int} {qs : Nat} {L : List Int} (hX : TxtB g) (hs : StrG g qs L) (hL : LwL L) (hT : TM S0 S m bf km th bu sz ea bs bw bt' q fr) : PC g yX10_isWord cX10_isWord (iX10_isWord mc ms) [.ref m, .ref qs] S (Rt (some (vi (b2c (wdB (seeI bf sz) L q)))) S) := by
  obtain ⟨t1, t2, t3, t4, t5, t6, t7, wa, nu, t8, t10⟩ := hT
  have hB : BOk (seeI bf sz) sz := seeI_ok t6
  have h4 : S.1 (m + 4) = some (cI 600 bf) := by rw [t1 _ (by omega) (by omega)]; exact t4
  have he := tkE_ok hB t7.1 t7.2
  have hl := hs.2.2.2.1
  have hkk : (tkK (seeI bf sz) sz q = 0 ∧ tkE (seeI bf sz) sz q = ltE (seeI bf sz) q) ∨ (tkK (seeI bf sz) sz q ≠ 0 ∧ ¬ wdB (seeI bf sz) L q ∧ (0 ≤ tkK (seeI bf sz) sz q ∧ tkK (seeI bf sz) sz q ≤ 3)) := by
    unfold tkK tkE
    by_cases z1 : sz ≤ q
    · rw [if_pos z1, if_pos z1]
      exact Or.inr ⟨by omega, fun z => by have := (wd_lt hB hL z).1; omega, by omega⟩
    · rw [if_neg z1, if_neg z1]
      by_cases z2 : ltB (seeI bf sz) q = true
      · rw [if_pos z2, if_pos z2]
        exact Or.inl ⟨rfl, rfl⟩
      · rw [if_neg z2, if_neg z2]
        refine Or.inr ⟨?_, fun z => z2 (wd_lt hB hL z).2.1, ?_⟩
        · split <;> omega
        · split <;> omega
  refine PC_of pnX10 rfl rfl rfl (Nat.le_of_ble_eq_true rfl) ?_
  refine r_aload_n dX10_isWord_0 (i := 0) rfl rfl (r_get dX10_isWord_1 fl_X10_82 t8 rfl ?_)
  refine r_if_ne 30 dX10_isWord_4 (by decide) (by omega) (fun c1 => ?_) (fun c1 => ?_)
  · omega
  · refine r_aload_n dX10_isWord_7 (i := 0) rfl rfl (r_get dX10_isWord_8 fl_X10_64 t8 rfl ?_)
    refine r_if_ne 30 dX10_isWord_11 (by decide) (by omega) (fun c2 => ?_) (fun c2 => ?_)
    · refine r_iconst dX10_isWord_30 (r_iret dX10_isWord_31 rfl (q_narZ (by first | exact Or.inl rfl | exact Or.inr rfl)) ?_)
      exact ⟨by rw [b2c_f (hkk.elim (fun z => absurd z.1 c2) (fun z => z.2.1))], rfl⟩
    · refine r_aload_n dX10_isWord_14 (i := 0) rfl rfl (r_get dX10_isWord_15 fl_X10_54 t8 rfl (r_aload_n dX10_isWord_18 (i := 0) rfl rfl (r_get dX10_isWord_19 fl_X10_57 t8 rfl (r_isub dX10_isWord_22 ?_))))
      refine r_aload_n dX10_isWord_23 (i := 1) rfl rfl ?_
      refine c_vrK dX10_isWord_24 (c_J0_length hX hs) rfl rfl mq_J0_length_8abf5 ml_X10_85 ⟨Nat.le_of_ble_eq_true rfl, Nat.le_of_ble_eq_true rfl⟩ hs.1 rfl rfl (Nat.le_of_ble_eq_true rfl) ?_
      refine r_icmp_eq 32 dX10_isWord_27 (by decide) (by omega) (by omega) (fun c3 => ?_) (fun c3 => ?_)
      · refine r_iconst dX10_isWord_32 (r_istore_n dX10_isWord_33 (i := 2) rfl rfl (Nat.le_of_ble_eq_true rfl) ?_)
        have heE : tkE (seeI bf sz) sz q = ltE (seeI bf sz) q := by
          rcases hkk with z | z
          · exact z.2
          · exact absurd c2 z.1
        refine r_loc [(0, some (.ref m)), (1, some (.ref qs)), (2, some (vi ((0 : Nat) : Int)))] ⟨Or.inl rfl, Or.inl rfl, Or.inl rfl, trivial⟩ (l_mword (at' := 0) hX hs t8 h4 t5 ⟨t7.1, by omega, t6.2⟩ (fun z => ?_) (fun z => ?_) L.length 0 (by omega) (fun j hj => by omega))
        · exact ⟨by rw [b2c_t (wd_of hB t7.1 t7.2 (by omega) z)], rfl⟩
        · exact ⟨by rw [b2c_f (fun y => z y.1)], rfl⟩
      · refine r_iconst dX10_isWord_30 (r_iret dX10_isWord_31 rfl (q_narZ (by first | exact Or.inl rfl | exact Or.inr rfl)) ?_)
        refine ⟨?_, rfl⟩
        rw [b2c_f (fun z => ?_)]
        have hw := wd_lt hB hL z
        rcases hkk with y | y
        · omega
        · exact absurd z y.2.1
theorem c_X10_seesW {er p lo hi : Int} (hW : WM S0 S m bf km th bu sz ea bs bw bt' er p fr) : PC g yX10_sees cX10_sees (iX10_sees mc ms) [.ref m, vi lo, vi hi] S (Rt (some (vi lo)) S) := by
  obtain ⟨t1, t2, t3, t4, a1, a2, a3, a4, t5⟩ := id hW
  refine PC_of pnX10 rfl rfl rfl (Nat.le_of_ble_eq_true rfl) ?_
  refine r_aload_n dX10_sees_0 (i := 0) rfl rfl (r_get dX10_sees_1 fl_X10_82 t5 rfl ?_)
  refine r_if_ne 24 dX10_sees_4 (by decide) (by omega) (fun c1 => ?_) (fun c1 => ?_)
  · refine r_aload_n dX10_sees_24 (i := 0) rfl rfl (r_get dX10_sees_25 fl_X10_82 t5 rfl ?_)
    refine r_if_ne 51 dX10_sees_28 (by decide) (by omega) (fun c2 => ?_) (fun c2 => ?_)
    · refine r_aload_n dX10_sees_51 (i := 0) rfl rfl (r_get dX10_sees_52 fl_X10_82 t5 rfl ?_)
      refine r_if_ne 66 dX10_sees_55 (by decide) (by omega) (fun c3 => ?_) (fun c3 => ?_)
      · refine r_iload_n dX10_sees_66 (i := 1) rfl rfl (r_iret dX10_sees_67 rfl rfl ?_)
        exact ⟨rfl, rfl⟩
      · omega
    · omega
  · omega
theorem c_X10_seesT {q lo hi : Int} (hT : TM S0 S m bf km th bu sz ea bs bw bt' q fr) (hl : 0 ≤ lo ∧ lo ≤ 100) (hh : 0 ≤ hi ∧ hi ≤ 900000) : PC g yX10_sees cX10_sees (iX10_sees mc ms) [.ref m, vi lo, vi hi] S (fun o S' => (dgB (seeI bf sz) q = true ∧ (lo ≤ nmB (seeI bf sz) 600 q 0 ∧ nmB (seeI bf sz) 600 q 0 ≤ hi) ∧ o = .inl (some (vi (nmB (seeI bf sz) 600 q 0))) ∧ S' = S) ∨ (o = .inl (some (vi lo)) ∧ dgB (seeI bf sz) q = true ∧ ¬ (lo ≤ nmB (seeI bf sz) 600 q 0 ∧ nmB (seeI bf sz) 600 q 0 ≤ hi) ∧ WM S0 S' m bf km th bu sz ea bs bw bt' (-3) q fr) ∨ (o = .inl (some (vi lo)) ∧ ¬ dgB (seeI bf sz) q = true ∧ WM S0 S' m bf km th bu sz ea bs bw bt' (-2) q fr)) := by
  obtain ⟨t1, t2, t3, t4, t5, t6, t7, wa, nu, t8, t10⟩ := id hT
  have hB : BOk (seeI bf sz) sz := seeI_ok t6
  have hk1 := tkK_1 (q := q) hB
  have hkr : 0 ≤ tkK (seeI bf sz) sz q ∧ tkK (seeI bf sz) sz q ≤ 3 := by
    unfold tkK
    split
    · omega
    · split
      · omega
      · split <;> omega
  have hnn := nmM_nmB (seeI bf sz) 600 q 0 0 (by omega) (by omega)
  refine PC_of pnX10 rfl rfl rfl (Nat.le_of_ble_eq_true rfl) ?_
  refine r_aload_n dX10_sees_0 (i := 0) rfl rfl (r_get dX10_sees_1 fl_X10_82 t8 rfl ?_)
  refine r_if_ne 24 dX10_sees_4 (by decide) (by omega) (fun c1 => ?_) (fun c1 => ?_)
  · omega
  · refine r_aload_n dX10_sees_7 (i := 0) rfl rfl (r_get dX10_sees_8 fl_X10_64 t8 rfl (r_iconst dX10_sees_11 ?_))
    refine r_icmp_eq 24 dX10_sees_12 (by decide) (by omega) (by omega) (fun c2 => ?_) (fun c2 => ?_)
    · have hd := hk1.mp c2
      have hnu := t10 hd
      subst hnu
      refine r_aload_n dX10_sees_24 (i := 0) rfl rfl (r_get dX10_sees_25 fl_X10_82 t8 rfl ?_)
      refine r_if_ne 51 dX10_sees_28 (by decide) (by omega) (fun c3 => ?_) (fun c3 => ?_)
      · omega
      · refine r_aload_n dX10_sees_31 (i := 0) rfl rfl (r_get dX10_sees_32 fl_X10_74 t8 rfl (r_iload_n dX10_sees_35 (i := 1) rfl rfl (r_i2l dX10_sees_36 (by omega) (r_iload_n dX10_sees_37 (i := 2) rfl rfl ?_))))
        refine r_i2l dX10_sees_38 (by omega) (c_sr dX10_sees_39 (c_X10_isIn ⟨by omega, by omega⟩ ⟨by omega, by omega⟩ ⟨by omega, by omega⟩) rfl rfl mq_X10_isIn ml_X10_46 ⟨Nat.le_of_ble_eq_true rfl, Nat.le_of_ble_eq_true rfl⟩ rfl rfl (Nat.le_of_ble_eq_true rfl) ?_)
        refine r_if_ne 51 dX10_sees_42 (by decide) b2i_RI (fun c4 => ?_) (fun c4 => ?_)
        · replace c4 := b2i_ne c4
          refine r_aload_n dX10_sees_51 (i := 0) rfl rfl (r_get dX10_sees_52 fl_X10_82 t8 rfl ?_)
          refine r_if_ne 66 dX10_sees_55 (by decide) (by omega) (fun c5 => ?_) (fun c5 => ?_)
          · omega
          · refine r_aload_n dX10_sees_58 (i := 0) rfl rfl (r_get dX10_sees_59 fl_X10_74 t8 rfl (r_l2i dX10_sees_62 (r_goto 67 dX10_sees_63 (by decide) (r_iret dX10_sees_67 rfl rfl ?_))))
            rw [show nmM (seeI bf sz) 600 q 0 = nmB (seeI bf sz) 600 q 0 by omega]
            exact Or.inl ⟨hd, by omega, rfl, rfl⟩
        · replace c4 := b2i_eq c4
          refine r_aload_n dX10_sees_45 (i := 0) rfl rfl (r_bipush dX10_sees_46 (by decide) ?_)
          refine c_vq dX10_sees_48 (c_X10_fT hT ⟨by omega, by omega⟩) rfl rfl mq_X10_fails ml_X10_98 ⟨Nat.le_of_ble_eq_true rfl, Nat.le_of_ble_eq_true rfl⟩ t8 rfl rfl rfl (Nat.le_of_ble_eq_true rfl) (fun E S' h => by simp at h) (fun v S2 hn => ?_)
          obtain ⟨e1, e2⟩ := hn
          cases e1
          obtain ⟨u1, u2, u3, u4, a1, a2, a3, a4, u5⟩ := id e2
          show PW _ _ _ 51 _ [] _ _ _ _
          refine r_aload_n dX10_sees_51 (i := 0) rfl rfl (r_get dX10_sees_52 fl_X10_82 u5 rfl ?_)
          refine r_if_ne 66 dX10_sees_55 (by decide) (by omega) (fun c5 => ?_) (fun c5 => ?_)
          · refine r_iload_n dX10_sees_66 (i := 1) rfl rfl (r_iret dX10_sees_67 rfl rfl ?_)
            exact Or.inr (Or.inl ⟨rfl, hd, by omega, e2⟩)
          · omega
    · refine r_aload_n dX10_sees_15 (i := 0) rfl rfl (r_bipush dX10_sees_16 (by decide) ?_)
      refine c_vq dX10_sees_18 (c_X10_fT hT ⟨by omega, by omega⟩) rfl rfl mq_X10_fails ml_X10_98 ⟨Nat.le_of_ble_eq_true rfl, Nat.le_of_ble_eq_true rfl⟩ t8 rfl rfl rfl (Nat.le_of_ble_eq_true rfl) (fun E S' h => by simp at h) (fun v S2 hn => ?_)
      obtain ⟨e1, e2⟩ := hn
      cases e1
      obtain ⟨u1, u2, u3, u4, a1, a2, a3, a4, u5⟩ := id e2
      show PW _ _ _ 21 _ [] _ _ _ _
      refine r_goto 51 dX10_sees_21 (by decide) (r_aload_n dX10_sees_51 (i := 0) rfl rfl (r_get dX10_sees_52 fl_X10_82 u5 rfl ?_))
      refine r_if_ne 66 dX10_sees_55 (by decide) (by omega) (fun c5 => ?_) (fun c5 => ?_)
      · refine r_iload_n dX10_sees_66 (i := 1) rfl rfl (r_iret dX10_sees_67 rfl rfl ?_)
        exact Or.inr (Or.inr ⟨rfl, fun z => c2 (hk1.mpr z), e2⟩)
      · omega
end MTOK

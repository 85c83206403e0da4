/-! the model's texts: readsSequence -/
section MSEQ
variable {g : GT} {S0 S : PS} {mc ms : Nat} {kc ks : Nat} {m : Nat} {bf a : Int → Int} {km th bu sz ea bs bw bt' : Int}
theorem tkE_d {B : Int → Int} {n q : Int} (hB : BOk B n) (h : dgB B q = true) : tkE B n q = dgE B q := by
  have h9 := dg_lt hB h
  have hdd := of_decide_eq_true h
  unfold tkE
  rw [if_neg (by omega), if_neg (by unfold ltB; rw [decide_eq_true_eq]; omega), if_pos h]
theorem tkE_s {B : Int → Int} {n q c : Int} (hB : BOk B n) (hc : c = 59 ∨ c = 45) (h : B q = c) : tkE B n q = q + 1 := by
  unfold tkE
  rw [if_neg (by
    intro z
    have := hB.2.2 _ z
    omega), if_neg (by unfold ltB; rw [decide_eq_true_eq]; omega), if_neg (by unfold dgB; rw [decide_eq_true_eq]; omega)]
/-- the terms lie in the row -/
def tmR (a : Int → Int) (s c : Int) (f : Int → Int) : Int → Int := mix (11 + 32 * s) (11 + 32 * s + c) (fun x => f (x - (11 + 32 * s))) a
theorem tmR_up {a f : Int → Int} {s c t : Int} (hc : 0 ≤ c) : upI (tmR a s c f) (11 + 32 * s + c) t = tmR a s (c + 1) (upI f c t) := by
  funext x
  unfold tmR
  by_cases e : x = 11 + 32 * s + c
  · subst e
    rw [upI_eq, mix_in (by omega), show 11 + 32 * s + c - (11 + 32 * s) = c by omega, upI_eq]
  · rw [upI_ne e]
    by_cases e2 : 11 + 32 * s ≤ x ∧ x < 11 + 32 * s + c
    · rw [mix_in e2, mix_in (by omega), upI_ne (by omega)]
    · rw [mix_out (by omega), mix_out (by omega)]
theorem c_X10_readsSequence {p : Int} (hX : TxtB g) (hL : TxtL g) (hT : TM S0 S m bf km th bu sz ea bs bw bt' p a) (hw : wdB (seeI bf sz) chS p) : PC g yX10_readsSequence cX10_readsSequence (iX10_readsSequence mc ms) [.ref m] S (fun o S' => o = .inl none ∧ RM1 S0 S' m bf km th bu sz ea bs bw bt' (seqB (seeI bf sz) p a)) := by
  have hB : BOk (seeI bf sz) sz := seeI_ok hT.2.2.2.2.2.1
  have hp := hT.2.2.2.2.2.2.1
  have hp5 := wdB_S hB hw
  have hlt := wd_lt hB LwS hw
  have heE : tkE (seeI bf sz) sz p = p + 8 := by
    unfold tkE
    rw [if_neg (by omega), if_pos hlt.2.1, hlt.2.2]
    rfl
  have hq := sk_ok hB (p := p + 8) (by omega) hp5
  have hd := dgE_ok hB (p := sk (seeI bf sz) (p + 8)) (by omega) hq.2.2
  generalize hR : seqB (seeI bf sz) p a = R
  -- behind an error: at 171, at 101 and at 82
  have hE171 : ∀ (S : PS) (fr : Int → Int) (er ps v k : Int), WM S0 S m bf km th bu sz ea bs bw bt' er ps fr → R.1 = er → R.2.1 = ps → PW g cX10_readsSequence (iX10_readsSequence mc ms) 171 [(0, some (.ref m)), (1, some (vi v)), (2, some (vi k))] [] S mc ms (fun o S' => o = .inl none ∧ RM1 S0 S' m bf km th bu sz ea bs bw bt' R) := fun S fr er ps v k hW r1 r2 => by
    obtain ⟨w1, w2, a1, a2, a3, a4, w3⟩ := hW.o
    refine r_aload_n dX10_readsSequence_171 (i := 0) rfl rfl (r_aload_n dX10_readsSequence_172 (i := 0) rfl rfl (r_bipush dX10_readsSequence_173 (by decide) (c_vr dX10_readsSequence_175 (c_X10_isSignW hW) rfl rfl mq_X10_isSign ml_X10_123 ⟨Nat.le_of_ble_eq_true rfl, Nat.le_of_ble_eq_true rfl⟩ w3 rfl rfl rfl (Nat.le_of_ble_eq_true rfl) (c_vn dX10_readsSequence_178 (c_X10_mustW hW ⟨by omega, by omega⟩) rfl rfl mq_X10_must ml_X10_111 ⟨Nat.le_of_ble_eq_true rfl, Nat.le_of_ble_eq_true rfl⟩ w3 rfl rfl rfl (Nat.le_of_ble_eq_true rfl) ?_))))
    refine r_aload_n dX10_readsSequence_181 (i := 0) rfl rfl (r_get dX10_readsSequence_182 fl_X10_82 w3 rfl ?_)
    refine r_if_ne 199 dX10_readsSequence_185 (by decide) (by omega) (fun c1 => ?_) (fun c1 => ?_)
    · refine r_vret dX10_readsSequence_199 rfl ?_
      subst r1
      subst r2
      exact ⟨rfl, Or.inr ⟨by omega, fr, hW⟩⟩
    · omega
  have hE113 : ∀ (S : PS) (fr : Int → Int) (er ps v k : Int) (L : List (Nat × Option Value)), lk L 0 = some (.ref m) → WM S0 S m bf km th bu sz ea bs bw bt' er ps fr → R.1 = er → R.2.1 = ps → PW g cX10_readsSequence (iX10_readsSequence mc ms) 113 L [] S mc ms (fun o S' => o = .inl none ∧ RM1 S0 S' m bf km th bu sz ea bs bw bt' R) := fun S fr er ps v k L hL0 hW r1 r2 => by
    obtain ⟨w1, w2, a1, a2, a3, a4, w3⟩ := hW.o
    refine r_loc [(0, some (.ref m))] ⟨Or.inl hL0.symm, trivial⟩ ?_
    refine r_aload_n dX10_readsSequence_113 (i := 0) rfl rfl (r_aload_n dX10_readsSequence_114 (i := 0) rfl rfl (r_get dX10_readsSequence_115 fl_X10_82 w3 rfl ?_))
    refine r_if_ne 125 dX10_readsSequence_118 (by decide) (by omega) (fun c1 => ?_) (fun c1 => ?_)
    · refine r_iconst dX10_readsSequence_125 (c_vn dX10_readsSequence_126 (c_X10_mustW hW ⟨by omega, by omega⟩) rfl rfl mq_X10_must ml_X10_111 ⟨Nat.le_of_ble_eq_true rfl, Nat.le_of_ble_eq_true rfl⟩ w3 rfl rfl rfl (Nat.le_of_ble_eq_true rfl) (r_aload_n dX10_readsSequence_129 (i := 0) rfl rfl (r_get dX10_readsSequence_130 fl_X10_82 w3 rfl ?_)))
      refine r_if_eq 137 dX10_readsSequence_133 (by decide) (by omega) (fun c2 => ?_) (fun c2 => ?_)
      · omega
      · refine r_vret dX10_readsSequence_136 rfl ?_
        subst r1
        subst r2
        exact ⟨rfl, Or.inr ⟨by omega, fr, hW⟩⟩
    · omega
  have hE99 : ∀ (S : PS) (fr : Int → Int) (er ps v k ng : Int), (0 ≤ k ∧ k ≤ 32) → WM S0 S m bf km th bu sz ea bs bw bt' er ps fr → R.1 = er → R.2.1 = ps → PW g cX10_readsSequence (iX10_readsSequence mc ms) 99 [(0, some (.ref m)), (1, some (vi v)), (2, some (vi k)), (3, some (vi ng))] [vi 0] S mc ms (fun o S' => o = .inl none ∧ RM1 S0 S' m bf km th bu sz ea bs bw bt' R) := fun S fr er ps v k ng hk hW r1 r2 => by
    obtain ⟨w1, w2, a1, a2, a3, a4, w3⟩ := hW.o
    refine r_istore dX10_readsSequence_99 rfl (Nat.le_of_ble_eq_true rfl) (r_iload_n dX10_readsSequence_101 (i := 2) rfl rfl (r_bipush dX10_readsSequence_102 (by decide) ?_))
    refine r_icmp_ne 113 dX10_readsSequence_104 (by decide) (by omega) (by omega) (fun c1 => ?_) (fun c1 => ?_)
    · exact hE113 S fr er ps v k _ rfl hW r1 r2
    · refine r_aload_n dX10_readsSequence_107 (i := 0) rfl rfl (r_bipush dX10_readsSequence_108 (by decide) (c_vn dX10_readsSequence_110 (c_X10_fW hW) rfl rfl mq_X10_fails ml_X10_98 ⟨Nat.le_of_ble_eq_true rfl, Nat.le_of_ble_eq_true rfl⟩ w3 rfl rfl rfl (Nat.le_of_ble_eq_true rfl) ?_))
      exact hE113 S fr er ps v k _ rfl hW r1 r2
  have hE82 : ∀ (S : PS) (fr : Int → Int) (er ps v k ng : Int), (0 ≤ k ∧ k ≤ 32) → (ng = 0 ∨ ng = 1) → WM S0 S m bf km th bu sz ea bs bw bt' er ps fr → R.1 = er → R.2.1 = ps → PW g cX10_readsSequence (iX10_readsSequence mc ms) 82 [(0, some (.ref m)), (1, some (vi v)), (2, some (vi k)), (3, some (vi ng))] [] S mc ms (fun o S' => o = .inl none ∧ RM1 S0 S' m bf km th bu sz ea bs bw bt' R) := fun S fr er ps v k ng hk hng hW r1 r2 => by
    obtain ⟨w1, w2, a1, a2, a3, a4, w3⟩ := hW.o
    refine r_iload_n dX10_readsSequence_82 (i := 3) rfl rfl ?_
    refine r_if_eq 91 dX10_readsSequence_83 (by decide) (by omega) (fun c1 => ?_) (fun c1 => ?_)
    · refine r_aload_n dX10_readsSequence_91 (i := 0) rfl rfl (r_iconst dX10_readsSequence_92 (r_sipush dX10_readsSequence_93 (by decide) (c_vr dX10_readsSequence_96 (c_X10_seesW hW) rfl rfl mq_X10_sees ml_X10_116 ⟨Nat.le_of_ble_eq_true rfl, Nat.le_of_ble_eq_true rfl⟩ w3 rfl rfl rfl (Nat.le_of_ble_eq_true rfl) ?_)))
      exact hE99 S fr er ps v k ng hk hW r1 r2
    · refine r_aload_n dX10_readsSequence_86 (i := 0) rfl rfl (r_iconst dX10_readsSequence_87 (c_vn dX10_readsSequence_88 (c_X10_mustW hW ⟨by omega, by omega⟩) rfl rfl mq_X10_must ml_X10_111 ⟨Nat.le_of_ble_eq_true rfl, Nat.le_of_ble_eq_true rfl⟩ w3 rfl rfl rfl (Nat.le_of_ble_eq_true rfl) (r_aload_n dX10_readsSequence_91 (i := 0) rfl rfl (r_iconst dX10_readsSequence_92 ?_))))
      refine r_sipush dX10_readsSequence_93 (by decide) (c_vr dX10_readsSequence_96 (c_X10_seesW hW) rfl rfl mq_X10_sees ml_X10_116 ⟨Nat.le_of_ble_eq_true rfl, Nat.le_of_ble_eq_true rfl⟩ w3 rfl rfl rfl (Nat.le_of_ble_eq_true rfl) ?_)
      exact hE99 S fr er ps v k ng hk hW r1 r2
  -- the loop over the terms
  have hlo : ∀ (v : Int) (f0 : Int × Int × Int × (Int → Int)), (0 ≤ v ∧ v ≤ 3) → ((f0.1 = 0 → R = semB (seeI bf sz) f0.2.1 (sqR a v f0.2.2.1 f0.2.2.2)) ∧ (f0.1 ≠ 0 → R.1 = f0.1 ∧ R.2.1 = f0.2.1)) → ∀ (u : Nat) (q c : Int) (f : Int → Int) (S : PS), 0 ≤ c → c ≤ 32 → c + u = 33 → seeI bf sz q ≠ 32 → trsB (seeI bf sz) u q c f = f0 → TM S0 S m bf km th bu sz ea bs bw bt' q (tmR a v c f) → PW g cX10_readsSequence (iX10_readsSequence mc ms) 35 [(0, some (.ref m)), (1, some (vi v)), (2, some (vi c))] [] S mc ms (fun o S' => o = .inl none ∧ RM1 S0 S' m bf km th bu sz ea bs bw bt' R) := fun v f0 hv hf0 u => by
    induction u with
    | zero => intro q c f S h0 h1 h2; omega
    | succ u ih =>
      intro q c f S hc hc2 hu hns hf hT
      obtain ⟨wa, nu, ho⟩ := hT.o
      have hqb := hT.2.2.2.2.2.2.1
      have e : trsB (seeI bf sz) (u + 1) q c f = if seeI bf sz q = 45 ∨ (48 ≤ seeI bf sz q ∧ seeI bf sz q ≤ 57) then (if (trmB (seeI bf sz) q c).1 = 0 then trsB (seeI bf sz) u (trmB (seeI bf sz) q c).2.1 (c + 1) (upI f c (trmB (seeI bf sz) q c).2.2) else ((trmB (seeI bf sz) q c).1, (trmB (seeI bf sz) q c).2.1, c, f)) else (0, q, c, f) := rfl
      rw [e] at hf
      have hk1 := tkK_1 (q := q) hB
      have hkr : 0 ≤ tkK (seeI bf sz) sz q ∧ tkK (seeI bf sz) sz q ≤ 3 := by
        unfold tkK
        split
        · omega
        · split
          · omega
          · split <;> omega
      -- a number with its sign
      have hnum : ∀ (S : PS) (sg q' ng : Int), ((ng = 1 ∧ sg = -1) ∨ (ng = 0 ∧ sg = 1)) → (seeI bf sz q = 45 ∨ (48 ≤ seeI bf sz q ∧ seeI bf sz q ≤ 57)) → trmB (seeI bf sz) q c = tmN (seeI bf sz) sg q' c → TM S0 S m bf km th bu sz ea bs bw bt' q' (tmR a v c f) → PW g cX10_readsSequence (iX10_readsSequence mc ms) 91 [(0, some (.ref m)), (1, some (vi v)), (2, some (vi c)), (3, some (vi ng))] [] S mc ms (fun o S' => o = .inl none ∧ RM1 S0 S' m bf km th bu sz ea bs bw bt' R) := fun S sg q' ng hng hcond htm hT' => by
        obtain ⟨wa', nu', ho'⟩ := hT'.o
        have hq'b := hT'.2.2.2.2.2.2.1
        rw [if_pos hcond, htm] at hf
        have hnb := nmB_bd hB 600 q' 0 (by omega) (by omega)
        refine r_aload_n dX10_readsSequence_91 (i := 0) rfl rfl (r_iconst dX10_readsSequence_92 (r_sipush dX10_readsSequence_93 (by decide) ?_))
        refine c_vq dX10_readsSequence_96 (c_X10_seesT hT' ⟨by omega, by omega⟩ ⟨by omega, by omega⟩) rfl rfl mq_X10_sees ml_X10_116 ⟨Nat.le_of_ble_eq_true rfl, Nat.le_of_ble_eq_true rfl⟩ ho' rfl rfl rfl (Nat.le_of_ble_eq_true rfl) (fun E S' h => by simp at h) (fun v S2 hn => ?_)
        rcases hn with ⟨n1, n2, n3, n4⟩ | ⟨n3, n1, n2, hW⟩ | ⟨n3, n1, hW⟩
        · cases n3
          subst n4
          show PW _ _ _ 99 _ [vi (nmB (seeI bf sz) 600 q' 0)] _ _ _ _
          refine r_istore dX10_readsSequence_99 rfl (Nat.le_of_ble_eq_true rfl) (r_iload_n dX10_readsSequence_101 (i := 2) rfl rfl (r_bipush dX10_readsSequence_102 (by decide) ?_))
          refine r_icmp_ne 113 dX10_readsSequence_104 (by decide) (by omega) (by omega) (fun c1 => ?_) (fun c1 => ?_)
          · have ht0 : tmN (seeI bf sz) sg q' c = (0, sk (seeI bf sz) (dgE (seeI bf sz) q'), sg * nmB (seeI bf sz) 600 q' 0) := by
              unfold tmN
              rw [if_pos n1, if_neg (by omega), if_neg c1]
            rw [ht0, if_pos rfl] at hf
            have hdk := dgE_ok hB hq'b.1 hq'b.2
            have hsk := sk_ok hB (p := dgE (seeI bf sz) q') (by omega) hdk.2.2
            refine r_aload_n dX10_readsSequence_113 (i := 0) rfl rfl (r_aload_n dX10_readsSequence_114 (i := 0) rfl rfl (r_get dX10_readsSequence_115 fl_X10_82 ho' rfl ?_))
            refine r_if_ne 125 dX10_readsSequence_118 (by decide) (by omega) (fun c2 => ?_) (fun c2 => ?_)
            · omega
            · refine r_iconst dX10_readsSequence_121 (r_goto 126 dX10_readsSequence_122 (by decide) ?_)
              refine c_vq dX10_readsSequence_126 (c_X10_must1 hT') rfl rfl mq_X10_must ml_X10_111 ⟨Nat.le_of_ble_eq_true rfl, Nat.le_of_ble_eq_true rfl⟩ ho' rfl rfl rfl (Nat.le_of_ble_eq_true rfl) (fun E S' h => by simp at h) (fun v S3 hn => ?_)
              obtain ⟨e1, hT3⟩ := hn
              cases e1
              rw [tkE_d hB n1] at hT3
              obtain ⟨wa3, nu3, ho3⟩ := hT3.o
              have hfr3 := hT3.2.2.1
              have hfin : ∀ S4 : PS, S4 = ps_put S3 (m + 2) (cJ 215 (upI (tmR a v c f) (11 + 32 * v + c) (sg * nmB (seeI bf sz) 600 q' 0))) → PW g cX10_readsSequence (iX10_readsSequence mc ms) 35 [(0, some (.ref m)), (1, some (vi v)), (2, some (vi (c + 1)))] [] S4 mc ms (fun o S' => o = .inl none ∧ RM1 S0 S' m bf km th bu sz ea bs bw bt' R) := fun S4 e4 => by
                subst e4
                refine ih _ (c + 1) (upI f c (sg * nmB (seeI bf sz) 600 q' 0)) _ (by omega) (by omega) (by omega) hsk.1 hf ?_
                obtain ⟨t1, t2, t3, t4, t5, t6, t7, wa', nu', u1, u2⟩ := hT3
                exact ⟨fun z z1 z2 => by rw [← t1 z z1 z2]; exact ps_ne z2 rfl, t2, by rw [← tmR_up hc]; exact ps_same, t4, t5, t6, t7, wa', nu', ps_ne (by omega) u1, u2⟩
              show PW _ _ _ 129 _ [] _ _ _ _
              refine r_aload_n dX10_readsSequence_129 (i := 0) rfl rfl (r_get dX10_readsSequence_130 fl_X10_82 ho3 rfl ?_)
              refine r_if_eq 137 dX10_readsSequence_133 (by decide) (by omega) (fun c3 => ?_) (fun c3 => ?_)
              · refine r_aload_n dX10_readsSequence_137 (i := 0) rfl rfl (r_get dX10_readsSequence_138 fl_X10_13 ho3 rfl (r_bipush dX10_readsSequence_141 (by decide) (r_bipush dX10_readsSequence_143 (by decide) (r_iload_n dX10_readsSequence_145 (i := 1) rfl rfl ?_))))
                refine r_imul dX10_readsSequence_146 (r_iadd dX10_readsSequence_147 (r_iload_n dX10_readsSequence_148 (i := 2) rfl rfl (r_iadd dX10_readsSequence_149 (r_iload_n dX10_readsSequence_150 (i := 3) rfl rfl ?_))))
                rcases hng with ⟨g1, g2⟩ | ⟨g1, g2⟩
                · subst g1
                  subst g2
                  refine r_if_eq 161 dX10_readsSequence_151 (by decide) (by omega) (fun c4 => ?_) (fun c4 => ?_)
                  · omega
                  · refine r_iload dX10_readsSequence_154 rfl (r_ineg dX10_readsSequence_156 (r_i2l dX10_readsSequence_157 (by omega) (r_goto 164 dX10_readsSequence_158 (by decide) ?_)))
                    refine r_last dX10_readsSequence_164 hfr3 (by omega) (by omega) (by omega) (r_iinc dX10_readsSequence_165 rfl rfl (r_goto 35 dX10_readsSequence_168 (by decide) ?_))
                    exact r_loc [(0, some (.ref m)), (1, some (vi v)), (2, some (vi (c + 1)))] ⟨Or.inl rfl, Or.inl rfl, Or.inl rfl, trivial⟩ (hfin _ (by rw [show -1 * nmB (seeI bf sz) 600 q' 0 = -nmB (seeI bf sz) 600 q' 0 by omega]))
                · subst g1
                  subst g2
                  refine r_if_eq 161 dX10_readsSequence_151 (by decide) (by omega) (fun c4 => ?_) (fun c4 => ?_)
                  · refine r_iload dX10_readsSequence_161 rfl (r_i2l dX10_readsSequence_163 (by omega) ?_)
                    refine r_last dX10_readsSequence_164 hfr3 (by omega) (by omega) (by omega) (r_iinc dX10_readsSequence_165 rfl rfl (r_goto 35 dX10_readsSequence_168 (by decide) ?_))
                    exact r_loc [(0, some (.ref m)), (1, some (vi v)), (2, some (vi (c + 1)))] ⟨Or.inl rfl, Or.inl rfl, Or.inl rfl, trivial⟩ (hfin _ (by rw [Int.one_mul]))
                  · omega
              · omega
          · have hc32 : c = 32 := by omega
            have ht0 : tmN (seeI bf sz) sg q' c = (-4, q', 0) := by
              unfold tmN
              rw [if_pos n1, if_neg (by omega), if_pos hc32]
            rw [ht0, if_neg (show ¬ (-4 : Int) = 0 by decide)] at hf
            subst hf
            obtain ⟨r1, r2⟩ := hf0.2 (show (-4 : Int) ≠ 0 by decide)
            refine r_aload_n dX10_readsSequence_107 (i := 0) rfl rfl (r_bipush dX10_readsSequence_108 (by decide) ?_)
            refine c_vq dX10_readsSequence_110 (c_X10_fT hT' ⟨by omega, by omega⟩) rfl rfl mq_X10_fails ml_X10_98 ⟨Nat.le_of_ble_eq_true rfl, Nat.le_of_ble_eq_true rfl⟩ ho' rfl rfl rfl (Nat.le_of_ble_eq_true rfl) (fun E S' h => by simp at h) (fun v S3 hn => ?_)
            obtain ⟨e1, hW⟩ := hn
            cases e1
            show PW _ _ _ 113 _ [] _ _ _ _
            exact hE113 S3 _ _ _ v c _ rfl hW r1 r2
        · cases n3
          have ht0 : tmN (seeI bf sz) sg q' c = (-3, q', 0) := by
            unfold tmN
            rw [if_pos n1, if_pos (by omega)]
          rw [ht0, if_neg (show ¬ (-3 : Int) = 0 by decide)] at hf
          subst hf
          obtain ⟨r1, r2⟩ := hf0.2 (show (-3 : Int) ≠ 0 by decide)
          exact hE99 S2 _ _ _ v c ng ⟨hc, hc2⟩ hW r1 r2
        · cases n3
          have ht0 : tmN (seeI bf sz) sg q' c = (-2, q', 0) := by
            unfold tmN
            rw [if_neg n1]
          rw [ht0, if_neg (show ¬ (-2 : Int) = 0 by decide)] at hf
          subst hf
          obtain ⟨r1, r2⟩ := hf0.2 (show (-2 : Int) ≠ 0 by decide)
          exact hE99 S2 _ _ _ v c ng ⟨hc, hc2⟩ hW r1 r2
      -- a term
      have h59 : (seeI bf sz q = 45 ∨ (48 ≤ seeI bf sz q ∧ seeI bf sz q ≤ 57)) → PW g cX10_readsSequence (iX10_readsSequence mc ms) 59 [(0, some (.ref m)), (1, some (vi v)), (2, some (vi c))] [] S mc ms (fun o S' => o = .inl none ∧ RM1 S0 S' m bf km th bu sz ea bs bw bt' R) := fun hcond => by
        by_cases c45 : seeI bf sz q = 45
        · refine r_aload_n dX10_readsSequence_59 (i := 0) rfl rfl (r_bipush dX10_readsSequence_60 (by decide) (c_vr dX10_readsSequence_62 (c_X10_isSignT hT (Or.inr rfl)) rfl rfl mq_X10_isSign ml_X10_123 ⟨Nat.le_of_ble_eq_true rfl, Nat.le_of_ble_eq_true rfl⟩ ho rfl rfl rfl (Nat.le_of_ble_eq_true rfl) (r_istore_n dX10_readsSequence_65 (i := 3) rfl rfl (Nat.le_of_ble_eq_true rfl) (r_iload_n dX10_readsSequence_66 (i := 2) rfl rfl ?_))))
          refine r_bipush dX10_readsSequence_67 (by decide) ?_
          rw [b2i_t c45]
          by_cases c32 : c = 32
          · have htm : trmB (seeI bf sz) q c = (-4, q, 0) := by
              unfold trmB
              rw [if_pos c45, if_pos c32]
            rw [if_pos hcond, htm, if_neg (show ¬ (-4 : Int) = 0 by decide)] at hf
            subst hf
            obtain ⟨r1, r2⟩ := hf0.2 (show (-4 : Int) ≠ 0 by decide)
            refine r_icmp_ne 82 dX10_readsSequence_69 (by decide) (by omega) (by omega) (fun c1 => ?_) (fun c1 => ?_)
            · omega
            · refine r_iload_n dX10_readsSequence_72 (i := 3) rfl rfl ?_
              refine r_if_eq 82 dX10_readsSequence_73 (by decide) (by omega) (fun c2 => ?_) (fun c2 => ?_)
              · omega
              · refine r_aload_n dX10_readsSequence_76 (i := 0) rfl rfl (r_bipush dX10_readsSequence_77 (by decide) ?_)
                refine c_vq dX10_readsSequence_79 (c_X10_fT hT ⟨by omega, by omega⟩) rfl rfl mq_X10_fails ml_X10_98 ⟨Nat.le_of_ble_eq_true rfl, Nat.le_of_ble_eq_true rfl⟩ ho rfl rfl rfl (Nat.le_of_ble_eq_true rfl) (fun E S' h => by simp at h) (fun v S3 hn => ?_)
                obtain ⟨e1, hW⟩ := hn
                cases e1
                show PW _ _ _ 82 _ [] _ _ _ _
                exact r_loc [(0, some (.ref m)), (1, some (vi v)), (2, some (vi c)), (3, some (vi 1))] ⟨Or.inl rfl, Or.inl rfl, Or.inl rfl, Or.inl rfl, trivial⟩ (hE82 S3 _ _ _ v c 1 ⟨hc, hc2⟩ (Or.inr rfl) hW r1 r2)
          · have htm : trmB (seeI bf sz) q c = tmN (seeI bf sz) (-1) (sk (seeI bf sz) (q + 1)) c := by
              unfold trmB
              rw [if_pos c45, if_neg c32]
            refine r_icmp_ne 82 dX10_readsSequence_69 (by decide) (by omega) (by omega) (fun c1 => ?_) (fun c1 => ?_)
            · refine r_iload_n dX10_readsSequence_82 (i := 3) rfl rfl ?_
              refine r_if_eq 91 dX10_readsSequence_83 (by decide) (by omega) (fun c2 => ?_) (fun c2 => ?_)
              · omega
              · refine r_aload_n dX10_readsSequence_86 (i := 0) rfl rfl (r_iconst dX10_readsSequence_87 ?_)
                refine c_vq dX10_readsSequence_88 (c_X10_must1 hT) rfl rfl mq_X10_must ml_X10_111 ⟨Nat.le_of_ble_eq_true rfl, Nat.le_of_ble_eq_true rfl⟩ ho rfl rfl rfl (Nat.le_of_ble_eq_true rfl) (fun E S' h => by simp at h) (fun v S3 hn => ?_)
                obtain ⟨e1, hT3⟩ := hn
                cases e1
                rw [tkE_s hB (Or.inr rfl) c45] at hT3
                show PW _ _ _ 91 _ [] _ _ _ _
                exact r_loc [(0, some (.ref m)), (1, some (vi v)), (2, some (vi c)), (3, some (vi 1))] ⟨Or.inl rfl, Or.inl rfl, Or.inl rfl, Or.inl rfl, trivial⟩ (hnum S3 (-1) _ 1 (Or.inl ⟨rfl, rfl⟩) hcond htm hT3)
            · omega
        · have htm : trmB (seeI bf sz) q c = tmN (seeI bf sz) 1 q c := by
            unfold trmB
            rw [if_neg c45]
          refine r_aload_n dX10_readsSequence_59 (i := 0) rfl rfl (r_bipush dX10_readsSequence_60 (by decide) (c_vr dX10_readsSequence_62 (c_X10_isSignT hT (Or.inr rfl)) rfl rfl mq_X10_isSign ml_X10_123 ⟨Nat.le_of_ble_eq_true rfl, Nat.le_of_ble_eq_true rfl⟩ ho rfl rfl rfl (Nat.le_of_ble_eq_true rfl) (r_istore_n dX10_readsSequence_65 (i := 3) rfl rfl (Nat.le_of_ble_eq_true rfl) (r_iload_n dX10_readsSequence_66 (i := 2) rfl rfl ?_))))
          refine r_bipush dX10_readsSequence_67 (by decide) ?_
          rw [b2i_f c45]
          have h82 : PW g cX10_readsSequence (iX10_readsSequence mc ms) 82 [(0, some (.ref m)), (1, some (vi v)), (2, some (vi c)), (3, some (vi 0))] [] S mc ms (fun o S' => o = .inl none ∧ RM1 S0 S' m bf km th bu sz ea bs bw bt' R) := by
            refine r_iload_n dX10_readsSequence_82 (i := 3) rfl rfl ?_
            refine r_if_eq 91 dX10_readsSequence_83 (by decide) (by omega) (fun c2 => ?_) (fun c2 => ?_)
            · exact hnum S 1 q 0 (Or.inr ⟨rfl, rfl⟩) hcond htm hT
            · omega
          refine r_icmp_ne 82 dX10_readsSequence_69 (by decide) (by omega) (by omega) (fun c1 => ?_) (fun c1 => ?_)
          · exact r_loc [(0, some (.ref m)), (1, some (vi v)), (2, some (vi c)), (3, some (vi 0))] ⟨Or.inl rfl, Or.inl rfl, Or.inl rfl, Or.inl rfl, trivial⟩ h82
          · refine r_iload_n dX10_readsSequence_72 (i := 3) rfl rfl ?_
            refine r_if_eq 82 dX10_readsSequence_73 (by decide) (by omega) (fun c2 => ?_) (fun c2 => ?_)
            · exact r_loc [(0, some (.ref m)), (1, some (vi v)), (2, some (vi c)), (3, some (vi 0))] ⟨Or.inl rfl, Or.inl rfl, Or.inl rfl, Or.inl rfl, trivial⟩ h82
            · omega
      refine r_aload_n dX10_readsSequence_35 (i := 0) rfl rfl (r_get dX10_readsSequence_36 fl_X10_82 ho rfl ?_)
      refine r_if_ne 171 dX10_readsSequence_39 (by decide) (by omega) (fun c1 => ?_) (fun c1 => ?_)
      · omega
      · refine r_aload_n dX10_readsSequence_42 (i := 0) rfl rfl (r_get dX10_readsSequence_43 fl_X10_64 ho rfl (r_iconst dX10_readsSequence_46 ?_))
        refine r_icmp_eq 59 dX10_readsSequence_47 (by decide) (by omega) (by omega) (fun c2 => ?_) (fun c2 => ?_)
        · have hdd := of_decide_eq_true (hk1.mp c2)
          exact h59 (Or.inr hdd)
        · have hnd : ¬ (48 ≤ seeI bf sz q ∧ seeI bf sz q ≤ 57) := fun z => c2 (hk1.mpr (decide_eq_true z))
          refine r_aload_n dX10_readsSequence_50 (i := 0) rfl rfl (r_bipush dX10_readsSequence_51 (by decide) (c_vr dX10_readsSequence_53 (c_X10_isSignT hT (Or.inr rfl)) rfl rfl mq_X10_isSign ml_X10_123 ⟨Nat.le_of_ble_eq_true rfl, Nat.le_of_ble_eq_true rfl⟩ ho rfl rfl rfl (Nat.le_of_ble_eq_true rfl) ?_))
          refine r_if_eq 171 dX10_readsSequence_56 (by decide) b2i_RI (fun c3 => ?_) (fun c3 => ?_)
          · replace c3 := b2i_eq c3
            rw [if_neg (by omega)] at hf
            subst hf
            have hsem := hf0.1 rfl
            unfold semB at hsem
            rw [sk_fix hns] at hsem
            by_cases c4 : seeI bf sz q = 59
            · rw [if_pos c4] at hsem
              refine r_aload_n dX10_readsSequence_171 (i := 0) rfl rfl (r_aload_n dX10_readsSequence_172 (i := 0) rfl rfl (r_bipush dX10_readsSequence_173 (by decide) (c_vr dX10_readsSequence_175 (c_X10_isSignT hT (Or.inl rfl)) rfl rfl mq_X10_isSign ml_X10_123 ⟨Nat.le_of_ble_eq_true rfl, Nat.le_of_ble_eq_true rfl⟩ ho rfl rfl rfl (Nat.le_of_ble_eq_true rfl) ?_)))
              rw [b2i_t c4]
              refine c_vq dX10_readsSequence_178 (c_X10_must1 hT) rfl rfl mq_X10_must ml_X10_111 ⟨Nat.le_of_ble_eq_true rfl, Nat.le_of_ble_eq_true rfl⟩ ho rfl rfl rfl (Nat.le_of_ble_eq_true rfl) (fun E S' h => by simp at h) (fun v S4 hn => ?_)
              obtain ⟨e1, hT4⟩ := hn
              cases e1
              rw [tkE_s hB (Or.inl rfl) c4] at hT4
              obtain ⟨wa4, nu4, ho4⟩ := hT4.o
              have hfr4 := hT4.2.2.1
              show PW _ _ _ 181 _ [] _ _ _ _
              refine r_aload_n dX10_readsSequence_181 (i := 0) rfl rfl (r_get dX10_readsSequence_182 fl_X10_82 ho4 rfl ?_)
              refine r_if_ne 199 dX10_readsSequence_185 (by decide) (by omega) (fun c5 => ?_) (fun c5 => ?_)
              · omega
              · refine r_aload_n dX10_readsSequence_188 (i := 0) rfl rfl (r_get dX10_readsSequence_189 fl_X10_13 ho4 rfl (r_bipush dX10_readsSequence_192 (by decide) (r_iload_n dX10_readsSequence_194 (i := 1) rfl rfl (r_iadd dX10_readsSequence_195 ?_))))
                refine r_iload_n dX10_readsSequence_196 (i := 2) rfl rfl (r_i2l dX10_readsSequence_197 (by omega) (r_last dX10_readsSequence_198 hfr4 (by omega) (by omega) (by omega) (r_vret dX10_readsSequence_199 rfl ?_)))
                rw [hsem]
                obtain ⟨t1, t2, t3, t4, t5, t6, t7, wa', nu', u1, u2⟩ := hT4
                exact ⟨rfl, Or.inl ⟨rfl, fun z z1 z2 => by rw [← t1 z z1 z2]; exact ps_ne z2 rfl, t2, ps_same, t4, t5, t6, t7, wa', nu', ps_ne (by omega) u1, u2⟩⟩
            · rw [if_neg c4] at hsem
              refine r_aload_n dX10_readsSequence_171 (i := 0) rfl rfl (r_aload_n dX10_readsSequence_172 (i := 0) rfl rfl (r_bipush dX10_readsSequence_173 (by decide) (c_vr dX10_readsSequence_175 (c_X10_isSignT hT (Or.inl rfl)) rfl rfl mq_X10_isSign ml_X10_123 ⟨Nat.le_of_ble_eq_true rfl, Nat.le_of_ble_eq_true rfl⟩ ho rfl rfl rfl (Nat.le_of_ble_eq_true rfl) ?_)))
              rw [b2i_f c4]
              refine c_vq dX10_readsSequence_178 (c_X10_must0 hT) rfl rfl mq_X10_must ml_X10_111 ⟨Nat.le_of_ble_eq_true rfl, Nat.le_of_ble_eq_true rfl⟩ ho rfl rfl rfl (Nat.le_of_ble_eq_true rfl) (fun E S' h => by simp at h) (fun v S4 hn => ?_)
              obtain ⟨e1, hW4⟩ := hn
              cases e1
              obtain ⟨w1, w2, a1, a2, a3, a4, w3⟩ := hW4.o
              show PW _ _ _ 181 _ [] _ _ _ _
              refine r_aload_n dX10_readsSequence_181 (i := 0) rfl rfl (r_get dX10_readsSequence_182 fl_X10_82 w3 rfl ?_)
              refine r_if_ne 199 dX10_readsSequence_185 (by decide) (by omega) (fun c5 => ?_) (fun c5 => ?_)
              · refine r_vret dX10_readsSequence_199 rfl ?_
                rw [hsem]
                exact ⟨rfl, Or.inr ⟨show (-2 : Int) ≠ 0 by decide, _, hW4⟩⟩
              · omega
          · exact h59 (Or.inl (b2i_ne c3))
  refine PC_of pnX10 rfl rfl rfl (Nat.le_of_ble_eq_true rfl) ?_
  obtain ⟨wa, nu, ho⟩ := hT.o
  refine r_aload_n dX10_readsSequence_0 (i := 0) rfl rfl (r_aload_n dX10_readsSequence_1 (i := 0) rfl rfl (r_ldcS dX10_readsSequence_2 (List.mem_of_getElem? (i := 21) rfl) (fun qs hqs => c_vr dX10_readsSequence_4 (c_X10_isWordT hX (hL.2.2.2 qs hqs) LwS hT) rfl rfl mq_X10_isWord ml_X10_107 ⟨Nat.le_of_ble_eq_true rfl, Nat.le_of_ble_eq_true rfl⟩ ho rfl rfl rfl (Nat.le_of_ble_eq_true rfl) ?_)))
  rw [b2c_t hw]
  refine c_vq dX10_readsSequence_7 (c_X10_must1 hT) rfl rfl mq_X10_must ml_X10_111 ⟨Nat.le_of_ble_eq_true rfl, Nat.le_of_ble_eq_true rfl⟩ ho rfl rfl rfl (Nat.le_of_ble_eq_true rfl) (fun E S' h => by simp at h) (fun v S1 hn => ?_)
  obtain ⟨e1, hT1⟩ := hn
  cases e1
  rw [heE] at hT1
  obtain ⟨wa1, nu1, ho1⟩ := hT1.o
  show PW _ _ _ 10 _ [] _ _ _ _
  refine r_aload_n dX10_readsSequence_10 (i := 0) rfl rfl (r_iconst dX10_readsSequence_11 (r_iconst dX10_readsSequence_12 ?_))
  refine c_vq dX10_readsSequence_13 (c_X10_seesT hT1 ⟨by omega, by omega⟩ ⟨by omega, by omega⟩) rfl rfl mq_X10_sees ml_X10_116 ⟨Nat.le_of_ble_eq_true rfl, Nat.le_of_ble_eq_true rfl⟩ ho1 rfl rfl rfl (Nat.le_of_ble_eq_true rfl) (fun E S' h => by simp at h) (fun v S2 hn => ?_)
  -- the slot's number was no good
  have hbad : ∀ (S : PS) (er ps : Int), WM S0 S m bf km th bu sz ea bs bw bt' er ps a → R.1 = er → R.2.1 = ps → PW g cX10_readsSequence (iX10_readsSequence mc ms) 16 [(0, some (.ref m))] [vi 0] S mc ms (fun o S' => o = .inl none ∧ RM1 S0 S' m bf km th bu sz ea bs bw bt' R) := fun S er ps hW r1 r2 => by
    obtain ⟨w1, w2, a1, a2, a3, a4, w3⟩ := hW.o
    refine r_istore_n dX10_readsSequence_16 (i := 1) rfl rfl (Nat.le_of_ble_eq_true rfl) (r_aload_n dX10_readsSequence_17 (i := 0) rfl rfl (r_aload_n dX10_readsSequence_18 (i := 0) rfl rfl (r_get dX10_readsSequence_19 fl_X10_82 w3 rfl ?_)))
    refine r_if_ne 29 dX10_readsSequence_22 (by decide) (by omega) (fun c1 => ?_) (fun c1 => ?_)
    · refine r_iconst dX10_readsSequence_29 (c_vn dX10_readsSequence_30 (c_X10_mustW hW ⟨by omega, by omega⟩) rfl rfl mq_X10_must ml_X10_111 ⟨Nat.le_of_ble_eq_true rfl, Nat.le_of_ble_eq_true rfl⟩ w3 rfl rfl rfl (Nat.le_of_ble_eq_true rfl) (r_iconst dX10_readsSequence_33 (r_istore_n dX10_readsSequence_34 (i := 2) rfl rfl (Nat.le_of_ble_eq_true rfl) (r_aload_n dX10_readsSequence_35 (i := 0) rfl rfl ?_))))
      refine r_get dX10_readsSequence_36 fl_X10_82 w3 rfl ?_
      refine r_if_ne 171 dX10_readsSequence_39 (by decide) (by omega) (fun c2 => ?_) (fun c2 => ?_)
      · exact r_loc [(0, some (.ref m)), (1, some (vi 0)), (2, some (vi 0))] ⟨Or.inl rfl, Or.inl rfl, Or.inl rfl, trivial⟩ (hE171 S a er ps 0 0 hW r1 r2)
      · omega
    · omega
  rcases hn with ⟨n1, n2, n3, n4⟩ | ⟨n3, n1, n2, hW⟩ | ⟨n3, n1, hW⟩
  · cases n3
    subst n4
    have e : seqB (seeI bf sz) p a = (if (trsB (seeI bf sz) 33 (sk (seeI bf sz) (dgE (seeI bf sz) (sk (seeI bf sz) (p + 8)))) 0 (fun _ => 0)).1 = 0 then semB (seeI bf sz) (trsB (seeI bf sz) 33 (sk (seeI bf sz) (dgE (seeI bf sz) (sk (seeI bf sz) (p + 8)))) 0 (fun _ => 0)).2.1 (sqR a (nmB (seeI bf sz) 600 (sk (seeI bf sz) (p + 8)) 0) (trsB (seeI bf sz) 33 (sk (seeI bf sz) (dgE (seeI bf sz) (sk (seeI bf sz) (p + 8)))) 0 (fun _ => 0)).2.2.1 (trsB (seeI bf sz) 33 (sk (seeI bf sz) (dgE (seeI bf sz) (sk (seeI bf sz) (p + 8)))) 0 (fun _ => 0)).2.2.2)
      else ((trsB (seeI bf sz) 33 (sk (seeI bf sz) (dgE (seeI bf sz) (sk (seeI bf sz) (p + 8)))) 0 (fun _ => 0)).1, (trsB (seeI bf sz) 33 (sk (seeI bf sz) (dgE (seeI bf sz) (sk (seeI bf sz) (p + 8)))) 0 (fun _ => 0)).2.1, a)) := by
      unfold seqB
      rw [if_pos n1, if_pos (by omega)]
    rw [e] at hR
    have hsk := sk_ok hB (p := dgE (seeI bf sz) (sk (seeI bf sz) (p + 8))) (by omega) hd.2.2
    generalize nmB (seeI bf sz) 600 (sk (seeI bf sz) (p + 8)) 0 = v at n2 hR ⊢
    show PW _ _ _ 16 _ [vi v] _ _ _ _
    refine r_istore_n dX10_readsSequence_16 (i := 1) rfl rfl (Nat.le_of_ble_eq_true rfl) (r_aload_n dX10_readsSequence_17 (i := 0) rfl rfl (r_aload_n dX10_readsSequence_18 (i := 0) rfl rfl (r_get dX10_readsSequence_19 fl_X10_82 ho1 rfl ?_)))
    refine r_if_ne 29 dX10_readsSequence_22 (by decide) (by omega) (fun c1 => ?_) (fun c1 => ?_)
    · omega
    · refine r_iconst dX10_readsSequence_25 (r_goto 30 dX10_readsSequence_26 (by decide) ?_)
      refine c_vq dX10_readsSequence_30 (c_X10_must1 hT1) rfl rfl mq_X10_must ml_X10_111 ⟨Nat.le_of_ble_eq_true rfl, Nat.le_of_ble_eq_true rfl⟩ ho1 rfl rfl rfl (Nat.le_of_ble_eq_true rfl) (fun E S' h => by simp at h) (fun v S3 hn => ?_)
      obtain ⟨e1, hT3⟩ := hn
      cases e1
      rw [tkE_d hB n1] at hT3
      show PW _ _ _ 33 _ [] _ _ _ _
      refine r_iconst dX10_readsSequence_33 (r_istore_n dX10_readsSequence_34 (i := 2) rfl rfl (Nat.le_of_ble_eq_true rfl) ?_)
      have ea0 : tmR a v 0 (fun _ => 0) = a := by
        unfold tmR
        rw [show 11 + 32 * v + 0 = 11 + 32 * v by omega, mix_0]
      refine r_loc [(0, some (.ref m)), (1, some (vi v)), (2, some (vi 0))] ⟨Or.inl rfl, Or.inl rfl, Or.inl rfl, trivial⟩ (hlo v (trsB (seeI bf sz) 33 (sk (seeI bf sz) (dgE (seeI bf sz) (sk (seeI bf sz) (p + 8)))) 0 (fun _ => 0)) (by omega) ⟨fun z => ?_, fun z => ?_⟩ 33 _ 0 (fun _ => 0) S3 (by omega) (by omega) (by omega) hsk.1 rfl (by rw [ea0]; exact hT3))
      · rw [if_pos z] at hR
        exact hR.symm
      · rw [if_neg z] at hR
        subst hR
        exact ⟨rfl, rfl⟩
  · cases n3
    have hnb := nmB_bd hB 600 (sk (seeI bf sz) (p + 8)) 0 (by omega) (by omega)
    have e : seqB (seeI bf sz) p a = (-3, sk (seeI bf sz) (p + 8), a) := by
      unfold seqB
      rw [if_pos n1, if_neg (by omega)]
    rw [e] at hR
    exact hbad S2 _ _ hW (by rw [← hR]) (by rw [← hR])
  · cases n3
    have e : seqB (seeI bf sz) p a = (-2, sk (seeI bf sz) (p + 8), a) := by
      unfold seqB
      rw [if_neg n1]
    rw [e] at hR
    exact hbad S2 _ _ hW (by rw [← hR]) (by rw [← hR])
end MSEQ

/-! the class: TextReader.read; the face's load -/
section READ
variable {g : GT} {S0 S : PS} {mc ms : Nat} {Q : PO → PS → Prop} {r F : Nat} {fd en ea : Int} {tx a : Int → Int}
theorem l_read {len : Int} (hT : TxtB g) (hL : TxtL g) (hb : ∀ i : Int, 0 ≤ i → i < en → -128 ≤ tx i ∧ tx i ≤ 127) (he : 0 ≤ en ∧ en ≤ 600) : ∀ (u i : Nat) (p : Int) (S : PS) (a : Int → Int) (kc ks : Nat), i + u = 600 → 0 ≤ p → p ≤ en → NB a → RS S0 S r F fd en p 0 ea tx a → 2 * (6 - a 0) ≤ (kc : Int) → 10 * (6 - a 0) ≤ (ks : Int) → (∀ S', RE S0 S' r F fd en ea tx (prgB (seeI tx en) en u p a) → Q (.inl (some (vi (prgB (seeI tx en) en u p a).1))) S') →
    PW g cX8_read (iX8_read mc ms) 45 [(0, some (.ref r)), (1, some (vi len)), (2, some (vi (i : Int)))] [] S kc ks Q := by
  have hB : BOk (seeI tx en) en := seeI_ok he
  intro u
  induction u with
  | zero =>
    intro i p S a kc ks hi p0 p1 ha hR hk1 hk2 hq
    refine r_iload_n dX8_read_45 (i := 2) rfl rfl (r_sipush dX8_read_46 (by decide) ?_)
    refine r_icmp_ge 125 dX8_read_49 (by decide) (by omega) (by omega) (fun c1 => ?_) (fun c1 => ?_)
    · refine r_aload_n dX8_read_125 (i := 0) rfl rfl (r_get dX8_read_126 fl_X8_41 hR.1 rfl (r_iret dX8_read_129 rfl rfl ?_))
      exact hq S ⟨p, ea, a, hR, ⟨p0, p1⟩, ⟨(by decide : (-4 : Int) ≤ 0), (by decide : (0 : Int) ≤ 0)⟩, Or.inl ⟨rfl, rfl, rfl, rfl⟩⟩
    · omega
  | succ u ih =>
    intro i p S a kc ks hi p0 p1 ha hR hk1 hk2 hq
    have e : prgB (seeI tx en) en (u + 1) p a = if en ≤ p then (0, p, a) else if (stmB (seeI tx en) p a).1 = 0 then prgB (seeI tx en) en u (stmB (seeI tx en) p a).2.1 (stmB (seeI tx en) p a).2.2 else stmB (seeI tx en) p a := rfl
    rw [e] at hq
    have h0 := ha.1.1
    refine r_iload_n dX8_read_45 (i := 2) rfl rfl (r_sipush dX8_read_46 (by decide) ?_)
    refine r_icmp_ge 125 dX8_read_49 (by decide) (by omega) (by omega) (fun c1 => ?_) (fun c1 => ?_)
    · omega
    · refine r_aload_n dX8_read_52 (i := 0) rfl rfl (r_get dX8_read_53 fl_X8_41 hR.1 rfl ?_)
      refine r_if_ne 125 dX8_read_56 (by decide) (by omega) (fun c2 => ?_) (fun c2 => ?_)
      · omega
      · refine r_aload_n dX8_read_59 (i := 0) rfl rfl (r_get dX8_read_60 fl_X8_38 hR.1 rfl (r_aload_n dX8_read_63 (i := 0) rfl rfl (r_get dX8_read_64 fl_X8_35 hR.1 rfl ?_)))
        refine r_icmp_ge 125 dX8_read_67 (by decide) (by omega) (by omega) (fun c3 => ?_) (fun c3 => ?_)
        · rw [if_pos (by omega)] at hq
          refine r_aload_n dX8_read_125 (i := 0) rfl rfl (r_get dX8_read_126 fl_X8_41 hR.1 rfl (r_iret dX8_read_129 rfl rfl ?_))
          exact hq S ⟨p, ea, a, hR, ⟨p0, p1⟩, ⟨(by decide : (-4 : Int) ≤ 0), (by decide : (0 : Int) ≤ 0)⟩, Or.inl ⟨rfl, rfl, rfl, rfl⟩⟩
        · rw [if_neg (by omega)] at hq
          obtain ⟨s1, s2, s3⟩ := stm_ok hB ha p0 p1
          have hsemi : ∀ (kc' ks' : Nat) (S2 : PS), RN S0 S2 r F fd en ea tx (stmB (seeI tx en) p a) → ((stmB (seeI tx en) p a).1 = 0 → 2 * (6 - (stmB (seeI tx en) p a).2.2 0) ≤ (kc' : Int) ∧ 10 * (6 - (stmB (seeI tx en) p a).2.2 0) ≤ (ks' : Int)) → PW g cX8_read (iX8_read mc ms) 115 [(0, some (.ref r)), (1, some (vi len)), (2, some (vi (i : Int)))] [] S2 kc' ks' Q := fun kc' ks' S2 hN hbud => by
            have hrec : S2.1 r ≠ none := by
              obtain ⟨z, er, ea', a', h1, -⟩ := hN
              rw [h1.1]
              exact fun z => by cases z
            obtain ⟨z9, er9, ea9, a9, h19, -⟩ := id hN
            refine r_aload_n dX8_read_115 (i := 0) rfl rfl ?_
            refine c_vq dX8_read_116 (c_X8_passSemiR hN hb he) rfl rfl mq_X8_passSemicolon ml_X8_69 ⟨Nat.le_of_ble_eq_true rfl, Nat.le_of_ble_eq_true rfl⟩ h19.1 rfl rfl rfl (Nat.le_of_ble_eq_true rfl) (fun E S' h => by simp at h) (fun v S3 hn => ?_)
            obtain ⟨e1, z, ea', a', k1, k2, k3, k4⟩ := hn
            cases e1
            show PW _ _ _ 119 _ [] _ _ _ _
            rcases k4 with ⟨m1, m2, m3, m4⟩ | ⟨m1, m2⟩
            · subst m2
              subst m3
              subst m4
              rw [m1] at k1
              rw [if_pos m1] at hq
              obtain ⟨t1, t2, t3⟩ := s3 m1
              obtain ⟨v1, v2⟩ := hbud m1
              refine r_iinc dX8_read_119 rfl rfl (r_goto 45 dX8_read_122 (by decide) ?_)
              exact r_loc [(0, some (.ref r)), (1, some (vi len)), (2, some (vi ((i + 1 : Nat) : Int)))] ⟨Or.inl rfl, Or.inl rfl, Or.inl rfl, trivial⟩ (ih (i + 1) _ S3 _ kc' ks' (by omega) (by omega) s1.2 t3 k1 v1 v2 hq)
            · rw [if_neg m1] at hq
              have hfin : PW g cX8_read (iX8_read mc ms) 125 [(0, some (.ref r)), (1, some (vi len))] [] S3 kc' ks' Q := by
                refine r_aload_n dX8_read_125 (i := 0) rfl rfl (r_get dX8_read_126 fl_X8_41 k1.1 rfl (r_iret dX8_read_129 rfl rfl ?_))
                exact hq S3 ⟨z, ea', a', k1, k2, k3, Or.inr ⟨m1, m2⟩⟩
              refine r_iinc dX8_read_119 rfl rfl (r_goto 45 dX8_read_122 (by decide) (r_iload_n dX8_read_45 (i := 2) rfl rfl (r_sipush dX8_read_46 (by decide) ?_)))
              refine r_icmp_ge 125 dX8_read_49 (by decide) (by omega) (by omega) (fun c5 => ?_) (fun c5 => ?_)
              · exact r_loc [(0, some (.ref r)), (1, some (vi len))] ⟨Or.inl rfl, Or.inl rfl, trivial⟩ hfin
              · refine r_aload_n dX8_read_52 (i := 0) rfl rfl (r_get dX8_read_53 fl_X8_41 k1.1 rfl ?_)
                refine r_if_ne 125 dX8_read_56 (by decide) (by omega) (fun c6 => ?_) (fun c6 => ?_)
                · exact r_loc [(0, some (.ref r)), (1, some (vi len))] ⟨Or.inl rfl, Or.inl rfl, trivial⟩ hfin
                · exact absurd c6 (by omega)
          have hl3 : ∀ v : Value, lsub [(0, some (.ref r)), (1, some (vi len)), (2, some (vi (i : Int)))] [(0, some (.ref r)), (1, some (vi len)), (2, some (vi (i : Int))), (3, some v)] := fun v => ⟨Or.inl rfl, Or.inl rfl, Or.inl rfl, trivial⟩
          refine r_aload_n dX8_read_70 (i := 0) rfl rfl (r_get dX8_read_71 fl_X8_38 hR.1 rfl (r_istore_n dX8_read_74 (i := 3) rfl rfl (Nat.le_of_ble_eq_true rfl) (r_aload_n dX8_read_75 (i := 0) rfl rfl (r_ldcS dX8_read_76 (List.mem_of_getElem? (i := 18) rfl) (fun q5 hq5 => ?_)))))
          have hs5 := hL.1 q5 hq5
          refine c_vq dX8_read_78 (c_X8_passWord hT hs5 hR.1 hR.2.1 hb he ⟨p0, p1⟩) rfl rfl mq_X8_passWord ml_X8_52 ⟨Nat.le_of_ble_eq_true rfl, Nat.le_of_ble_eq_true rfl⟩ hR.1 rfl rfl rfl (Nat.le_of_ble_eq_true rfl) (fun E S' h => by simp at h) (fun v S2 hn => ?_)
          rcases hn with ⟨n1, n2, n3⟩ | ⟨n1, n2, n3⟩
          · cases n2
            subst n3
            have hp5 := wdB_P hB n1
            obtain ⟨p1', p2', p3'⟩ := prm_ok hB ha p0 hp5
            have es := stm_p (a := a) n1
            have hR5 : RS S0 (ps_put S r (rO r fd en (p + ((chP.length : Nat) : Int)) 0 ea)) r F fd en (p + 5) 0 ea tx a := hR.put
            show PW _ _ _ 81 _ [vi 1] _ _ _ _
            refine r_if_eq 92 dX8_read_81 (by decide) (by omega) (fun c4 => ?_) (fun c4 => ?_)
            · omega
            · refine r_aload_n dX8_read_84 (i := 0) rfl rfl (r_iload_n dX8_read_85 (i := 3) rfl rfl ?_)
              by_cases h6 : a 0 < 6
              · refine r_invV dX8_read_86 (c_X8_readPrime (mc := 2) (ms := 10) hR5 ha.1 ha.2.1 hb he ⟨p0, hp5⟩ (fun _ => ⟨by omega, by omega⟩)) mq_X8_readPrime ml_X8_56 ⟨Nat.le_of_ble_eq_true rfl, Nat.le_of_ble_eq_true rfl⟩ hR5.1 rfl rfl rfl (Nat.le_of_ble_eq_true rfl) (kc' := (kc-2)) (ks' := (ks-10)) (by show 2 + _ ≤ _; omega) (by show 10 + _ ≤ _; omega) (fun E S' h => by simp at h) (fun v S' hn => ?_)
                obtain ⟨e1, e2⟩ := hn
                cases e1
                rw [← es] at e2 p3'
                show PW _ _ _ 89 _ [] _ _ _ _
                refine r_goto 115 dX8_read_89 (by decide) ?_
                exact r_loc [(0, some (.ref r)), (1, some (vi len)), (2, some (vi (i : Int)))] ⟨Or.inl rfl, Or.inl rfl, Or.inl rfl, trivial⟩ (hsemi _ _ _ e2 (fun z => by have := (p3' z).2.1; omega))
              · refine r_invV dX8_read_86 (c_X8_readPrime (mc := 0) (ms := 0) hR5 ha.1 ha.2.1 hb he ⟨p0, hp5⟩ (fun z => absurd z h6)) mq_X8_readPrime ml_X8_56 ⟨Nat.le_of_ble_eq_true rfl, Nat.le_of_ble_eq_true rfl⟩ hR5.1 rfl rfl rfl (Nat.le_of_ble_eq_true rfl) (kc' := kc) (ks' := ks) (by show 0 + _ ≤ _; omega) (by show 0 + _ ≤ _; omega) (fun E S' h => by simp at h) (fun v S' hn => ?_)
                obtain ⟨e1, e2⟩ := hn
                cases e1
                rw [← es] at e2 p3'
                show PW _ _ _ 89 _ [] _ _ _ _
                refine r_goto 115 dX8_read_89 (by decide) ?_
                exact r_loc [(0, some (.ref r)), (1, some (vi len)), (2, some (vi (i : Int)))] ⟨Or.inl rfl, Or.inl rfl, Or.inl rfl, trivial⟩ (hsemi _ _ _ e2 (fun z => by have := (p3' z).1; omega))
          · cases n2
            subst n3
            show PW _ _ _ 81 _ [vi 0] _ _ _ _
            refine r_if_eq 92 dX8_read_81 (by decide) (by omega) (fun c4 => ?_) (fun c4 => ?_)
            · refine r_aload_n dX8_read_92 (i := 0) rfl rfl (r_ldcS dX8_read_93 (List.mem_of_getElem? (i := 19) rfl) (fun q8 hq8 => ?_))
              have hs8 := hL.2.1 q8 hq8
              refine c_vq dX8_read_95 (c_X8_passWord hT hs8 hR.1 hR.2.1 hb he ⟨p0, p1⟩) rfl rfl mq_X8_passWord ml_X8_52 ⟨Nat.le_of_ble_eq_true rfl, Nat.le_of_ble_eq_true rfl⟩ hR.1 rfl rfl rfl (Nat.le_of_ble_eq_true rfl) (fun E S' h => by simp at h) (fun v S3 hn => ?_)
              rcases hn with ⟨m1, n2, n3⟩ | ⟨m1, n2, n3⟩
              · cases n2
                subst n3
                have hp8 := wdB_S hB m1
                obtain ⟨p1', p2', p3'⟩ := seq_ok hB ha p0 hp8
                have es := stm_s (a := a) n1 m1
                have hR8 : RS S0 (ps_put S2 r (rO r fd en (p + ((chS.length : Nat) : Int)) 0 ea)) r F fd en (p + 8) 0 ea tx a := hR.put
                show PW _ _ _ 98 _ [vi 1] _ _ _ _
                refine r_if_eq 108 dX8_read_98 (by decide) (by omega) (fun c5 => ?_) (fun c5 => ?_)
                · omega
                · refine r_aload_n dX8_read_101 (i := 0) rfl rfl ?_
                  refine c_vq dX8_read_102 (c_X8_readSequence hR8 ha.1 ha.2.1 hb he ⟨p0, hp8⟩) rfl rfl mq_X8_readSequence ml_X8_62 ⟨Nat.le_of_ble_eq_true rfl, Nat.le_of_ble_eq_true rfl⟩ hR8.1 rfl rfl rfl (Nat.le_of_ble_eq_true rfl) (fun E S' h => by simp at h) (fun v S4 hn => ?_)
                  obtain ⟨e1, e2⟩ := hn
                  cases e1
                  rw [← es] at e2 p3'
                  show PW _ _ _ 105 _ [] _ _ _ _
                  refine r_goto 115 dX8_read_105 (by decide) ?_
                  exact r_loc [(0, some (.ref r)), (1, some (vi len)), (2, some (vi (i : Int)))] ⟨Or.inl rfl, Or.inl rfl, Or.inl rfl, trivial⟩ (hsemi _ _ _ e2 (fun z => by have := (p3' z).1; omega))
              · cases n2
                subst n3
                have es := stm_n (a := a) n1 m1
                show PW _ _ _ 98 _ [vi 0] _ _ _ _
                refine r_if_eq 108 dX8_read_98 (by decide) (by omega) (fun c5 => ?_) (fun c5 => ?_)
                · refine r_aload_n dX8_read_108 (i := 0) rfl rfl (r_bipush dX8_read_109 (by decide) (r_iload_n dX8_read_111 (i := 3) rfl rfl (c_vn dX8_read_112 (c_X8_fail hR.1) rfl rfl mq_X8_fail ml_X8_65 ⟨Nat.le_of_ble_eq_true rfl, Nat.le_of_ble_eq_true rfl⟩ hR.1 rfl rfl rfl (Nat.le_of_ble_eq_true rfl) ?_)))
                  exact r_loc [(0, some (.ref r)), (1, some (vi len)), (2, some (vi (i : Int)))] ⟨Or.inl rfl, Or.inl rfl, Or.inl rfl, trivial⟩ (hsemi _ _ _ ⟨p, -2, p, a, hR.put, ⟨p0, p1⟩, Or.inr ⟨by omega, by rw [es], by rw [es]⟩⟩ (fun z => by rw [es] at z; exact absurd (show (-2 : Int) = 0 from z) (by decide)))
                · omega
            · omega
theorem c_X8_read {len : Int} (hT : TxtB g) (hL : TxtL g) (hR : RdAt S r F fd ea tx) (hF : F ≤ S.2) (hrF : r + 16 ≤ F) (hb : ∀ i : Int, 0 ≤ i → i < 600 → -128 ≤ tx i ∧ tx i ≤ 127) (hf : 0 ≤ fd ∧ fd ≤ 600) (hl : 0 ≤ len ∧ len ≤ fd) (hm : 12 ≤ mc) (hm2 : 60 ≤ ms) : PC g yX8_read cX8_read (iX8_read mc ms) [.ref r, vi len] S (fun o S' => o = .inl (some (vi (prgB (seeI tx len) len 600 (sk (seeI tx len) 0) (fun _ => 0)).1)) ∧ RE S S' r F 0 len (-1) tx (prgB (seeI tx len) len 600 (sk (seeI tx len) 0) (fun _ => 0))) := by
  have hB : BOk (seeI tx len) len := seeI_ok (by omega)
  have hk := sk_ok hB (p := 0) (by omega) hl.1
  obtain ⟨⟨en, at', er, h1⟩, h2, af, h3⟩ := hR
  have hbl : ∀ i : Int, 0 ≤ i → i < len → -128 ≤ tx i ∧ tx i ≤ 127 := fun i i0 i1 => hb i i0 (by omega)
  refine PC_of pnX8 rfl rfl rfl (Nat.le_of_ble_eq_true rfl) ?_
  refine r_aload_n dX8_read_0 (i := 0) rfl rfl (r_iload_n dX8_read_1 (i := 1) rfl rfl (r_aload_n dX8_read_2 (i := 0) rfl rfl (r_get dX8_read_3 fl_X8_26 h1 rfl (r_mmin dX8_read_6 mw_X8_29 (by omega) (by omega) (Nat.le_of_ble_eq_true rfl) (Nat.le_of_ble_eq_true rfl) ?_))))
  rw [show min len fd = len by omega]
  refine r_put dX8_read_9 fl_X8_35 h1 rfl rfl (Nat.le_of_ble_eq_true rfl) (r_aload_n dX8_read_12 (i := 0) rfl rfl (r_iconst dX8_read_13 (r_put dX8_read_14 fl_X8_26 ps_same rfl rfl (Nat.le_of_ble_eq_true rfl) (r_aload_n dX8_read_17 (i := 0) rfl rfl ?_))))
  refine r_iconst dX8_read_18 (r_put dX8_read_19 fl_X8_38 ps_same rfl rfl (Nat.le_of_ble_eq_true rfl) (r_aload_n dX8_read_22 (i := 0) rfl rfl (r_iconst dX8_read_23 (r_put dX8_read_24 fl_X8_41 ps_same rfl rfl (Nat.le_of_ble_eq_true rfl) ?_))))
  refine r_aload_n dX8_read_27 (i := 0) rfl rfl (r_iconst dX8_read_28 (r_put dX8_read_29 fl_X8_22 ps_same rfl rfl (Nat.le_of_ble_eq_true rfl) (r_aload_n dX8_read_32 (i := 0) rfl rfl (r_get dX8_read_33 fl_X8_18 ps_same rfl ?_))))
  rw [ps_put_put, ps_put_put, ps_put_put, ps_put_put]
  show PW _ _ _ _ _ _ (ps_put S r (rO r 0 len 0 0 (-1))) _ _ _
  have hb1 : BnAt (ps_put S r (rO r 0 len 0 0 (-1))) (r + 2) F af := h3.frame (fun z hz c hc => ps_ne (by omega) hc) (fun z z1 z2 => ps_ne (by omega) rfl)
  refine c_vq dX8_read_36 (c_X0_clear hb1 (by omega)) rfl rfl mq_X0_clear ml_X8_44 ⟨Nat.le_of_ble_eq_true rfl, Nat.le_of_ble_eq_true rfl⟩ hb1.1.1 rfl rfl rfl (Nat.le_of_ble_eq_true rfl) (fun E S' h => by simp at h) (fun v S2 hn => ?_)
  obtain ⟨e1, b1, b2⟩ := hn
  cases e1
  have hR2 : RS S S2 r F 0 len 0 0 (-1) tx (fun _ => 0) := ⟨by rw [b1.1 _ (by omega)]; exact ps_same, by rw [b1.1 _ (by omega)]; exact ps_ne (by omega) h2, b2, fun z z1 z2 => by rw [b1.1 _ (by omega)]; exact ps_ne (by omega) rfl, by rw [b1.2]; exact Nat.le_refl _, hF, hrF⟩
  show PW _ _ _ 39 _ [] _ _ _ _
  refine r_aload_n dX8_read_39 (i := 0) rfl rfl (c_vn dX8_read_40 (c_X8_passSpacesB hR2.1 hR2.2.1 hbl (by omega) ⟨by omega, hl.1⟩) rfl rfl mq_X8_passSpaces ml_X8_47 ⟨Nat.le_of_ble_eq_true rfl, Nat.le_of_ble_eq_true rfl⟩ hR2.1 rfl rfl rfl (Nat.le_of_ble_eq_true rfl) (r_iconst dX8_read_43 (r_istore_n dX8_read_44 (i := 2) rfl rfl (Nat.le_of_ble_eq_true rfl) ?_)))
  exact r_loc [(0, some (.ref r)), (1, some (vi len)), (2, some (vi ((0 : Nat) : Int)))] ⟨Or.inl rfl, Or.inl rfl, Or.inl rfl, trivial⟩ (l_read hT hL hbl (by omega) 600 0 (sk (seeI tx len) 0) _ (fun _ => 0) mc ms (by omega) (by omega) hk.2.2 NB.zero hR2.put (by show 2 * (6 - (0 : Int)) ≤ _; omega) (by show 10 * (6 - (0 : Int)) ≤ _; omega) (fun S' h => ⟨rfl, h⟩))
end READ
section LOAD
variable {g : GT} {S : PS} {mc ms : Nat} {x F : Nat} {a : Int → Int} {H : Int → Int → Int} {nx ct fd ea : Int} {tx : Int → Int}
theorem c_X9_load {len : Int} (hT : TxtB g) (hL : TxtL g) (hC : CX S x F a H nx ct fd ea tx) (hFS : F ≤ S.2) (hb : ∀ i : Int, 0 ≤ i → i < 600 → -128 ≤ tx i ∧ tx i ≤ 127) (hf : 0 ≤ fd ∧ fd ≤ 600) (hlr : RI len) (hm : 12 ≤ mc) (hm2 : 60 ≤ ms) : PC g yX9_load cX9_load (iX9_load mc ms) [.ref x, vi len] S (Out ["java/lang/IllegalArgumentException"] (if 0 ≤ len ∧ len ≤ fd then 0 else 1) (vi (if (prgB (seeI tx len) len 600 (sk (seeI tx len) 0) (fun _ => 0)).1 = 0 then (prgB (seeI tx len) len 600 (sk (seeI tx len) 0) (fun _ => 0)).2.2 0 else (prgB (seeI tx len) len 600 (sk (seeI tx len) 0) (fun _ => 0)).1)) S (fun S' => FrC x S S' ∧ ((prgB (seeI tx len) len 600 (sk (seeI tx len) 0) (fun _ => 0)).1 = 0 → CX S' x F (prgB (seeI tx len) len 600 (sk (seeI tx len) 0) (fun _ => 0)).2.2 (upH H nx a) ((nx + 1) % 8) (min (ct + 1) 8) 0 (-1) tx) ∧ ((prgB (seeI tx len) len 600 (sk (seeI tx len) 0) (fun _ => 0)).1 ≠ 0 → CX S' x F a H nx ct 0 (prgB (seeI tx len) len 600 (sk (seeI tx len) 0) (fun _ => 0)).2.1 tx))) := by
  have hx := hC.2.1
  have hF := hC.1
  have hrd := hC.2.2.2.2.1
  obtain ⟨⟨en, at', er, r1⟩, r2, af, r3⟩ := id hrd
  refine PC_of pnX9 rfl rfl rfl (Nat.le_of_ble_eq_true rfl) ?_
  refine r_bud (kc' := 12) (ks' := 60) hm hm2 ?_
  refine r_lt (fun hlt => ?_)
  by_cases hl : 0 ≤ len ∧ len ≤ fd
  · refine r_iload_n dX9_load_0 (i := 1) rfl rfl ?_
    refine r_if_lt 19 dX9_load_1 (by decide) (by omega) (fun c1 => ?_) (fun c1 => ?_)
    · refine r_iconst dX9_load_19 ?_
      exact c_sx dX9_load_20 (c_X9_require0 (mc := 1) (ms := 6) rfl (by omega) (by omega)) rfl mq_X9_require ml_X9_70 ⟨Nat.le_of_ble_eq_true rfl, Nat.le_of_ble_eq_true rfl⟩ rfl rfl (Nat.le_of_ble_eq_true rfl) (by show 1 ≤ _; omega) (by show 6 ≤ _; omega) (fun o S' ho => ⟨_, ho.1, Out.th 0 (by exfalso; omega) rfl ⟨rfl, ho.2⟩⟩)
    · refine r_iload_n dX9_load_4 (i := 1) rfl rfl (r_aload_n dX9_load_5 (i := 0) rfl rfl (r_get dX9_load_6 fl_X9_26 hx rfl (r_get dX9_load_9 fl_X9_66 r1 rfl ?_)))
      refine r_icmp_gt 19 dX9_load_12 (by decide) (by omega) (by omega) (fun c2 => ?_) (fun c2 => ?_)
      · refine r_iconst dX9_load_19 ?_
        exact c_sx dX9_load_20 (c_X9_require0 (mc := 1) (ms := 6) rfl (by omega) (by omega)) rfl mq_X9_require ml_X9_70 ⟨Nat.le_of_ble_eq_true rfl, Nat.le_of_ble_eq_true rfl⟩ rfl rfl (Nat.le_of_ble_eq_true rfl) (by show 1 ≤ _; omega) (by show 6 ≤ _; omega) (fun o S' ho => ⟨_, ho.1, Out.th 0 (by exfalso; omega) rfl ⟨rfl, ho.2⟩⟩)
      · refine r_iconst dX9_load_15 (r_goto 20 dX9_load_16 (by decide) (c_sn dX9_load_20 (c_X9_require1 (by decide) ⟨by omega, by omega⟩) rfl rfl mq_X9_require ml_X9_70 ⟨Nat.le_of_ble_eq_true rfl, Nat.le_of_ble_eq_true rfl⟩ rfl rfl (Nat.le_of_ble_eq_true rfl) (r_aload_n dX9_load_23 (i := 0) rfl rfl (r_get dX9_load_24 fl_X9_26 hx rfl ?_))))
        refine r_iload_n dX9_load_27 (i := 1) rfl rfl ?_
        first
          | omega
          | skip
        have hrd2 := c_X8_read (g := g) (mc := 12) (ms := 60) hT hL hrd hFS (by omega) hb hf hl (by omega) (by omega)
        generalize prgB (seeI tx len) len 600 (sk (seeI tx len) 0) (fun _ => 0) = R at hrd2 ⊢
        refine r_invV dX9_load_28 (hrd2) mq_X8_read ml_X9_74 ⟨Nat.le_of_ble_eq_true rfl, Nat.le_of_ble_eq_true rfl⟩ r1 rfl rfl rfl (Nat.le_of_ble_eq_true rfl) (kc' := 0) (ks' := 0) (by show 12 + _ ≤ _; omega) (by show 60 + _ ≤ _; omega) (fun E S' h => by simp at h) (fun v S' hn => ?_)
        obtain ⟨e1, z, ea', a', k1, k2, k3, k4⟩ := hn
        cases e1
        obtain ⟨u1, u2, u3, u4, u5, u6, u7⟩ := k1
        have hE : Ext F S S' := fun z hz c hc => by
          rw [u4 z (hlt z c hc) (by omega)]
          exact hc
        have hCr : CX S' x F a H nx ct 0 ea' tx := by
          obtain ⟨-, -, q2, ⟨q3, q4⟩, -, q6, q7, q8⟩ := hC
          have hs : ∀ z : Nat, z < F → z < x + 129 ∨ x + 145 ≤ z → S'.1 z = S.1 z := fun z z1 z2 => u4 z (by omega) (by omega)
          exact ⟨hF, by rw [hs x (by omega) (by omega)]; exact hx, q2.frame hE (fun z z1 z2 => hs z (by omega) (by omega)), ⟨q3.frame hE (fun z z1 z2 => hs z (by omega) (by omega)), q4⟩, ⟨⟨len, z, R.1, u1⟩, u2, a', u3⟩, q6.frame (fun z z1 z2 => hs z (by omega) (by omega)), q7.frame (fun z z1 z2 => hs z (by omega) (by omega)), q8.frame (fun z z1 z2 => hs z (by omega) (by omega))⟩
        have hFr : FrC x S S' := ⟨fun z c hz hc => by rw [u4 z (hlt z c hc) (by omega)]; exact hc, u5⟩
        show PW _ _ _ 31 _ [vi R.1] _ _ _ _
        refine r_istore_n dX9_load_31 (i := 2) rfl rfl (Nat.le_of_ble_eq_true rfl) (r_iload_n dX9_load_32 (i := 2) rfl rfl ?_)
        refine r_if_eq 38 dX9_load_33 (by decide) (by omega) (fun c1 => ?_) (fun c1 => ?_)
        · rcases k4 with ⟨m1, m2, m3, m4⟩ | ⟨m1, m2⟩
          · subst m2
            subst m4
            refine r_aload_n dX9_load_38 (i := 0) rfl rfl (r_get dX9_load_39 fl_X9_19 hCr.2.1 rfl (r_aload_n dX9_load_42 (i := 0) rfl rfl (r_get dX9_load_43 fl_X9_10 hCr.2.1 rfl ?_)))
            refine c_vq dX9_load_46 (keepC hCr) rfl rfl mq_X2_keep ml_X9_78 ⟨Nat.le_of_ble_eq_true rfl, Nat.le_of_ble_eq_true rfl⟩ hCr.2.2.2.1.1.1 rfl rfl rfl (Nat.le_of_ble_eq_true rfl) (fun E S' h => by simp at h) (fun v S2 hk => ?_)
            obtain ⟨d1, f1, f2⟩ := hk
            cases d1
            have hC2 := keepR hCr f1 f2
            have hfr2 : BnAt S2 (x + 129 + 2) F R.2.2 := u3.frame (f1.ext (by omega)) (fun z z1 z2 => f1.1 z (by omega))
            have hrr : S2.1 (x + 129) = some (rO (x + 129) 0 len z R.1 (-1)) := by rw [f1.1 _ (by omega)]; exact u1
            show PW _ _ _ 49 _ [] _ _ _ _
            refine r_aload_n dX9_load_49 (i := 0) rfl rfl (r_get dX9_load_50 fl_X9_10 hC2.2.1 rfl (r_aload_n dX9_load_53 (i := 0) rfl rfl (r_get dX9_load_54 fl_X9_26 hC2.2.1 rfl (r_get dX9_load_57 fl_X9_82 hrr rfl ?_))))
            refine c_vq dX9_load_60 (c_X0_copyFrom (b := x + 1) (b' := x + 129 + 2) (by omega) (by omega) hC2.2.2.1 hfr2) rfl rfl mq_X0_copyFrom ml_X9_85 ⟨Nat.le_of_ble_eq_true rfl, Nat.le_of_ble_eq_true rfl⟩ hC2.2.2.1.1.1 rfl rfl rfl (Nat.le_of_ble_eq_true rfl) (fun E S' h => by simp at h) (fun v S3 hk => ?_)
            obtain ⟨d1, b2, b1⟩ := hk
            cases d1
            have hC3 : CX S3 x F R.2.2 (upH H nx a) ((nx + 1) % 8) (min (ct + 1) 8) 0 (-1) tx := hC2.bench (b2.ext (by omega)) (fun z z1 z2 z3 => b2.1 z (by omega)) b1
            show PW _ _ _ 63 _ [] _ _ _ _
            refine r_aload_n dX9_load_63 (i := 0) rfl rfl (r_get dX9_load_64 fl_X9_10 hC3.2.1 rfl (r_get dX9_load_67 fl_X9_88 hC3.2.2.1.1.1 rfl (r_iret dX9_load_70 rfl rfl ?_)))
            exact Out.ok (by rw [if_pos hl]) (by rw [if_pos m1]) ⟨hFr.trans ((FrC.ofX f1 (by omega) (by omega)).trans (FrC.ofB b2 (by omega) (by omega))), fun _ => hC3, fun z => absurd m1 z⟩
          · exact absurd c1 m1
        · rcases k4 with ⟨m1, m2, m3, m4⟩ | ⟨m1, m2⟩
          · exact absurd m1 c1
          · subst m2
            refine r_iload_n dX9_load_36 (i := 2) rfl rfl (r_iret dX9_load_37 rfl rfl ?_)
            exact Out.ok (by rw [if_pos hl]) (by rw [if_neg m1]) ⟨hFr, fun z => absurd z m1, fun _ => hCr⟩
  · refine r_bud (kc' := 1) (ks' := 6) (by omega) (by omega) ?_
    refine r_iload_n dX9_load_0 (i := 1) rfl rfl ?_
    refine r_if_lt 19 dX9_load_1 (by decide) (by omega) (fun c1 => ?_) (fun c1 => ?_)
    · refine r_iconst dX9_load_19 ?_
      exact c_sx dX9_load_20 (c_X9_require0 (mc := 1) (ms := 6) rfl (by omega) (by omega)) rfl mq_X9_require ml_X9_70 ⟨Nat.le_of_ble_eq_true rfl, Nat.le_of_ble_eq_true rfl⟩ rfl rfl (Nat.le_of_ble_eq_true rfl) (by show 1 ≤ _; omega) (by show 6 ≤ _; omega) (fun o S' ho => ⟨_, ho.1, Out.th 0 (by rw [if_neg hl]; rfl) rfl ⟨rfl, ho.2⟩⟩)
    · refine r_iload_n dX9_load_4 (i := 1) rfl rfl (r_aload_n dX9_load_5 (i := 0) rfl rfl (r_get dX9_load_6 fl_X9_26 hx rfl (r_get dX9_load_9 fl_X9_66 r1 rfl ?_)))
      refine r_icmp_gt 19 dX9_load_12 (by decide) (by omega) (by omega) (fun c2 => ?_) (fun c2 => ?_)
      · refine r_iconst dX9_load_19 ?_
        exact c_sx dX9_load_20 (c_X9_require0 (mc := 1) (ms := 6) rfl (by omega) (by omega)) rfl mq_X9_require ml_X9_70 ⟨Nat.le_of_ble_eq_true rfl, Nat.le_of_ble_eq_true rfl⟩ rfl rfl (Nat.le_of_ble_eq_true rfl) (by show 1 ≤ _; omega) (by show 6 ≤ _; omega) (fun o S' ho => ⟨_, ho.1, Out.th 0 (by rw [if_neg hl]; rfl) rfl ⟨rfl, ho.2⟩⟩)
      · refine r_iconst dX9_load_15 (r_goto 20 dX9_load_16 (by decide) (c_sn dX9_load_20 (c_X9_require1 (by decide) ⟨by omega, by omega⟩) rfl rfl mq_X9_require ml_X9_70 ⟨Nat.le_of_ble_eq_true rfl, Nat.le_of_ble_eq_true rfl⟩ rfl rfl (Nat.le_of_ble_eq_true rfl) (r_aload_n dX9_load_23 (i := 0) rfl rfl (r_get dX9_load_24 fl_X9_26 hx rfl ?_))))
        refine r_iload_n dX9_load_27 (i := 1) rfl rfl ?_
        omega
end LOAD

/-! the class: TextReader.passWord, readTerm, readTerms -/
section LTROW
variable {g : GT} {cc : ByteArray} {X : MI} {pc : Nat} {L : List (Nat × Option Value)} {st : List Value} {S : PS} {kc ks : Nat} {Q : PO → PS → Prop}
theorem r_lt (k : (∀ (z : Nat) (c : PE), S.1 z = some c → z < S.2) → PW g cc X pc L st S kc ks Q) : PW g cc X pc L st S kc ks Q := by
  intro p e s m args below meth c H locs ls cells slots C hP hz hlo hL h1 h2
  exact k (fun z c h => hP.lt h) p e s m args below meth c H locs ls cells slots C hP hz hlo hL h1 h2
end LTROW
section PASSW
variable {g : GT} {S : PS} {mc ms : Nat} {Q : PO → PS → Prop} {kc ks : Nat} {r : Nat} {fd en at' er ea : Int} {tx : Int → Int}
theorem c_X8_passSpacesB (h : S.1 r = some (rO r fd en at' er ea)) (ht : S.1 (r + 1) = some (cB 600 tx)) (hb : ∀ i : Int, 0 ≤ i → i < en → -128 ≤ tx i ∧ tx i ≤ 127) (he : 0 ≤ en ∧ en ≤ 600) (ha : 0 ≤ at' ∧ at' ≤ en) : PC g yX8_passSpaces cX8_passSpaces (iX8_passSpaces mc ms) [.ref r] S (Rt none (ps_put S r (rO r fd en (sk (seeI tx en) at') er ea))) := c_X8_passSpaces h ht hb he ha
theorem c_X8_passNumberB (h : S.1 r = some (rO r fd en at' er ea)) (ht : S.1 (r + 1) = some (cB 600 tx)) (hb : ∀ i : Int, 0 ≤ i → i < en → -128 ≤ tx i ∧ tx i ≤ 127) (he : 0 ≤ en ∧ en ≤ 600) (ha : 0 ≤ at' ∧ at' ≤ en) : PC g yX8_passNumber cX8_passNumber (iX8_passNumber mc ms) [.ref r] S (fun o S' => (dgB (seeI tx en) at' = true ∧ o = .inl (some (vi (nmB (seeI tx en) 600 at' 0))) ∧ S' = ps_put S r (rO r fd en (dgE (seeI tx en) at') er ea)) ∨ (¬ dgB (seeI tx en) at' = true ∧ o = .inl (some (vi (-1))) ∧ S' = S)) := by
  have h9 := c_X8_passNumber (g := g) (mc := mc) (ms := ms) h ht hb he ha
  rw [nmP_B] at h9
  exact h9
theorem l_word {q : Nat} {L : List Int} (hT : TxtB g) (hs : StrG g q L) (h : S.1 r = some (rO r fd en at' er ea)) (ht : S.1 (r + 1) = some (cB 600 tx)) (hb : ∀ i : Int, 0 ≤ i → i < en → -128 ≤ tx i ∧ tx i ≤ 127) (he : 0 ≤ en ∧ en ≤ 600) (ha : 0 ≤ at' ∧ at' ≤ en) (hy : wdB (seeI tx en) L at' → Q (.inl (some (vi 1))) (ps_put S r (rO r fd en (at' + (L.length : Int)) er ea))) (hn : ¬ wdB (seeI tx en) L at' → Q (.inl (some (vi 0))) S) : ∀ (u i : Nat), i + u = L.length → (∀ j : Nat, j < i → seeI tx en (at' + (j : Int)) = L.getD j 0) →
    PW g cX8_passWord (iX8_passWord mc ms) 2 [(0, some (.ref r)), (1, some (.ref q)), (2, some (vi (i : Int)))] [] S kc ks Q := by
  intro u
  have hl := hs.2.2.2.1
  induction u with
  | zero =>
    intro i hi hm
    have hsb := seeI_bd tx en (at' + (L.length : Int))
    refine r_iload_n dX8_passWord_2 (i := 2) rfl rfl (r_aload_n dX8_passWord_3 (i := 1) rfl rfl ?_)
    refine c_vrK dX8_passWord_4 (c_J0_length hT hs) rfl rfl mq_J0_length_8abf5 ml_X8_116 ⟨Nat.le_of_ble_eq_true rfl, Nat.le_of_ble_eq_true rfl⟩ hs.1 rfl rfl (Nat.le_of_ble_eq_true rfl) ?_
    refine r_icmp_ge 36 dX8_passWord_7 (by decide) (by omega) (by omega) (fun c1 => ?_) (fun c1 => ?_)
    · refine r_aload_n dX8_passWord_36 (i := 0) rfl rfl (r_aload_n dX8_passWord_37 (i := 0) rfl rfl (r_get dX8_passWord_38 fl_X8_38 h rfl (r_aload_n dX8_passWord_41 (i := 1) rfl rfl ?_)))
      refine c_vrK dX8_passWord_42 (c_J0_length hT hs) rfl rfl mq_J0_length_8abf5 ml_X8_116 ⟨Nat.le_of_ble_eq_true rfl, Nat.le_of_ble_eq_true rfl⟩ hs.1 rfl rfl (Nat.le_of_ble_eq_true rfl) ?_
      refine r_iadd dX8_passWord_45 (c_vr dX8_passWord_46 (c_X8_byteAt h ht hb he ⟨by omega, by omega⟩) rfl rfl mq_X8_byteAt ml_X8_99 ⟨Nat.le_of_ble_eq_true rfl, Nat.le_of_ble_eq_true rfl⟩ h rfl rfl rfl (Nat.le_of_ble_eq_true rfl) (c_sr dX8_passWord_49 (c_X8_isLetter ⟨by omega, by omega⟩) rfl rfl mq_X8_isLetter ml_X8_125 ⟨Nat.le_of_ble_eq_true rfl, Nat.le_of_ble_eq_true rfl⟩ rfl rfl (Nat.le_of_ble_eq_true rfl) ?_))
      refine r_if_eq 57 dX8_passWord_52 (by decide) b2i_RI (fun c2 => ?_) (fun c2 => ?_)
      · refine r_aload_n dX8_passWord_57 (i := 0) rfl rfl (r_dup dX8_passWord_58 rfl (r_get dX8_passWord_59 fl_X8_38 h rfl (r_aload_n dX8_passWord_62 (i := 1) rfl rfl ?_)))
        refine c_vrK dX8_passWord_63 (c_J0_length hT hs) rfl rfl mq_J0_length_8abf5 ml_X8_116 ⟨Nat.le_of_ble_eq_true rfl, Nat.le_of_ble_eq_true rfl⟩ hs.1 rfl rfl (Nat.le_of_ble_eq_true rfl) ?_
        refine r_iadd dX8_passWord_66 (r_put dX8_passWord_67 fl_X8_38 h rfl rfl (Nat.le_of_ble_eq_true rfl) (r_iconst dX8_passWord_70 (r_iret dX8_passWord_71 rfl (q_narZ (by first | exact Or.inl rfl | exact Or.inr rfl)) ?_)))
        exact hy ⟨fun j hj => hm j (by omega), b2i_eq c2⟩
      · refine r_iconst dX8_passWord_55 (r_iret dX8_passWord_56 rfl (q_narZ (by first | exact Or.inl rfl | exact Or.inr rfl)) ?_)
        exact hn (fun z => z.2 (b2i_ne c2))
    · omega
  | succ u ih =>
    intro i hi hm
    have hsb := seeI_bd tx en (at' + (i : Int))
    have hg : 0 ≤ L.getD ((i : Int)).toNat 0 ∧ L.getD ((i : Int)).toNat 0 < 128 := by
      have e : L.getD ((i : Int)).toNat 0 = L[i]'(by omega) := by
        rw [Int.toNat_natCast, List.getD_eq_getElem?_getD, List.getElem?_eq_getElem (by omega)]
        rfl
      rw [e]
      exact hs.2.2.1 _ (List.getElem_mem _)
    refine r_iload_n dX8_passWord_2 (i := 2) rfl rfl (r_aload_n dX8_passWord_3 (i := 1) rfl rfl ?_)
    refine c_vrK dX8_passWord_4 (c_J0_length hT hs) rfl rfl mq_J0_length_8abf5 ml_X8_116 ⟨Nat.le_of_ble_eq_true rfl, Nat.le_of_ble_eq_true rfl⟩ hs.1 rfl rfl (Nat.le_of_ble_eq_true rfl) ?_
    refine r_icmp_ge 36 dX8_passWord_7 (by decide) (by omega) (by omega) (fun c1 => ?_) (fun c1 => ?_)
    · omega
    · refine r_aload_n dX8_passWord_10 (i := 0) rfl rfl (r_aload_n dX8_passWord_11 (i := 0) rfl rfl (r_get dX8_passWord_12 fl_X8_38 h rfl (r_iload_n dX8_passWord_15 (i := 2) rfl rfl (r_iadd dX8_passWord_16 ?_))))
      refine c_vr dX8_passWord_17 (c_X8_byteAt h ht hb he ⟨by omega, by omega⟩) rfl rfl mq_X8_byteAt ml_X8_99 ⟨Nat.le_of_ble_eq_true rfl, Nat.le_of_ble_eq_true rfl⟩ h rfl rfl rfl (Nat.le_of_ble_eq_true rfl) (r_aload_n dX8_passWord_20 (i := 1) rfl rfl (r_iload_n dX8_passWord_21 (i := 2) rfl rfl ?_))
      refine c_vrK dX8_passWord_22 (c_J0_charAt hT hs ⟨by omega, by omega⟩) rfl rfl mq_J0_charAt_5068e ml_X8_121 ⟨Nat.le_of_ble_eq_true rfl, Nat.le_of_ble_eq_true rfl⟩ hs.1 rfl rfl (Nat.le_of_ble_eq_true rfl) ?_
      refine r_icmp_eq 30 dX8_passWord_25 (by decide) (by omega) (by omega) (fun c2 => ?_) (fun c2 => ?_)
      · refine r_iinc dX8_passWord_30 rfl rfl (r_goto 2 dX8_passWord_33 (by decide) ?_)
        exact r_loc [(0, some (.ref r)), (1, some (.ref q)), (2, some (vi ((i + 1 : Nat) : Int)))] ⟨Or.inl rfl, Or.inl rfl, Or.inl rfl, trivial⟩ (ih (i + 1) (by omega) (fun j hj => by
          by_cases e : j = i
          · subst e
            exact c2
          · exact hm j (by omega)))
      · refine r_iconst dX8_passWord_28 (r_iret dX8_passWord_29 rfl (q_narZ (by first | exact Or.inl rfl | exact Or.inr rfl)) ?_)
        exact hn (fun z => c2 (z.1 i (by omega)))
theorem c_X8_passWord {q : Nat} {L : List Int} (hT : TxtB g) (hs : StrG g q L) (h : S.1 r = some (rO r fd en at' er ea)) (ht : S.1 (r + 1) = some (cB 600 tx)) (hb : ∀ i : Int, 0 ≤ i → i < en → -128 ≤ tx i ∧ tx i ≤ 127) (he : 0 ≤ en ∧ en ≤ 600) (ha : 0 ≤ at' ∧ at' ≤ en) : PC g yX8_passWord cX8_passWord (iX8_passWord mc ms) [.ref r, .ref q] S (fun o S' => (wdB (seeI tx en) L at' ∧ o = .inl (some (vi 1)) ∧ S' = ps_put S r (rO r fd en (at' + (L.length : Int)) er ea)) ∨ (¬ wdB (seeI tx en) L at' ∧ o = .inl (some (vi 0)) ∧ S' = S)) := by
  refine PC_of pnX8 rfl rfl rfl (Nat.le_of_ble_eq_true rfl) ?_
  refine r_iconst dX8_passWord_0 (r_istore_n dX8_passWord_1 (i := 2) rfl rfl (Nat.le_of_ble_eq_true rfl) ?_)
  exact r_loc [(0, some (.ref r)), (1, some (.ref q)), (2, some (vi ((0 : Nat) : Int)))] ⟨Or.inl rfl, Or.inl rfl, Or.inl rfl, trivial⟩ (l_word hT hs h ht hb he ha (fun z => Or.inl ⟨z, rfl, rfl⟩) (fun z => Or.inr ⟨z, rfl, rfl⟩) L.length 0 (by omega) (fun j hj => by omega))
/-- behind a term -/
theorem c_X8_readTerm {sq : Nat} {c : Int} {f : Int → Int} (h : S.1 r = some (rO r fd en at' er ea)) (ht : S.1 (r + 1) = some (cB 600 tx)) (hq : SeqAt S sq c f) (hne : r + 1 < sq) (hb : ∀ i : Int, 0 ≤ i → i < en → -128 ≤ tx i ∧ tx i ≤ 127) (he : 0 ≤ en ∧ en ≤ 600) (ha : 0 ≤ at' ∧ at' < en) (hc : 0 ≤ c ∧ c ≤ 32) : PC g yX8_readTerm cX8_readTerm (iX8_readTerm mc ms) [.ref r, .ref sq] S (fun o S' => o = .inl none ∧ ∃ z : Int, (0 ≤ z ∧ z ≤ en) ∧ (((trmB (seeI tx en) at' c).1 = 0 ∧ sk (seeI tx en) z = (trmB (seeI tx en) at' c).2.1 ∧ S' = ps_seq (ps_put S r (rO r fd en z er ea)) sq (c + 1) (upI f c (trmB (seeI tx en) at' c).2.2)) ∨ ((trmB (seeI tx en) at' c).1 ≠ 0 ∧ S' = ps_put S r (rO r fd en z (trmB (seeI tx en) at' c).1 (trmB (seeI tx en) at' c).2.1)))) := by
  have hB : BOk (seeI tx en) en := seeI_ok he
  have hsb := seeI_bd tx en at'
  have num : ∀ (sg z : Int), (0 ≤ z ∧ z ≤ en) → (sg = 1 ∨ sg = -1) → (hsg : (sg = -1 ↔ seeI tx en at' = 45)) → tmN (seeI tx en) sg z c = trmB (seeI tx en) at' c → ∀ ng : Int, (ng = 1 ∧ sg = -1) ∨ (ng = 0 ∧ sg = 1) → PW g cX8_readTerm (iX8_readTerm mc ms) 55 [(0, some (.ref r)), (1, some (.ref sq)), (2, some (vi ng))] [] (ps_put S r (rO r fd en z er ea)) mc ms (fun o S' => o = .inl none ∧ ∃ z : Int, (0 ≤ z ∧ z ≤ en) ∧ (((trmB (seeI tx en) at' c).1 = 0 ∧ sk (seeI tx en) z = (trmB (seeI tx en) at' c).2.1 ∧ S' = ps_seq (ps_put S r (rO r fd en z er ea)) sq (c + 1) (upI f c (trmB (seeI tx en) at' c).2.2)) ∨ ((trmB (seeI tx en) at' c).1 ≠ 0 ∧ S' = ps_put S r (rO r fd en z (trmB (seeI tx en) at' c).1 (trmB (seeI tx en) at' c).2.1)))) := fun sg z hz hs hsg hte ng hng => by
    rw [← hte]
    have h1 : (ps_put S r (rO r fd en z er ea)).1 r = some (rO r fd en z er ea) := ps_same
    have h2 : (ps_put S r (rO r fd en z er ea)).1 (r + 1) = some (cB 600 tx) := ps_ne (by omega) ht
    have q1 : SeqAt (ps_put S r (rO r fd en z er ea)) sq c f := ⟨ps_ne (by omega) hq.1, ps_ne (by omega) hq.2⟩
    refine r_aload_n dX8_readTerm_55 (i := 0) rfl rfl (r_get dX8_readTerm_56 fl_X8_38 h1 rfl (r_istore_n dX8_readTerm_59 (i := 3) rfl rfl (Nat.le_of_ble_eq_true rfl) (r_aload_n dX8_readTerm_60 (i := 0) rfl rfl ?_)))
    refine c_vq dX8_readTerm_61 (c_X8_passNumberB h1 h2 hb he hz) rfl rfl mq_X8_passNumber ml_X8_75 ⟨Nat.le_of_ble_eq_true rfl, Nat.le_of_ble_eq_true rfl⟩ h1 rfl rfl rfl (Nat.le_of_ble_eq_true rfl) (fun E S' h => by simp at h) (fun v S2 hn => ?_)
    rcases hn with ⟨n1, n2, n3⟩ | ⟨n1, n2, n3⟩
    · cases n2
      subst n3
      rw [ps_put_put]
      have hnb := nmB_bd hB 600 z 0 (by omega) (by omega)
      have hd := dgE_ok hB hz.1 hz.2
      have h1' : (ps_put S r (rO r fd en (dgE (seeI tx en) z) er ea)).1 r = some (rO r fd en (dgE (seeI tx en) z) er ea) := ps_same
      have q1' : SeqAt (ps_put S r (rO r fd en (dgE (seeI tx en) z) er ea)) sq c f := ⟨ps_ne (by omega) hq.1, ps_ne (by omega) hq.2⟩
      show PW _ _ _ 64 _ [vi (nmB (seeI tx en) 600 z 0)] _ _ _ _
      refine r_istore dX8_readTerm_64 rfl (Nat.le_of_ble_eq_true rfl) (r_iload dX8_readTerm_66 rfl (r_iconst dX8_readTerm_68 ?_))
      refine r_icmp_ne 82 dX8_readTerm_69 (by decide) (by omega) (by omega) (fun c1 => ?_) (fun c1 => ?_)
      · refine r_iload dX8_readTerm_82 rfl (r_sipush dX8_readTerm_84 (by decide) ?_)
        refine r_icmp_le 100 dX8_readTerm_87 (by decide) (by omega) (by omega) (fun c2 => ?_) (fun c2 => ?_)
        · refine r_aload_n dX8_readTerm_100 (i := 1) rfl rfl (c_vr dX8_readTerm_101 (c_X7_isFull q1' hc) rfl rfl mq_X7_isFull ml_X8_109 ⟨Nat.le_of_ble_eq_true rfl, Nat.le_of_ble_eq_true rfl⟩ q1'.1 rfl rfl rfl (Nat.le_of_ble_eq_true rfl) ?_)
          refine r_if_eq 117 dX8_readTerm_104 (by decide) b2i_RI (fun c3 => ?_) (fun c3 => ?_)
          · replace c3 := b2i_eq c3
            have hte2 : tmN (seeI tx en) sg z c = (0, sk (seeI tx en) (dgE (seeI tx en) z), sg * nmB (seeI tx en) 600 z 0) := by
              unfold tmN
              rw [if_pos n1, if_neg (by omega), if_neg (by omega)]
            rw [hte2]
            refine r_aload_n dX8_readTerm_117 (i := 1) rfl rfl (r_iload_n dX8_readTerm_118 (i := 2) rfl rfl ?_)
            rcases hng with ⟨e1, e2⟩ | ⟨e1, e2⟩
            · subst e1
              subst e2
              refine r_if_eq 128 dX8_readTerm_119 (by decide) (by omega) (fun c4 => ?_) (fun c4 => ?_)
              · omega
              · refine r_iload dX8_readTerm_122 rfl (r_ineg dX8_readTerm_124 (r_goto 130 dX8_readTerm_125 (by decide) (c_vn dX8_readTerm_130 (c_X7_add q1' ⟨hc.1, by omega⟩) rfl rfl mq_X7_add ml_X8_113 ⟨Nat.le_of_ble_eq_true rfl, Nat.le_of_ble_eq_true rfl⟩ q1'.1 rfl rfl rfl (Nat.le_of_ble_eq_true rfl) (r_vret dX8_readTerm_133 rfl ?_))))
                refine ⟨rfl, _, ⟨by omega, hd.2.2⟩, Or.inl ⟨rfl, rfl, ?_⟩⟩
                show _ = ps_seq _ sq (c + 1) (upI f c (-1 * nmB (seeI tx en) 600 z 0))
                rw [show -1 * nmB (seeI tx en) 600 z 0 = -nmB (seeI tx en) 600 z 0 by omega]
            · subst e1
              subst e2
              refine r_if_eq 128 dX8_readTerm_119 (by decide) (by omega) (fun c4 => ?_) (fun c4 => ?_)
              · refine r_iload dX8_readTerm_128 rfl (c_vn dX8_readTerm_130 (c_X7_add q1' ⟨hc.1, by omega⟩) rfl rfl mq_X7_add ml_X8_113 ⟨Nat.le_of_ble_eq_true rfl, Nat.le_of_ble_eq_true rfl⟩ q1'.1 rfl rfl rfl (Nat.le_of_ble_eq_true rfl) (r_vret dX8_readTerm_133 rfl ?_))
                refine ⟨rfl, _, ⟨by omega, hd.2.2⟩, Or.inl ⟨rfl, rfl, ?_⟩⟩
                show _ = ps_seq _ sq (c + 1) (upI f c (1 * nmB (seeI tx en) 600 z 0))
                rw [Int.one_mul]
              · omega
          · replace c3 := b2i_ne c3
            have hte2 : tmN (seeI tx en) sg z c = (-4, z, 0) := by
              unfold tmN
              rw [if_pos n1, if_neg (by omega), if_pos (by omega)]
            rw [hte2]
            refine r_aload_n dX8_readTerm_107 (i := 0) rfl rfl (r_bipush dX8_readTerm_108 (by decide) (r_iload_n dX8_readTerm_110 (i := 3) rfl rfl (c_vn dX8_readTerm_111 (c_X8_fail h1') rfl rfl mq_X8_fail ml_X8_65 ⟨Nat.le_of_ble_eq_true rfl, Nat.le_of_ble_eq_true rfl⟩ h1' rfl rfl rfl (Nat.le_of_ble_eq_true rfl) (r_goto 133 dX8_readTerm_114 (by decide) ?_))))
            refine r_vret dX8_readTerm_133 rfl ?_
            rw [ps_put_put]
            exact ⟨rfl, _, ⟨by omega, hd.2.2⟩, Or.inr ⟨by show ¬ (-4 : Int) = 0; omega, rfl⟩⟩
        · have hte2 : tmN (seeI tx en) sg z c = (-3, z, 0) := by
            unfold tmN
            rw [if_pos n1, if_pos (by omega)]
          rw [hte2]
          refine r_aload_n dX8_readTerm_90 (i := 0) rfl rfl (r_bipush dX8_readTerm_91 (by decide) (r_iload_n dX8_readTerm_93 (i := 3) rfl rfl (c_vn dX8_readTerm_94 (c_X8_fail h1') rfl rfl mq_X8_fail ml_X8_65 ⟨Nat.le_of_ble_eq_true rfl, Nat.le_of_ble_eq_true rfl⟩ h1' rfl rfl rfl (Nat.le_of_ble_eq_true rfl) (r_goto 133 dX8_readTerm_97 (by decide) ?_))))
          refine r_vret dX8_readTerm_133 rfl ?_
          rw [ps_put_put]
          exact ⟨rfl, _, ⟨by omega, hd.2.2⟩, Or.inr ⟨by show ¬ (-3 : Int) = 0; omega, rfl⟩⟩
      · omega
    · cases n2
      subst n3
      have hte2 : tmN (seeI tx en) sg z c = (-2, z, 0) := by
        unfold tmN
        rw [if_neg n1]
      rw [hte2]
      show PW _ _ _ 64 _ [vi (-1)] _ _ _ _
      refine r_istore dX8_readTerm_64 rfl (Nat.le_of_ble_eq_true rfl) (r_iload dX8_readTerm_66 rfl (r_iconst dX8_readTerm_68 ?_))
      refine r_icmp_ne 82 dX8_readTerm_69 (by decide) (by omega) (by omega) (fun c1 => ?_) (fun c1 => ?_)
      · omega
      · refine r_aload_n dX8_readTerm_72 (i := 0) rfl rfl (r_bipush dX8_readTerm_73 (by decide) (r_iload_n dX8_readTerm_75 (i := 3) rfl rfl (c_vn dX8_readTerm_76 (c_X8_fail h1) rfl rfl mq_X8_fail ml_X8_65 ⟨Nat.le_of_ble_eq_true rfl, Nat.le_of_ble_eq_true rfl⟩ h1 rfl rfl rfl (Nat.le_of_ble_eq_true rfl) (r_goto 133 dX8_readTerm_79 (by decide) ?_))))
        refine r_vret dX8_readTerm_133 rfl ?_
        rw [ps_put_put]
        exact ⟨rfl, _, hz, Or.inr ⟨by show ¬ (-2 : Int) = 0; omega, rfl⟩⟩
  refine PC_of pnX8 rfl rfl rfl (Nat.le_of_ble_eq_true rfl) ?_
  refine r_aload_n dX8_readTerm_0 (i := 0) rfl rfl (r_aload_n dX8_readTerm_1 (i := 0) rfl rfl (r_get dX8_readTerm_2 fl_X8_38 h rfl (c_vr dX8_readTerm_5 (c_X8_byteAt h ht hb he ⟨by omega, by omega⟩) rfl rfl mq_X8_byteAt ml_X8_99 ⟨Nat.le_of_ble_eq_true rfl, Nat.le_of_ble_eq_true rfl⟩ h rfl rfl rfl (Nat.le_of_ble_eq_true rfl) (r_bipush dX8_readTerm_8 (by decide) ?_))))
  refine r_icmp_ne 17 dX8_readTerm_10 (by decide) (by omega) (by omega) (fun c1 => ?_) (fun c1 => ?_)
  · have hte : trmB (seeI tx en) at' c = tmN (seeI tx en) 1 at' c := by
      unfold trmB
      rw [if_neg c1]
    refine r_iconst dX8_readTerm_17 (r_istore_n dX8_readTerm_18 (i := 2) rfl rfl (Nat.le_of_ble_eq_true rfl) (r_iload_n dX8_readTerm_19 (i := 2) rfl rfl ?_))
    refine r_if_eq 55 dX8_readTerm_20 (by decide) (by omega) (fun c2 => ?_) (fun c2 => ?_)
    · refine r_ps (ps_put_self h).symm ?_
      exact r_loc [(0, some (.ref r)), (1, some (.ref sq)), (2, some (vi 0))] ⟨Or.inl rfl, Or.inl rfl, Or.inl rfl, trivial⟩ (num 1 at' (by omega) (Or.inl rfl) ⟨fun z => by omega, fun z => absurd z c1⟩ hte.symm 0 (Or.inr ⟨rfl, rfl⟩))
    · omega
  · refine r_iconst dX8_readTerm_13 (r_goto 18 dX8_readTerm_14 (by decide) (r_istore_n dX8_readTerm_18 (i := 2) rfl rfl (Nat.le_of_ble_eq_true rfl) (r_iload_n dX8_readTerm_19 (i := 2) rfl rfl ?_)))
    refine r_if_eq 55 dX8_readTerm_20 (by decide) (by omega) (fun c2 => ?_) (fun c2 => ?_)
    · omega
    · refine r_aload_n dX8_readTerm_23 (i := 1) rfl rfl (c_vr dX8_readTerm_24 (c_X7_isFull hq hc) rfl rfl mq_X7_isFull ml_X8_109 ⟨Nat.le_of_ble_eq_true rfl, Nat.le_of_ble_eq_true rfl⟩ hq.1 rfl rfl rfl (Nat.le_of_ble_eq_true rfl) ?_)
      refine r_if_eq 41 dX8_readTerm_27 (by decide) b2i_RI (fun c3 => ?_) (fun c3 => ?_)
      · replace c3 := b2i_eq c3
        have hte : trmB (seeI tx en) at' c = tmN (seeI tx en) (-1) (sk (seeI tx en) (at' + 1)) c := by
          unfold trmB
          rw [if_pos c1, if_neg (by omega)]
        have hk := sk_ok hB (p := at' + 1) (by omega) (by omega)
        have h2 : (ps_put S r (rO r fd en (at' + 1) er ea)).1 (r + 1) = some (cB 600 tx) := ps_ne (by omega) ht
        refine r_aload_n dX8_readTerm_41 (i := 0) rfl rfl (r_dup dX8_readTerm_42 rfl (r_get dX8_readTerm_43 fl_X8_38 h rfl (r_iconst dX8_readTerm_46 (r_iadd dX8_readTerm_47 ?_))))
        refine r_put dX8_readTerm_48 fl_X8_38 h rfl rfl (Nat.le_of_ble_eq_true rfl) ?_
        refine r_aload_n dX8_readTerm_51 (i := 0) rfl rfl (c_vn dX8_readTerm_52 (c_X8_passSpacesB ps_same h2 hb he ⟨by omega, by omega⟩) rfl rfl mq_X8_passSpaces ml_X8_47 ⟨Nat.le_of_ble_eq_true rfl, Nat.le_of_ble_eq_true rfl⟩ ps_same rfl rfl rfl (Nat.le_of_ble_eq_true rfl) ?_)
        rw [ps_put_put]
        exact r_loc [(0, some (.ref r)), (1, some (.ref sq)), (2, some (vi 1))] ⟨Or.inl rfl, Or.inl rfl, Or.inl rfl, trivial⟩ (num (-1) (sk (seeI tx en) (at' + 1)) (by omega) (Or.inr rfl) ⟨fun _ => c1, fun _ => rfl⟩ hte.symm 1 (Or.inl ⟨rfl, rfl⟩))
      · replace c3 := b2i_ne c3
        have hte : trmB (seeI tx en) at' c = (-4, at', 0) := by
          unfold trmB
          rw [if_pos c1, if_pos (by omega)]
        rw [hte]
        refine r_aload_n dX8_readTerm_30 (i := 0) rfl rfl (r_bipush dX8_readTerm_31 (by decide) (r_aload_n dX8_readTerm_33 (i := 0) rfl rfl (r_get dX8_readTerm_34 fl_X8_38 h rfl (c_vn dX8_readTerm_37 (c_X8_fail h) rfl rfl mq_X8_fail ml_X8_65 ⟨Nat.le_of_ble_eq_true rfl, Nat.le_of_ble_eq_true rfl⟩ h rfl rfl rfl (Nat.le_of_ble_eq_true rfl) ?_))))
        refine r_vret dX8_readTerm_40 rfl ?_
        exact ⟨rfl, at', by omega, Or.inr ⟨by show ¬ (-4 : Int) = 0; omega, rfl⟩⟩
end PASSW

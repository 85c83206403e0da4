/-! the literals: Strings of the launch; String's length and charAt on them -/
/-- a String of the launch with these bytes -/
def StrG (g : GT) (a : Nat) (L : List Int) : Prop := va_O "java/lang/String" a (gA g) g.K g.K.heap ∧ va_OF "java/lang/String" "coder" "B" (.int 0) a (gA g) g.K g.K.heap ∧ (∀ b ∈ L, 0 ≤ b ∧ b < 128) ∧ L.length < 128 ∧ ∃ v, va_OF "java/lang/String" "value" "[B" (.ref v) a (gA g) g.K g.K.heap ∧ va_T .byte v L.length (fun j => vi (L.getD j 0)) (gA g) g.K g.K.heap
/-- what is known of the launch's texts -/
def TxtB (g : GT) : Prop := va_Z "java/lang/String" "COMPACT_STRINGS" "Z" (.int 1) (gA g) g.K g.K.heap ∧ va_Zq "jdk/internal/util/Preconditions" "SIOOBE_FORMATTER" "Ljava/util/function/BiFunction;" (gA g) g.K g.K.heap
def chP : List Int := [112, 114, 105, 109, 101]
def chS : List Int := [115, 101, 113, 117, 101, 110, 99, 101]
def TxtL (g : GT) : Prop := (∀ a, vk_R "ConvolutionBench$TextReader" 50 "prime" a g.K → StrG g a chP) ∧ (∀ a, vk_R "ConvolutionBench$TextReader" 60 "sequence" a g.K → StrG g a chS) ∧ (∀ a, vk_R "ConvolutionBenchModel" 105 "prime" a g.K → StrG g a chP) ∧ (∀ a, vk_R "ConvolutionBenchModel" 126 "sequence" a g.K → StrG g a chS)
theorem q_narC0 : ∀ n : Nat, n < 256 → narrow .char (vi (n : Int)) = vi (n : Int) := by decide +kernel
theorem q_narC {z : Int} (h : 0 ≤ z ∧ z < 256) : narrow .char (vi z) = vi z := by
  obtain ⟨n, rfl⟩ := Int.eq_ofNat_of_zero_le h.1
  exact q_narC0 n (by omega)
theorem q_i2c0 : ∀ n : Nat, n < 256 → ((Int32.ofInt (n : Int)).toUInt32 % 65536).toInt32 = Int32.ofInt (n : Int) := by decide +kernel
theorem q_i2cI {z : Int} (h : 0 ≤ z ∧ z < 256) : ((Int32.ofInt z).toUInt32 % 65536).toInt32 = Int32.ofInt z := by
  obtain ⟨n, rfl⟩ := Int.eq_ofNat_of_zero_le h.1
  exact q_i2c0 n (by omega)
section KROWS
variable {g : GT} {cc : ByteArray} {X : MI} {pc : Nat} {L : List (Nat × Option Value)} {st : List Value} {S : PS} {kc ks : Nat} {Q : PO → PS → Prop}
theorem heapK {p : Program} {s : State} {m : MethodId} {meth : Method} {c : Code} (C : PCtx g cc X p s m meth c) : ∀ a : Nat, a < g.K.heap.size → ¬ gA g a → s.heap[a]? = g.K.heap[a]? := fun a ha _ => C.2.2.2.2.2.2.2.2.2.2.2 a ha
theorem r_getsK {C0 n d : String} {v : Value} {idx : Nat} (hZ : va_Z C0 n d v (gA g) g.K g.K.heap) (hd : decode cc pc = .ok (.getstatic idx, 3)) (hl : Cond.fieldLink X.own idx C0 n d ∈ lw_tbl) (k : PW g cc X (pc + 3) L (v :: st) S kc ks Q) : PW g cc X pc L st S kc ks Q := by
  intro p e s m args below meth c H locs ls cells slots C hP hz hlo hL h1 h2
  have kk := k p e s m args below meth c H locs ls cells slots C hP hz hlo hL h1 h2
  refine va_gets (A := gA g) C.1 C.2.1 ((hZ.moved C.warm.alike).kept (heapK C)) ⟨hz, fun q g1 g2 => ?_, hlo⟩ C.own (C.word hl rfl) (fun _ h => h) hd kk
  rw [hP.2.2.1 q (Nat.not_le.mp g2)]
  exact (C.2.2.2.2.2.2.2.2.2.2.2 q (Nat.not_le.mp g2)).symm
theorem r_getK {a idx : Nat} {n d : String} {v : Value} (hE : va_OF "java/lang/String" n d v a (gA g) g.K g.K.heap) (hd : decode cc pc = .ok (.getfield idx, 3)) (hl : Cond.fieldLink X.own idx "java/lang/String" n d ∈ lw_tbl) (k : PW g cc X (pc + 3) L (v :: st) S kc ks Q) : PW g cc X pc L (.ref a :: st) S kc ks Q := by
  intro p e s m args below meth c H locs ls cells slots C hP hz hlo hL h1 h2
  have kk := k p e s m args below meth c H locs ls cells slots C hP hz hlo hL h1 h2
  refine vk_getf (A := gA g) C.1 C.2.1 ((hE.moved C.warm.alike).kept (heapK C)) ⟨hz, fun q g1 g2 => ?_, hlo⟩ C.own (C.word hl rfl) (fun _ h => h) hd kk
  rw [hP.2.2.1 q (Nat.not_le.mp g2)]
  exact (C.2.2.2.2.2.2.2.2.2.2.2 q (Nat.not_le.mp g2)).symm
theorem r_lenK {a N : Nat} {f : Nat → Value} (hE : va_T .byte a N f (gA g) g.K g.K.heap) (hd : decode cc pc = .ok (.arraylength, 1)) (k : PW g cc X (pc + 1) L (vi (N : Int) :: st) S kc ks Q) : PW g cc X pc L (.ref a :: st) S kc ks Q := by
  intro p e s m args below meth c H locs ls cells slots C hP hz hlo hL h1 h2
  have kk := k p e s m args below meth c H locs ls cells slots C hP hz hlo hL h1 h2
  refine va_tlen (A := gA g) C.1 C.2.1 ((hE.moved C.warm.alike).kept (heapK C)) ⟨hz, fun q g1 g2 => ?_, hlo⟩ (v := Int32.ofInt (N : Int)) rfl hd kk
  rw [hP.2.2.1 q (Nat.not_le.mp g2)]
  exact (C.2.2.2.2.2.2.2.2.2.2.2 q (Nat.not_le.mp g2)).symm
theorem r_baldK {a N : Nat} {f : Nat → Value} {i : Int} (hE : va_T .byte a N f (gA g) g.K g.K.heap) (h0 : 0 ≤ i) (hi : i < N) (hn : N < 2147483648) (hd : decode cc pc = .ok (.baload, 1)) (k : PW g cc X (pc + 1) L (f i.toNat :: st) S kc ks Q) : PW g cc X pc L (vi i :: .ref a :: st) S kc ks Q := by
  intro p e s m args below meth c H locs ls cells slots C hP hz hlo hL h1 h2
  obtain ⟨hin, hcl⟩ := q_ix h0 hi hn
  have kk := k p e s m args below meth c H locs ls cells slots C hP hz hlo hL h1 h2
  refine va_tb (A := gA g) C.1 C.2.1 ((hE.moved C.warm.alike).kept (heapK C)) ⟨hz, fun q g1 g2 => ?_, hlo⟩ hin (v := f i.toNat) (by rw [hcl]) hd kk
  rw [hP.2.2.1 q (Nat.not_le.mp g2)]
  exact (C.2.2.2.2.2.2.2.2.2.2.2 q (Nat.not_le.mp g2)).symm
variable {y : MethodName} {cc' : ByteArray} {X' : MI} {b n idx : Nat} {As rest : List Value} {v : Value} {S1 : PS}
theorem pre_vK {p : Program} {s : State} {m : MethodId} {meth : Method} {c : Code} {H : Heap} {av : List Value} {Cn : String} (C : PCtx g cc X p s m meth c) (hP : PHp g S H) (hO : va_O Cn b (gA g) g.K g.K.heap) : PreV s H Cn b (va_Pc (.ref b :: av) (fun U => PR g S U)) av := by
  obtain ⟨cell, h1, h2, h3, h4⟩ := (hO.moved C.warm.alike).kept (H1 := H) (fun a ha _ => hP.2.2.1 a ha)
  exact ⟨pc_blind, ⟨cell, h1, h2, h3⟩, fun U hU hW => ⟨rfl, C.base, State.WarmedH.trans C.warm hW, by rw [hU]; exact hP⟩⟩
theorem c_vrK (hd : decode cc pc = .ok (.invokevirtual idx, 3)) (hc : PC g y cc' X' (.ref b :: As) S (Rt (some v) S1)) (h0 : X'.mc = 0) (h00 : X'.ms = 0) (hm : MQv y cc' X' n) (hl : Cond.methodLink X.own idx y ∈ lw_tbl) (hr : RM X X') (hO : va_O y.cls b (gA g) g.K g.K.heap) (hst : st = As.reverse ++ .ref b :: rest) (hn : As.length = n) (hcat : (rest.map fun v => v.category).sum ≤ 8) (k : PW g cc X (pc + 3) L (v :: rest) S1 kc ks Q) : PW g cc X pc L st S kc ks Q := by
  intro p e s m args below meth c H locs ls cells slots C hP hz hlo hL h1 h2
  exact run_k (vx_runV (cf_of C) hc ⟨cb_of C hm.1 hr hl, C.word hm.2.1 rfl, C.word hm.2.2 rfl⟩ (pre_vK C hP hO) rfl hn hL.1 hst (lv_room hcat) hd ⟨by show cells + X'.mc ≤ X.mc; omega, by show slots + X'.ms ≤ X.ms; omega⟩) C hz hlo hL (kc' := kc) (ks' := ks) (by omega) (by omega) (fun E S' h => absurd h (Rt_nx E S')) (fun v' S' h => by obtain ⟨h1, rfl⟩ := h; cases h1; exact k)
end KROWS
theorem fK_38 : Cond.fieldLink RJ0 38 "java/lang/String" "COMPACT_STRINGS" "Z" ∈ lw_tbl := wt2 (j := 167) rfl
theorem fK_9 : Cond.fieldLink RJ0 9 "java/lang/String" "value" "[B" ∈ lw_tbl := wt7 (j := 149) rfl
theorem fK_15 : Cond.fieldLink RJ0 15 "java/lang/String" "coder" "B" ∈ lw_tbl := wt7 (j := 150) rfl
theorem fK_1053 : Cond.fieldLink RJ0 1053 "jdk/internal/util/Preconditions" "SIOOBE_FORMATTER" "Ljava/util/function/BiFunction;" ∈ lw_tbl := wt2 (j := 183) rfl
section STR
variable {g : GT} {S : PS} {mc ms : Nat} {a : Nat} {L : List Int}
theorem c_J0_coder (hT : TxtB g) (hs : StrG g a L) : PC g yJ0_coder_7d493 cJ0_coder_7d493 (iJ0_coder_7d493 mc ms) [.ref a] S (Rt (some (vi 0)) S) := by
  refine PC_of pnJ0 rfl rfl rfl (Nat.le_of_ble_eq_true rfl) ?_
  refine r_getsK hT.1 dJ0_coder_7d493_0 fK_38 ?_
  show PW g _ _ 3 _ [vi 1] _ _ _ _
  refine r_if_eq 13 dJ0_coder_7d493_3 (by decide) (by omega) (fun c1 => ?_) (fun c1 => ?_)
  · omega
  · refine r_aload_n dJ0_coder_7d493_6 (i := 0) rfl rfl ?_
    refine r_getK hs.2.1 dJ0_coder_7d493_7 fK_15 ?_
    show PW g _ _ 10 _ [vi 0] _ _ _ _
    refine r_goto 14 dJ0_coder_7d493_10 (by decide) (r_iret dJ0_coder_7d493_14 rfl rfl ?_)
    exact ⟨rfl, rfl⟩
theorem c_J0_isLatin1 (hT : TxtB g) (hs : StrG g a L) : PC g yJ0_isLatin1_aae02 cJ0_isLatin1_aae02 (iJ0_isLatin1_aae02 mc ms) [.ref a] S (Rt (some (vi 1)) S) := by
  refine PC_of pnJ0 rfl rfl rfl (Nat.le_of_ble_eq_true rfl) ?_
  refine r_getsK hT.1 dJ0_isLatin1_aae02_0 fK_38 ?_
  show PW g _ _ 3 _ [vi 1] _ _ _ _
  refine r_if_eq 17 dJ0_isLatin1_aae02_3 (by decide) (by omega) (fun c1 => ?_) (fun c1 => ?_)
  · omega
  · refine r_aload_n dJ0_isLatin1_aae02_6 (i := 0) rfl rfl ?_
    refine r_getK hs.2.1 dJ0_isLatin1_aae02_7 fK_15 ?_
    show PW g _ _ 10 _ [vi 0] _ _ _ _
    refine r_if_ne 17 dJ0_isLatin1_aae02_10 (by decide) (by omega) (fun c2 => ?_) (fun c2 => ?_)
    · omega
    · refine r_iconst dJ0_isLatin1_aae02_13 (r_goto 18 dJ0_isLatin1_aae02_14 (by decide) (r_iret dJ0_isLatin1_aae02_18 rfl (q_narZ (by first | exact Or.inl rfl | exact Or.inr rfl)) ?_))
      exact ⟨rfl, rfl⟩
theorem c_J0_length (hT : TxtB g) (hs : StrG g a L) : PC g yJ0_length_8abf5 cJ0_length_8abf5 (iJ0_length_8abf5 mc ms) [.ref a] S (Rt (some (vi (L.length : Int))) S) := by
  obtain ⟨v, v1, v2⟩ := hs.2.2.2.2
  have hl := hs.2.2.2.1
  have hq : (L.length : Int) / 2 ^ (0 : Int).toNat = (L.length : Int) := by
    show (L.length : Int) / 1 = _
    omega
  refine PC_of pnJ0 rfl rfl rfl (Nat.le_of_ble_eq_true rfl) ?_
  refine r_aload_n dJ0_length_8abf5_0 (i := 0) rfl rfl ?_
  refine r_getK v1 dJ0_length_8abf5_1 fK_9 ?_
  refine r_lenK v2 dJ0_length_8abf5_4 ?_
  refine r_aload_n dJ0_length_8abf5_5 (i := 0) rfl rfl ?_
  refine c_vrK dJ0_length_8abf5_6 (c_J0_coder hT hs) rfl rfl mq_J0_coder_7d493 ml_J0_335 ⟨Nat.le_of_ble_eq_true rfl, Nat.le_of_ble_eq_true rfl⟩ hs.1 rfl rfl (Nat.le_of_ble_eq_true rfl) ?_
  refine r_ishr ((L.length : Int) / 2 ^ (0 : Int).toNat) dJ0_length_8abf5_9 (q_shr ⟨by omega, by omega⟩ (by omega)) ?_
  refine r_iret dJ0_length_8abf5_10 rfl rfl ?_
  rw [hq]
  exact ⟨rfl, rfl⟩
theorem c_J3_checkIndex {i n : Int} {v : Value} (hv : v = .null ∨ ∃ t, v = .ref t) (hi : 0 ≤ i ∧ i < n) (hn : RI n) : PC g yJ3_checkIndex_8e157 cJ3_checkIndex_8e157 (iJ3_checkIndex_8e157 mc ms) [vi i, vi n, v] S (Rt (some (vi i)) S) := by
  rcases hv with rfl | ⟨t, rfl⟩
  · refine PC_of pnJ3 rfl rfl rfl (Nat.le_of_ble_eq_true rfl) ?_
    refine r_iload_n dJ3_checkIndex_8e157_0 (i := 0) rfl rfl ?_
    refine r_if_lt 9 dJ3_checkIndex_8e157_1 (by decide) (by omega) (fun c1 => ?_) (fun c1 => ?_)
    · omega
    · refine r_iload_n dJ3_checkIndex_8e157_4 (i := 0) rfl rfl (r_iload_n dJ3_checkIndex_8e157_5 (i := 1) rfl rfl ?_)
      refine r_icmp_lt 16 dJ3_checkIndex_8e157_6 (by decide) (by omega) (by omega) (fun c2 => ?_) (fun c2 => ?_)
      · refine r_iload_n dJ3_checkIndex_8e157_16 (i := 0) rfl rfl ?_
        refine r_iret dJ3_checkIndex_8e157_17 rfl rfl ?_
        first | omega | exact ⟨rfl, rfl⟩ | exact ⟨by rw [b2i_t (by omega)], rfl⟩ | exact ⟨by rw [b2i_f (by omega)], rfl⟩
      · omega
  · refine PC_of pnJ3 rfl rfl rfl (Nat.le_of_ble_eq_true rfl) ?_
    refine r_iload_n dJ3_checkIndex_8e157_0 (i := 0) rfl rfl ?_
    refine r_if_lt 9 dJ3_checkIndex_8e157_1 (by decide) (by omega) (fun c1 => ?_) (fun c1 => ?_)
    · omega
    · refine r_iload_n dJ3_checkIndex_8e157_4 (i := 0) rfl rfl (r_iload_n dJ3_checkIndex_8e157_5 (i := 1) rfl rfl ?_)
      refine r_icmp_lt 16 dJ3_checkIndex_8e157_6 (by decide) (by omega) (by omega) (fun c2 => ?_) (fun c2 => ?_)
      · refine r_iload_n dJ3_checkIndex_8e157_16 (i := 0) rfl rfl ?_
        refine r_iret dJ3_checkIndex_8e157_17 rfl rfl ?_
        first | omega | exact ⟨rfl, rfl⟩ | exact ⟨by rw [b2i_t (by omega)], rfl⟩ | exact ⟨by rw [b2i_f (by omega)], rfl⟩
      · omega
theorem c_J0_checkIndex {i n : Int} (hT : TxtB g) (hi : 0 ≤ i ∧ i < n) (hn : RI n) : PC g yJ0_checkIndex_df160 cJ0_checkIndex_df160 (iJ0_checkIndex_df160 mc ms) [vi i, vi n] S (Rt none S) := by
  refine PC_of pnJ0 rfl rfl rfl (Nat.le_of_ble_eq_true rfl) ?_
  refine r_iload_n dJ0_checkIndex_df160_0 (i := 0) rfl rfl (r_iload_n dJ0_checkIndex_df160_1 (i := 1) rfl rfl ?_)
  rcases hT.2 with hz | ⟨t, hz⟩
  · refine r_getsK hz dJ0_checkIndex_df160_2 fK_1053 ?_
    refine c_sr dJ0_checkIndex_df160_5 (c_J3_checkIndex (Or.inl rfl) hi hn) rfl rfl mq_J3_checkIndex_8e157 ml_J0_1059 ⟨Nat.le_of_ble_eq_true rfl, Nat.le_of_ble_eq_true rfl⟩ rfl rfl (Nat.le_of_ble_eq_true rfl) (r_pop dJ0_checkIndex_df160_8 rfl (r_vret dJ0_checkIndex_df160_9 rfl ?_))
    exact ⟨rfl, rfl⟩
  · refine r_getsK hz dJ0_checkIndex_df160_2 fK_1053 ?_
    refine c_sr dJ0_checkIndex_df160_5 (c_J3_checkIndex (Or.inr ⟨t, rfl⟩) hi hn) rfl rfl mq_J3_checkIndex_8e157 ml_J0_1059 ⟨Nat.le_of_ble_eq_true rfl, Nat.le_of_ble_eq_true rfl⟩ rfl rfl (Nat.le_of_ble_eq_true rfl) (r_pop dJ0_checkIndex_df160_8 rfl (r_vret dJ0_checkIndex_df160_9 rfl ?_))
    exact ⟨rfl, rfl⟩
theorem c_J1_charAt {i : Int} {v : Nat} (hT : TxtB g) (hb : ∀ b ∈ L, 0 ≤ b ∧ b < 128) (hl : L.length < 128) (hv : va_T .byte v L.length (fun j => vi (L.getD j 0)) (gA g) g.K g.K.heap) (hi : 0 ≤ i ∧ i < L.length) : PC g yJ1_charAt_3b067 cJ1_charAt_3b067 (iJ1_charAt_3b067 mc ms) [.ref v, vi i] S (Rt (some (vi (L.getD i.toNat 0))) S) := by
  have hg : 0 ≤ L.getD i.toNat 0 ∧ L.getD i.toNat 0 < 128 := by
    have e : L.getD i.toNat 0 = L[i.toNat]'(by omega) := by
      rw [List.getD_eq_getElem?_getD, List.getElem?_eq_getElem (by omega)]
      rfl
    rw [e]
    exact hb _ (List.getElem_mem _)
  refine PC_of pnJ1 rfl rfl rfl (Nat.le_of_ble_eq_true rfl) ?_
  refine r_iload_n dJ1_charAt_3b067_0 (i := 1) rfl rfl (r_aload_n dJ1_charAt_3b067_1 (i := 0) rfl rfl ?_)
  refine r_lenK hv dJ1_charAt_3b067_2 ?_
  refine c_sn dJ1_charAt_3b067_3 (c_J0_checkIndex hT hi ⟨by omega, by omega⟩) rfl rfl mq_J0_checkIndex_df160 ml_J1_9 ⟨Nat.le_of_ble_eq_true rfl, Nat.le_of_ble_eq_true rfl⟩ rfl rfl (Nat.le_of_ble_eq_true rfl) (r_aload_n dJ1_charAt_3b067_6 (i := 0) rfl rfl (r_iload_n dJ1_charAt_3b067_7 (i := 1) rfl rfl ?_))
  refine r_baldK hv hi.1 hi.2 (by omega) dJ1_charAt_3b067_8 ?_
  have em : L.getD i.toNat 0 % 256 = L.getD i.toNat 0 := by omega
  refine r_sipush dJ1_charAt_3b067_9 (by decide) ?_
  refine r_iand (L.getD i.toNat 0 % 256) dJ1_charAt_3b067_12 (q_and255 (by omega)) ?_
  rw [em]
  refine r_i2c (L.getD i.toNat 0) dJ1_charAt_3b067_13 (q_i2cI (by omega)) ?_
  refine r_iret dJ1_charAt_3b067_14 rfl (q_narC (by omega)) ?_
  exact ⟨rfl, rfl⟩
theorem c_J0_charAt {i : Int} (hT : TxtB g) (hs : StrG g a L) (hi : 0 ≤ i ∧ i < L.length) : PC g yJ0_charAt_5068e cJ0_charAt_5068e (iJ0_charAt_5068e mc ms) [.ref a, vi i] S (Rt (some (vi (L.getD i.toNat 0))) S) := by
  obtain ⟨v, v1, v2⟩ := hs.2.2.2.2
  have hg : 0 ≤ L.getD i.toNat 0 ∧ L.getD i.toNat 0 < 128 := by
    have e : L.getD i.toNat 0 = L[i.toNat]'(by omega) := by
      rw [List.getD_eq_getElem?_getD, List.getElem?_eq_getElem (by omega)]
      rfl
    rw [e]
    exact hs.2.2.1 _ (List.getElem_mem _)
  refine PC_of pnJ0 rfl rfl rfl (Nat.le_of_ble_eq_true rfl) ?_
  refine r_aload_n dJ0_charAt_5068e_0 (i := 0) rfl rfl ?_
  refine c_vrK dJ0_charAt_5068e_1 (c_J0_isLatin1 hT hs) rfl rfl mq_J0_isLatin1_aae02 ml_J0_492 ⟨Nat.le_of_ble_eq_true rfl, Nat.le_of_ble_eq_true rfl⟩ hs.1 rfl rfl (Nat.le_of_ble_eq_true rfl) ?_
  refine r_if_eq 16 dJ0_charAt_5068e_4 (by decide) (by omega) (fun c1 => ?_) (fun c1 => ?_)
  · omega
  · refine r_aload_n dJ0_charAt_5068e_7 (i := 0) rfl rfl ?_
    refine r_getK v1 dJ0_charAt_5068e_8 fK_9 ?_
    refine r_iload_n dJ0_charAt_5068e_11 (i := 1) rfl rfl (c_sr dJ0_charAt_5068e_12 (c_J1_charAt hT hs.2.2.1 hs.2.2.2.1 v2 hi) rfl rfl mq_J1_charAt_3b067 ml_J0_495 ⟨Nat.le_of_ble_eq_true rfl, Nat.le_of_ble_eq_true rfl⟩ rfl rfl (Nat.le_of_ble_eq_true rfl) (r_iret dJ0_charAt_5068e_15 rfl (q_narC (by omega)) ?_))
    exact ⟨rfl, rfl⟩
end STR

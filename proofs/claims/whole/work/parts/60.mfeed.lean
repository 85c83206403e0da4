/-! the model's face: feed -/
theorem q_shrc {a c : Int} (ha : RI a) (hc : c = 0 ∨ c = 8 ∨ c = 16 ∨ c = 24) : Int32.ofInt a >>> (Int32.ofInt c &&& 31) = Int32.ofInt (a / 2 ^ c.toNat) := by
  have e1 : (Int32.ofInt a).toInt = a := q_tI ha.1 ha.2
  have main : ∀ n : Nat, n ≤ 24 → ((Int32.ofInt (n : Int) &&& 31).toBitVec.smod 32).toNat = n → c = (n : Int) → Int32.ofInt a >>> (Int32.ofInt c &&& 31) = Int32.ofInt (a / 2 ^ c.toNat) := by
    intro n hn h e
    subst e
    refine Int32.toInt_inj.mp ?_
    rw [pk_shr _ _ n h, e1, Int.shiftRight_eq_div_pow, Int.toNat_natCast]
    have hp := Nat.pow_pos (n := n) (show 0 < 2 by omega)
    have h2 : ((2 ^ n : Nat) : Int) = (2 : Int) ^ n := Int.natCast_pow 2 n
    rw [← h2]
    have b1 := Int.le_ediv_of_mul_le (a := -2147483648) (b := a) (c := ((2 ^ n : Nat) : Int)) (by omega) (by
      have := ha.1
      omega)
    have b2 : a / ((2 ^ n : Nat) : Int) ≤ 2147483647 := by
      have := Int.ediv_le_ediv (show (0 : Int) < ((2 ^ n : Nat) : Int) by omega) (show a ≤ 2147483647 by have := ha.2; omega)
      have h3 : (2147483647 : Int) / ((2 ^ n : Nat) : Int) ≤ 2147483647 := Int.ediv_le_self _ (by omega)
      omega
    exact (q_tI (by omega) (by omega)).symm
  rcases hc with e | e | e | e
  · exact main 0 (by omega) (by decide) e
  · exact main 8 (by omega) (by decide) e
  · exact main 16 (by omega) (by decide) e
  · exact main 24 (by omega) (by decide) e
theorem shr_RI {a : Int} (ha : RI a) (n : Nat) : RI (a / 2 ^ n) := by
  have hp := Nat.pow_pos (n := n) (show 0 < 2 by omega)
  have h2 : ((2 ^ n : Nat) : Int) = (2 : Int) ^ n := Int.natCast_pow 2 n
  rw [← h2]
  have b1 := Int.le_ediv_of_mul_le (a := -2147483648) (b := a) (c := ((2 ^ n : Nat) : Int)) (by omega) (by
    have := ha.1
    omega)
  have b2 : a / ((2 ^ n : Nat) : Int) ≤ 2147483647 := by
    have := Int.ediv_le_ediv (show (0 : Int) < ((2 ^ n : Nat) : Int) by omega) (show a ≤ 2147483647 by have := ha.2; omega)
    have h3 : (2147483647 : Int) / ((2 ^ n : Nat) : Int) ≤ 2147483647 := Int.ediv_le_self _ (by omega)
    omega
  exact ⟨by omega, by omega⟩
theorem q_and255 {x : Int} (h : RI x) : Int32.ofInt x &&& Int32.ofInt 255 = Int32.ofInt (x % 256) := by
  rw [pk_and _ 8 (show (Int32.ofInt 255).toBitVec.toNat = 2 ^ 8 - 1 by decide)]
  show Int32.ofInt (((BitVec.ofInt 32 x).toNat % 2 ^ 8 : Nat) : Int) = _
  rw [BitVec.toNat_ofInt]
  congr 1
  have h1 := h.1
  have h2 := h.2
  omega
def fdV (v0 v1 v2 v3 v4 k : Int) : Int := if k < 4 then v0 else if k < 8 then v1 else if k < 12 then v2 else if k < 16 then v3 else v4
def fdB (v0 v1 v2 v3 v4 k : Int) : Int := (fdV v0 v1 v2 v3 v4 k / 2 ^ (24 - 8 * (k % 4)).toNat) % 256
section MFEED
variable {g : GT} {S : PS} {mc ms : Nat} {Q : PO → PS → Prop} {kc ks : Nat} {m : Nat} {a kp bf : Int → Int} {fs : List Value} {km th bu sz at' be ki wr wa ea nu bs bw bt' : Int}
theorem l_mfeed {v0 v1 v2 v3 v4 : Int} (h0 : RI v0) (h1 : RI v1) (h2 : RI v2) (h3 : RI v3) (h4 : RI v4) (hb : 0 ≤ bu ∧ bu ≤ 580)
    (hq : Q (.inl (some (vi (bu + 20)))) (ps_put (ps_put S m (mO m km th (bu + 20) sz at' be ki wr wa ea nu bs bw bt')) (m + 4) (cI 600 (mix bu (bu + 20) (fun x => fdB v0 v1 v2 v3 v4 (x - bu)) bf)))) : ∀ (r i : Nat), i + r = 20 →
    PW g cX10_feed (iX10_feed mc ms) 34 [(0, some (.ref m)), (1, some (vi v0)), (2, some (vi v1)), (3, some (vi v2)), (4, some (vi v3)), (5, some (vi v4)), (6, some (vi (i : Int)))] [] (ps_put (ps_put S m (mO m km th (bu + (i : Int)) sz at' be ki wr wa ea nu bs bw bt')) (m + 4) (cI 600 (mix bu (bu + (i : Int)) (fun x => fdB v0 v1 v2 v3 v4 (x - bu)) bf))) kc ks Q := by
  intro r
  induction r with
  | zero =>
    intro i hi
    have e : i = 20 := by omega
    subst e
    refine r_iload dX10_feed_34 rfl (r_bipush dX10_feed_36 (by decide) ?_)
    refine r_icmp_ge 131 dX10_feed_38 (by decide) (by omega) (by omega) (fun c1 => ?_) (fun c1 => ?_)
    · refine r_aload_n dX10_feed_131 (i := 0) rfl rfl (r_get dX10_feed_132 fl_X10_36 (ps_ne (by omega) ps_same) rfl ?_)
      refine r_iret dX10_feed_135 rfl rfl ?_
      exact hq
    · omega
  | succ r ih =>
    intro i hi
    have ho : (ps_put (ps_put S m (mO m km th (bu + (i : Int)) sz at' be ki wr wa ea nu bs bw bt')) (m + 4) (cI 600 (mix bu (bu + (i : Int)) (fun x => fdB v0 v1 v2 v3 v4 (x - bu)) bf))).1 m = some (mO m km th (bu + (i : Int)) sz at' be ki wr wa ea nu bs bw bt') := ps_ne (by omega) ps_same
    have key : ∀ v, RI v → v = fdV v0 v1 v2 v3 v4 (i : Int) → PW g cX10_feed (iX10_feed mc ms) 87 [(0, some (.ref m)), (1, some (vi v0)), (2, some (vi v1)), (3, some (vi v2)), (4, some (vi v3)), (5, some (vi v4)), (6, some (vi (i : Int)))] [vi v] (ps_put (ps_put S m (mO m km th (bu + (i : Int)) sz at' be ki wr wa ea nu bs bw bt')) (m + 4) (cI 600 (mix bu (bu + (i : Int)) (fun x => fdB v0 v1 v2 v3 v4 (x - bu)) bf))) kc ks Q := by
      intro v hv he
      have hr := shr_RI hv (24 - 8 * ((i : Int) % 4)).toNat
      refine r_istore dX10_feed_87 rfl (Nat.le_of_ble_eq_true rfl) (r_aload_n dX10_feed_89 (i := 0) rfl rfl (r_get dX10_feed_90 fl_X10_19 ho rfl (r_aload_n dX10_feed_93 (i := 0) rfl rfl (r_get dX10_feed_94 fl_X10_36 ho rfl ?_))))
      refine r_iload dX10_feed_97 rfl (r_bipush dX10_feed_99 (by decide) (r_bipush dX10_feed_101 (by decide) (r_iload dX10_feed_103 rfl (r_iconst dX10_feed_105 ?_))))
      refine r_iremN dX10_feed_106 (by omega) (by omega) (by omega) (by omega) (r_imul dX10_feed_107 (r_isub dX10_feed_108 ?_))
      refine r_ishr (v / 2 ^ (24 - 8 * ((i : Int) % 4)).toNat) dX10_feed_109 (q_shrc (c := 24 - 8 * ((i : Int) % 4)) hv (by omega)) ?_
      refine r_sipush dX10_feed_110 (by decide) ?_
      refine r_iand ((v / 2 ^ (24 - 8 * ((i : Int) % 4)).toNat) % 256) dX10_feed_113 (q_and255 hr) ?_
      refine r_iast dX10_feed_114 ps_same (by omega) (by omega) (by omega) (r_aload_n dX10_feed_115 (i := 0) rfl rfl (r_dup dX10_feed_116 rfl (r_get dX10_feed_117 fl_X10_36 (ps_ne (by omega) ho) rfl (r_iconst dX10_feed_120 ?_))))
      refine r_iadd dX10_feed_121 (r_put dX10_feed_122 fl_X10_36 (ps_ne (by omega) ho) rfl rfl (Nat.le_of_ble_eq_true rfl) (r_iinc dX10_feed_125 rfl rfl (r_goto 34 dX10_feed_128 (by decide) ?_)))
      rw [ps_put_put, mix_up (A := fun x => fdB v0 v1 v2 v3 v4 (x - bu)) (lo := bu) (i := bu + (i : Int)) (B := bf) (by omega) (by
        show _ = fdB v0 v1 v2 v3 v4 (bu + (i : Int) - bu)
        rw [show bu + (i : Int) - bu = (i : Int) by omega, he]
        rfl), ps_put_comm (by omega), ps_put_put, Int.add_assoc]
      exact r_loc [(0, some (.ref m)), (1, some (vi v0)), (2, some (vi v1)), (3, some (vi v2)), (4, some (vi v3)), (5, some (vi v4)), (6, some (vi ((i + 1 : Nat) : Int)))] ⟨Or.inl rfl, Or.inl rfl, Or.inl rfl, Or.inl rfl, Or.inl rfl, Or.inl rfl, Or.inl rfl, trivial⟩ (ih (i + 1) (by omega))
    refine r_iload dX10_feed_34 rfl (r_bipush dX10_feed_36 (by decide) ?_)
    refine r_icmp_ge 131 dX10_feed_38 (by decide) (by omega) (by omega) (fun c1 => ?_) (fun c1 => ?_)
    · omega
    · refine r_iload dX10_feed_41 rfl (r_iconst dX10_feed_43 ?_)
      refine r_icmp_ge 51 dX10_feed_44 (by decide) (by omega) (by omega) (fun c2 => ?_) (fun c2 => ?_)
      · refine r_iload dX10_feed_51 rfl (r_bipush dX10_feed_53 (by decide) ?_)
        refine r_icmp_ge 62 dX10_feed_55 (by decide) (by omega) (by omega) (fun c3 => ?_) (fun c3 => ?_)
        · refine r_iload dX10_feed_62 rfl (r_bipush dX10_feed_64 (by decide) ?_)
          refine r_icmp_ge 73 dX10_feed_66 (by decide) (by omega) (by omega) (fun c4 => ?_) (fun c4 => ?_)
          · refine r_iload dX10_feed_73 rfl (r_bipush dX10_feed_75 (by decide) ?_)
            refine r_icmp_ge 85 dX10_feed_77 (by decide) (by omega) (by omega) (fun c5 => ?_) (fun c5 => ?_)
            · refine r_iload dX10_feed_85 rfl ?_
              refine key _ (by assumption) ?_
              unfold fdV
              first
                | rw [if_pos (by omega)]
                | rw [if_neg (by omega), if_pos (by omega)]
                | rw [if_neg (by omega), if_neg (by omega), if_pos (by omega)]
                | rw [if_neg (by omega), if_neg (by omega), if_neg (by omega), if_pos (by omega)]
                | rw [if_neg (by omega), if_neg (by omega), if_neg (by omega), if_neg (by omega)]
            · refine r_iload dX10_feed_80 rfl (r_goto 87 dX10_feed_82 (by decide) ?_)
              refine key _ (by assumption) ?_
              unfold fdV
              first
                | rw [if_pos (by omega)]
                | rw [if_neg (by omega), if_pos (by omega)]
                | rw [if_neg (by omega), if_neg (by omega), if_pos (by omega)]
                | rw [if_neg (by omega), if_neg (by omega), if_neg (by omega), if_pos (by omega)]
                | rw [if_neg (by omega), if_neg (by omega), if_neg (by omega), if_neg (by omega)]
          · refine r_iload_n dX10_feed_69 (i := 3) rfl rfl (r_goto 87 dX10_feed_70 (by decide) ?_)
            refine key _ (by assumption) ?_
            unfold fdV
            first
              | rw [if_pos (by omega)]
              | rw [if_neg (by omega), if_pos (by omega)]
              | rw [if_neg (by omega), if_neg (by omega), if_pos (by omega)]
              | rw [if_neg (by omega), if_neg (by omega), if_neg (by omega), if_pos (by omega)]
              | rw [if_neg (by omega), if_neg (by omega), if_neg (by omega), if_neg (by omega)]
        · refine r_iload_n dX10_feed_58 (i := 2) rfl rfl (r_goto 87 dX10_feed_59 (by decide) ?_)
          refine key _ (by assumption) ?_
          unfold fdV
          first
            | rw [if_pos (by omega)]
            | rw [if_neg (by omega), if_pos (by omega)]
            | rw [if_neg (by omega), if_neg (by omega), if_pos (by omega)]
            | rw [if_neg (by omega), if_neg (by omega), if_neg (by omega), if_pos (by omega)]
            | rw [if_neg (by omega), if_neg (by omega), if_neg (by omega), if_neg (by omega)]
      · refine r_iload_n dX10_feed_47 (i := 1) rfl rfl (r_goto 87 dX10_feed_48 (by decide) ?_)
        refine key _ (by assumption) ?_
        unfold fdV
        first
          | rw [if_pos (by omega)]
          | rw [if_neg (by omega), if_pos (by omega)]
          | rw [if_neg (by omega), if_neg (by omega), if_pos (by omega)]
          | rw [if_neg (by omega), if_neg (by omega), if_neg (by omega), if_pos (by omega)]
          | rw [if_neg (by omega), if_neg (by omega), if_neg (by omega), if_neg (by omega)]
theorem c_X10_feed {v0 v1 v2 v3 v4 : Int} (h : S.1 m = some (mO m km th bu sz at' be ki wr wa ea nu bs bw bt')) (hbf : S.1 (m + 4) = some (cI 600 bf)) (h0 : RI v0) (h1 : RI v1) (h2 : RI v2) (h3 : RI v3) (h4 : RI v4) (hb : 0 ≤ bu ∧ bu ≤ 600) : PC g yX10_feed cX10_feed (iX10_feed mc ms) [.ref m, vi v0, vi v1, vi v2, vi v3, vi v4] S (fun o S' => ∃ r : Int, o = .inl (some (vi r)) ∧ ((580 < bu ∧ S' = ps_put S m (mO m km 1 bu sz at' be ki wr wa ea nu bs bw bt')) ∨ (bu ≤ 580 ∧ r = bu + 20 ∧ S' = ps_put (ps_put S m (mO m km 0 (bu + 20) sz at' be ki wr wa ea nu bs bw bt')) (m + 4) (cI 600 (mix bu (bu + 20) (fun x => fdB v0 v1 v2 v3 v4 (x - bu)) bf))))) := by
  refine PC_of pnX10 rfl rfl rfl (Nat.le_of_ble_eq_true rfl) ?_
  refine r_aload_n dX10_feed_0 (i := 0) rfl rfl (r_aload_n dX10_feed_1 (i := 0) rfl rfl (r_get dX10_feed_2 fl_X10_36 h rfl (r_bipush dX10_feed_5 (by decide) (r_iadd dX10_feed_7 ?_))))
  refine r_sipush dX10_feed_8 (by decide) ?_
  refine r_icmp_le 18 dX10_feed_11 (by decide) (by omega) (by omega) (fun c1 => ?_) (fun c1 => ?_)
  · refine r_iconst dX10_feed_18 (r_put dX10_feed_19 fl_X10_30 h rfl rfl (Nat.le_of_ble_eq_true rfl) (r_aload_n dX10_feed_22 (i := 0) rfl rfl (r_get dX10_feed_23 fl_X10_30 ps_same rfl ?_)))
    refine r_if_le 31 dX10_feed_26 (by decide) (by omega) (fun c2 => ?_) (fun c2 => ?_)
    · refine r_iconst dX10_feed_31 (r_istore dX10_feed_32 rfl (Nat.le_of_ble_eq_true rfl) ?_)
      have e0 : mix bu (bu + ((0 : Nat) : Int)) (fun x => fdB v0 v1 v2 v3 v4 (x - bu)) bf = bf := by
        rw [show bu + ((0 : Nat) : Int) = bu by omega]
        exact mix_0
      have k := fun Q kc ks hq => l_mfeed (g := g) (mc := mc) (ms := ms) (S := S) (m := m) (bf := bf) (km := km) (th := 0) (bu := bu) (sz := sz) (at' := at') (be := be) (ki := ki) (wr := wr) (wa := wa) (ea := ea) (nu := nu) (bs := bs) (bw := bw) (bt' := bt') (Q := Q) (kc := kc) (ks := ks) h0 h1 h2 h3 h4 (by omega) hq 20 0 rfl
      rw [e0, show bu + ((0 : Nat) : Int) = bu by omega] at k
      have hA : ∀ S0 : PS, S0.1 (m + 4) = some (cI 600 bf) → S0 = ps_put S0 (m + 4) (cI 600 bf) := fun S0 h9 => (ps_put_self h9).symm
      refine r_ps (hA _ (ps_ne (by omega) hbf)) ?_
      refine r_loc [(0, some (.ref m)), (1, some (vi v0)), (2, some (vi v1)), (3, some (vi v2)), (4, some (vi v3)), (5, some (vi v4)), (6, some (vi ((0 : Nat) : Int)))] ⟨Or.inl rfl, Or.inl rfl, Or.inl rfl, Or.inl rfl, Or.inl rfl, Or.inl rfl, Or.inl rfl, trivial⟩ (k _ _ _ ?_)
      exact ⟨_, rfl, Or.inr ⟨by omega, rfl, rfl⟩⟩
    · omega
  · refine r_iconst dX10_feed_14 (r_goto 19 dX10_feed_15 (by decide) (r_put dX10_feed_19 fl_X10_30 h rfl rfl (Nat.le_of_ble_eq_true rfl) (r_aload_n dX10_feed_22 (i := 0) rfl rfl (r_get dX10_feed_23 fl_X10_30 ps_same rfl ?_))))
    refine r_if_le 31 dX10_feed_26 (by decide) (by omega) (fun c3 => ?_) (fun c3 => ?_)
    · omega
    · refine r_iconst dX10_feed_29 ?_
      refine r_iret dX10_feed_30 rfl rfl ?_
      exact ⟨_, rfl, Or.inl ⟨by omega, rfl⟩⟩
end MFEED

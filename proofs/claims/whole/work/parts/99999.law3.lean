/-! the law: its script; how each of its cases ends -/
abbrev iL_law (nm : String) (hh : List (Nat × Nat × Nat × Nat)) : MI := (RL, 8, ret, nm, 13, 496, 601024, 7293034, hh)
/-- the script: n ints xs at b -/
def SJ (g : GT) (b n : Nat) (xs : Nat → Int32) : Prop := va_X b n xs g.K g.K.heap ∧ b < g.b ∧ n ≤ 3072
def sA (xs : Nat → Int32) (i : Int) : Int := (xs i.toNat).toInt
theorem sA_ri {xs : Nat → Int32} {i : Int} : RI (sA xs i) := q_rI _
abbrev lL (b x : Nat) (i : Int) : List (Nat × Option Value) := [(4, some (vi i)), (3, some (.ref (x + 158))), (2, some (.ref (x + 153))), (1, some (.ref x)), (0, some (.ref b))]
section LAWS
variable {g : GT} {cc : ByteArray} {X : MI} {pc : Nat} {L : List (Nat × Option Value)} {st : List Value} {S : PS} {kc ks : Nat} {Q : PO → PS → Prop} {b n : Nat} {xs : Nat → Int32} {i j : Int}
theorem r_sldv (hS : SJ g b n xs) (hd : decode cc pc = .ok (.iaload, 1)) (h0 : 0 ≤ i) (hi : i < n) (k : PW g cc X (pc + 1) L (vi (sA xs i) :: st) S kc ks Q) : PW g cc X pc L (vi i :: .ref b :: st) S kc ks Q := by
  refine r_sld hS.1 hS.2.1 hd h0 hi (by have := hS.2.2; omega) ?_
  have e : Value.int (xs i.toNat) = vi (sA xs i) := by
    unfold sA
    rw [vi, q_asI]
  rw [e]
  exact k
theorem r_arg (d0 : decode cc pc = .ok (.aload_n 0, 1)) (d1 : decode cc (pc + 1) = .ok (.iload 4, 2)) (d3 : decode cc (pc + 3) = .ok (.iconst j, 1)) (d4 : decode cc (pc + 4) = .ok (.iadd, 1)) (d5 : decode cc (pc + 5) = .ok (.iaload, 1)) (hS : SJ g b n xs) (l0 : lk L 0 = some (.ref b)) (l4 : lk L 4 = some (vi i)) (h0 : 0 ≤ i) (hj : 0 ≤ j ∧ j ≤ 5) (hi : i + 6 ≤ n) (k : PW g cc X (pc + 6) L (vi (sA xs (i + j)) :: st) S kc ks Q) : PW g cc X pc L st S kc ks Q :=
  r_aload_n d0 (i := 0) rfl l0 (r_iload d1 l4 (r_iconst d3 (r_iadd d4 (r_sldv hS d5 (by omega) (by omega) k))))
end LAWS
/-- behind both calls of a case: the class's number k; z is in long[0] if k = 0; r the model's answer, v if k = 0 -/
def EJ (S : PS) (x : Nat) (k : Int) (v : Value) (z : Int) (r : Value) : Prop := WJ S x ∧ (0 ≤ k ∧ k ≤ 9) ∧ (∃ (a : Int → Int) (ct fd ea : Int) (kp bf : Int → Int), MJ S x a ct k fd ea kp bf) ∧ tgV r = tgV v ∧ (k = 0 → r = v ∧ ∃ o1, S.1 (x + 158) = some (cJ 1 o1) ∧ o1 0 = z)
section LAWE3
variable {S1 S2 : PS} {x : Nat} {a a' : Int → Int} {H : Int → Int → Int} {nx ct fd ea th k z : Int} {tx kp bf : Int → Int} {r v : Value} {o : Option Value}
/-- a question's end -/
theorem e_Q (hI : IA a) (hf : 0 ≤ fd ∧ fd ≤ 600) (hK : KP H nx ct kp) (hB : BT fd tx bf) (hc : CW x k z a H nx ct fd ea tx a H nx ct fd ea th tx kp bf (.inl o) S1) (hm : MW S1 x k v a ct kp a ct fd ea kp bf (.inl (some r)) S2) : EJ S2 x k v z r := by
  obtain ⟨-, hk, hJ1, hF1, c0, c1⟩ := hc
  obtain ⟨r', e1, m1, m2, m3, m4, m5, m6⟩ := hm
  cases e1
  have hX1 : CX S1 x (x + 159) a H nx ct fd ea tx := by
    by_cases h : k = 0
    · exact (c0 h).1
    · exact c1 h
  have hJ2 : MJ S2 x a ct k fd ea kp bf := by
    by_cases h : k = 0
    · exact m5 h
    · exact m6 h
  refine ⟨⟨a, H, nx, ct, fd, ea, k, tx, kp, bf, hX1.mdl (fun z hz => m3 z (by omega)), hI, hf, hJ2, hK, hB, by rw [m4]; exact hF1⟩, hk, ⟨a, ct, fd, ea, kp, bf, hJ2⟩, m2, fun h => ⟨m1 h, ?_⟩⟩
  obtain ⟨o1, h1, h2⟩ := (c0 h).2
  exact ⟨o1, (m3 _ (by omega)).trans h1, h2⟩
/-- a change's end -/
theorem e_C (hn : 0 ≤ nx ∧ nx < 8) (hct : 0 ≤ ct ∧ ct ≤ 8) (hI : IA a) (hI2 : k = 0 → IA a') (hf : 0 ≤ fd ∧ fd ≤ 600) (hK : KP H nx ct kp) (hB : BT fd tx bf) (hc : CW x k z a' (upH H nx a) ((nx + 1) % 8) (min (ct + 1) 8) fd ea tx a H nx ct fd ea th tx kp bf (.inl o) S1) (hm : MW S1 x k v a' (min (ct + 1) 8) (kpN ct a kp) a ct fd ea kp bf (.inl (some r)) S2) : EJ S2 x k v z r := by
  obtain ⟨-, hk, hJ1, hF1, c0, c1⟩ := hc
  obtain ⟨r', e1, m1, m2, m3, m4, m5, m6⟩ := hm
  cases e1
  by_cases h : k = 0
  · refine ⟨⟨a', upH H nx a, (nx + 1) % 8, min (ct + 1) 8, fd, ea, k, tx, kpN ct a kp, bf, (c0 h).1.mdl (fun z hz => m3 z (by omega)), hI2 h, hf, m5 h, kp_up hK hn hct hI, hB, by rw [m4]; exact hF1⟩, hk, ⟨_, _, _, _, _, _, m5 h⟩, m2, fun _ => ⟨m1 h, ?_⟩⟩
    obtain ⟨o1, h1, h2⟩ := (c0 h).2
    exact ⟨o1, (m3 _ (by omega)).trans h1, h2⟩
  · exact ⟨⟨a, H, nx, ct, fd, ea, k, tx, kp, bf, (c1 h).mdl (fun z hz => m3 z (by omega)), hI, hf, m6 h, hK, hB, by rw [m4]; exact hF1⟩, hk, ⟨_, _, _, _, _, _, m6 h⟩, m2, fun z => absurd z h⟩
end LAWE3
section LAWT
variable {g : GT} {cc : ByteArray} {nm : String} {hh : List (Nat × Nat × Nat × Nat)} {S : PS} {kc ks : Nat} {Q : PO → PS → Prop} {T x b : Nat} {i k v : Int} {r : Value} {off : Int}
/-- the comparisons of a case whose answers are ints -/
theorem t_I (d0 : decode cc T = .ok (.istore 6, 2)) (d2 : decode cc (T + 2) = .ok (.aload_n 2, 1)) (d3 : decode cc (T + 3) = .ok (.invokevirtual 151, 3)) (d6 : decode cc (T + 6) = .ok (.iload 5, 2)) (d8 : decode cc (T + 8) = .ok (.if_icmp .eq 5, 3)) (d13 : decode cc (T + 13) = .ok (.iload 5, 2)) (d15 : decode cc (T + 15) = .ok (.ifCond .ne 15, 3)) (d18 : decode cc (T + 18) = .ok (.aload_n 3, 1)) (d19 : decode cc (T + 19) = .ok (.iconst 0, 1)) (d20 : decode cc (T + 20) = .ok (.laload, 1)) (d21 : decode cc (T + 21) = .ok (.iload 6, 2)) (d23 : decode cc (T + 23) = .ok (.i2l, 1)) (d24 : decode cc (T + 24) = .ok (.lcmp, 1)) (d25 : decode cc (T + 25) = .ok (.ifCond .eq 5, 3)) (d30 : decode cc (T + 30) = .ok (.goto off, 3)) (ht : ((T + 30 : Nat) : Int) + off = ((2986 : Nat) : Int)) (hE : EJ S x k (vi v) (wI v) r) (kk : PW g cc (iL_law nm hh) 2986 (lL b x i) [] S kc ks Q) : PW g cc (iL_law nm hh) T ((5, some (vi k)) :: lL b x i) [r] S kc ks Q := by
  obtain ⟨hW, hk, ⟨a, ct, fd, ea, kp, bf, hJ⟩, htg, h0⟩ := hE
  obtain ⟨w, hw, rfl⟩ := tg_i htg
  obtain ⟨sz, at', be, ki, wr, wa, nu, bs, bw, bt', hm⟩ := hJ.1
  have kend : PW g cc (iL_law nm hh) (T + 30) ((6, some (vi w)) :: (5, some (vi k)) :: lL b x i) [] S kc ks Q := r_goto 2986 d30 ht (r_loc (lL b x i) ⟨Or.inl rfl, Or.inl rfl, Or.inl rfl, Or.inl rfl, Or.inl rfl, trivial⟩ kk)
  refine r_istore d0 rfl (Nat.le_of_ble_eq_true rfl) (r_aload_n d2 (i := 2) rfl rfl ?_)
  refine c_vr d3 (c_X10_thrown (mc := 0) (ms := 0) hm) rfl rfl mq_X10_thrown ml_L_151 ⟨Nat.le_of_ble_eq_true rfl, Nat.le_of_ble_eq_true rfl⟩ hm rfl rfl rfl (Nat.le_of_ble_eq_true rfl) ?_
  refine r_iload d6 rfl (r_icmp_eq (T + 13) d8 (by omega) (by omega) (by omega) (fun _ => ?_) (fun h => absurd rfl h))
  refine r_iload d13 rfl (r_if_ne (T + 30) d15 (by omega) (by omega) (fun _ => kend) (fun hz => ?_))
  obtain ⟨e1, o1, ho, e2⟩ := h0 hz
  have ew : w = wI v := (q_eqI hw (wI_ri v)).mp (Value.int.inj (e1.trans (wI_vi v).symm))
  refine r_aload_n d18 (i := 3) rfl rfl (r_iconst d19 (r_lald d20 ho (by omega) (by omega) (by omega) (r_iload d21 rfl (r_i2l d23 hw ?_))))
  rw [e2, ← ew]
  exact r_lcmp_eq (T + 30) d24 d25 (by omega) (by omega) (by omega) (fun _ => kend) (fun h => absurd rfl h)
theorem t_J (d0 : decode cc T = .ok (.lstore 6, 2)) (d2 : decode cc (T + 2) = .ok (.aload_n 2, 1)) (d3 : decode cc (T + 3) = .ok (.invokevirtual 151, 3)) (d6 : decode cc (T + 6) = .ok (.iload 5, 2)) (d8 : decode cc (T + 8) = .ok (.if_icmp .eq 5, 3)) (d13 : decode cc (T + 13) = .ok (.iload 5, 2)) (d15 : decode cc (T + 15) = .ok (.ifCond .ne 14, 3)) (d18 : decode cc (T + 18) = .ok (.aload_n 3, 1)) (d19 : decode cc (T + 19) = .ok (.iconst 0, 1)) (d20 : decode cc (T + 20) = .ok (.laload, 1)) (d21 : decode cc (T + 21) = .ok (.lload 6, 2)) (d23 : decode cc (T + 23) = .ok (.lcmp, 1)) (d24 : decode cc (T + 24) = .ok (.ifCond .eq 5, 3)) (d29 : decode cc (T + 29) = .ok (.goto off, 3)) (ht : ((T + 29 : Nat) : Int) + off = ((2986 : Nat) : Int)) (hE : EJ S x k (vl v) v r) (kk : PW g cc (iL_law nm hh) 2986 (lL b x i) [] S kc ks Q) : PW g cc (iL_law nm hh) T ((5, some (vi k)) :: lL b x i) [r] S kc ks Q := by
  obtain ⟨hW, hk, ⟨a, ct, fd, ea, kp, bf, hJ⟩, htg, h0⟩ := hE
  obtain ⟨w, rfl⟩ := tg_l htg
  obtain ⟨sz, at', be, ki, wr, wa, nu, bs, bw, bt', hm⟩ := hJ.1
  have kend : PW g cc (iL_law nm hh) (T + 29) ((6, some (.long w)) :: (7, none) :: (5, some (vi k)) :: lL b x i) [] S kc ks Q := r_goto 2986 d29 ht (r_loc (lL b x i) ⟨Or.inl rfl, Or.inl rfl, Or.inl rfl, Or.inl rfl, Or.inl rfl, trivial⟩ kk)
  refine r_lstore d0 rfl (Nat.le_of_ble_eq_true rfl) (r_aload_n d2 (i := 2) rfl rfl ?_)
  refine c_vr d3 (c_X10_thrown (mc := 0) (ms := 0) hm) rfl rfl mq_X10_thrown ml_L_151 ⟨Nat.le_of_ble_eq_true rfl, Nat.le_of_ble_eq_true rfl⟩ hm rfl rfl rfl (Nat.le_of_ble_eq_true rfl) ?_
  refine r_iload d6 rfl (r_icmp_eq (T + 13) d8 (by omega) (by omega) (by omega) (fun _ => ?_) (fun h => absurd rfl h))
  refine r_iload d13 rfl (r_if_ne (T + 29) d15 (by omega) (by omega) (fun _ => kend) (fun hz => ?_))
  obtain ⟨e1, o1, ho, e2⟩ := h0 hz
  have ew : w = Int64.ofInt v := Value.long.inj e1
  refine r_aload_n d18 (i := 3) rfl rfl (r_iconst d19 (r_lald d20 ho (by omega) (by omega) (by omega) (r_lload d21 rfl ?_)))
  have ez : vl (o1 0) = vl (w.toInt) := by
    rw [e2, vl, vl, q_asJ, ew]
  have ey : Value.long w = vl (w.toInt) := by
    rw [vl, q_asJ]
  rw [ez]
  have hw : RJ w.toInt := ⟨Int64.le_toInt w, Int64.toInt_lt w⟩
  have kq : PW g cc (iL_law nm hh) (T + 23) ((6, some (.long w)) :: (7, none) :: (5, some (vi k)) :: lL b x i) [vl (w.toInt), vl (w.toInt)] S kc ks Q := r_lcmp_eq (T + 29) d23 d24 (by omega) hw hw (fun _ => kend) (fun h => absurd rfl h)
  rw [← ey] at kq ⊢
  exact kq
theorem t_B (d0 : decode cc T = .ok (.istore 6, 2)) (d2 : decode cc (T + 2) = .ok (.aload_n 2, 1)) (d3 : decode cc (T + 3) = .ok (.invokevirtual 151, 3)) (d6 : decode cc (T + 6) = .ok (.iload 5, 2)) (d8 : decode cc (T + 8) = .ok (.if_icmp .eq 5, 3)) (d13 : decode cc (T + 13) = .ok (.iload 5, 2)) (d15 : decode cc (T + 15) = .ok (.ifCond .ne 22, 3)) (d18 : decode cc (T + 18) = .ok (.aload_n 3, 1)) (d19 : decode cc (T + 19) = .ok (.iconst 0, 1)) (d20 : decode cc (T + 20) = .ok (.laload, 1)) (d21 : decode cc (T + 21) = .ok (.iload 6, 2)) (d23 : decode cc (T + 23) = .ok (.ifCond .eq 7, 3)) (d26 : decode cc (T + 26) = .ok (.lconst 1, 1)) (d27 : decode cc (T + 27) = .ok (.goto 4, 3)) (d30 : decode cc (T + 30) = .ok (.lconst 0, 1)) (d31 : decode cc (T + 31) = .ok (.lcmp, 1)) (d32 : decode cc (T + 32) = .ok (.ifCond .eq 5, 3)) (d37 : decode cc (T + 37) = .ok (.goto off, 3)) (ht : ((T + 37 : Nat) : Int) + off = ((2986 : Nat) : Int)) (hv : v = 0 ∨ v = 1) (hE : EJ S x k (vi v) v r) (kk : PW g cc (iL_law nm hh) 2986 (lL b x i) [] S kc ks Q) : PW g cc (iL_law nm hh) T ((5, some (vi k)) :: lL b x i) [r] S kc ks Q := by
  obtain ⟨hW, hk, ⟨a, ct, fd, ea, kp, bf, hJ⟩, htg, h0⟩ := hE
  obtain ⟨w, hw, rfl⟩ := tg_i htg
  obtain ⟨sz, at', be, ki, wr, wa, nu, bs, bw, bt', hm⟩ := hJ.1
  have kend : PW g cc (iL_law nm hh) (T + 37) ((6, some (vi w)) :: (5, some (vi k)) :: lL b x i) [] S kc ks Q := r_goto 2986 d37 ht (r_loc (lL b x i) ⟨Or.inl rfl, Or.inl rfl, Or.inl rfl, Or.inl rfl, Or.inl rfl, trivial⟩ kk)
  refine r_istore d0 rfl (Nat.le_of_ble_eq_true rfl) (r_aload_n d2 (i := 2) rfl rfl ?_)
  refine c_vr d3 (c_X10_thrown (mc := 0) (ms := 0) hm) rfl rfl mq_X10_thrown ml_L_151 ⟨Nat.le_of_ble_eq_true rfl, Nat.le_of_ble_eq_true rfl⟩ hm rfl rfl rfl (Nat.le_of_ble_eq_true rfl) ?_
  refine r_iload d6 rfl (r_icmp_eq (T + 13) d8 (by omega) (by omega) (by omega) (fun _ => ?_) (fun h => absurd rfl h))
  refine r_iload d13 rfl (r_if_ne (T + 37) d15 (by omega) (by omega) (fun _ => kend) (fun hz => ?_))
  obtain ⟨e1, o1, ho, e2⟩ := h0 hz
  have hv9 : RI v := by clear htg h0 ho e2; omega
  have ew : w = v := (q_eqI hw hv9).mp (Value.int.inj e1)
  have hw9 : w = 0 ∨ w = 1 := by rw [ew]; exact hv
  clear htg h0 hv hv9
  refine r_aload_n d18 (i := 3) rfl rfl (r_iconst d19 (r_lald d20 ho (by decide) (by decide) (by decide) (r_iload d21 rfl ?_)))
  rw [e2, ← ew]
  refine r_if_eq (T + 30) d23 (by omega) hw (fun h1 => ?_) (fun h1 => ?_)
  · refine r_lconst (z := 0) d30 (by decide) ?_
    exact r_lcmp_eq (T + 37) d31 d32 (by omega) (by omega) (by omega) (fun _ => kend) (fun h => absurd h1 h)
  · refine r_lconst (z := 1) d26 (by decide) (r_goto (T + 31) d27 (by omega) ?_)
    exact r_lcmp_eq (T + 37) d31 d32 (by omega) (by omega) (by omega) (fun _ => kend) (fun h => absurd (hw9.resolve_left h1) h)
end LAWT

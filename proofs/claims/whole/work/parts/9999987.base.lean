/-! the law: what the Statement gives of the launch's start, as Base, TxtB and TxtL -/
section BASE
variable {s : State} {args : Array Value}
theorem nw (hgv : (Jvm.Cond.and given_1 narrow_1).before args s = true) {j : Nat} {w : Cond} (h : (flatC (Jvm.Cond.and given_1 narrow_1))[j]? = some w) : w.before args s = true := flat_of_before _ hgv w (List.mem_of_getElem? h)
theorem vaK_all (hts : ∀ w ∈ lw_tbl, w.before args s = true) : ∃ D : va_G, va_K D vwCl [] s := by
  obtain ⟨c0, i0, k0⟩ := u_known (C := RX0) (T := TX0) (N := 4) (n := 4) hts (fun w hw => (ck0.2.1 w hw).1) (hts _ (wt1 (j := 34) rfl))
  obtain ⟨c1, i1, k1⟩ := u_known (C := RX1) (T := TX1) (N := 4) (n := 4) hts (fun w hw => (ck1.2.1 w hw).1) (hts _ (wt2 (j := 238) rfl))
  obtain ⟨c2, i2, k2⟩ := u_known (C := RX2) (T := TX2) (N := 3) (n := 3) hts (fun w hw => (ck2.2.1 w hw).1) (hts _ (wt1 (j := 131) rfl))
  obtain ⟨c3, i3, k3⟩ := u_known (C := RX3) (T := TX3) (N := 2) (n := 2) hts (fun w hw => (ck3.2.1 w hw).1) (hts _ (wt1 (j := 185) rfl))
  obtain ⟨c4, i4, k4⟩ := u_known (C := RX4) (T := TX4) (N := 1) (n := 1) hts (fun w hw => (ck4.2.1 w hw).1) (hts _ (wt1 (j := 198) rfl))
  obtain ⟨c5, i5, k5⟩ := u_known (C := RX5) (T := TX5) (N := 5) (n := 5) hts (fun w hw => (ck5.2.1 w hw).1) (hts _ (wt1 (j := 208) rfl))
  obtain ⟨c6, i6, k6⟩ := u_known (C := RX6) (T := TX6) (N := 8) (n := 8) hts (fun w hw => (ck6.2.1 w hw).1) (hts _ (wt1 (j := 44) rfl))
  obtain ⟨c7, i7, k7⟩ := u_known (C := RX7) (T := TX7) (N := 2) (n := 2) hts (fun w hw => (ck7.2.1 w hw).1) (hts _ (wt1 (j := 88) rfl))
  obtain ⟨c8, i8, k8⟩ := u_known (C := RX8) (T := TX8) (N := 7) (n := 7) hts (fun w hw => (ck8.2.1 w hw).1) (hts _ (wt1 (j := 151) rfl))
  obtain ⟨c9, i9, k9⟩ := u_known (C := RX9) (T := TX9) (N := 6) (n := 6) hts (fun w hw => (ck9.2.1 w hw).1) (hts _ (wt1 (j := 26) rfl))
  obtain ⟨c10, i10, k10⟩ := u_known (C := RX10) (T := TX10) (N := 18) (n := 18) hts (fun w hw => (ck10.2.1 w hw).1) (hts _ (wt5 (j := 175) rfl))
  refine ⟨(fun k => match k with | 0 => c0 | 1 => c1 | 2 => c2 | 3 => c3 | 4 => c4 | 5 => c5 | 6 => c6 | 7 => c7 | 8 => c8 | 9 => c9 | _ => c10, fun k => match k with | 0 => i0 | 1 => i1 | 2 => i2 | 3 => i3 | 4 => i4 | 5 => i5 | 6 => i6 | 7 => i7 | 8 => i8 | 9 => i9 | _ => i10), ?_, fun k q h => by cases h⟩
  intro k q hq
  match k, hq with
  | 0, hq => cases hq; exact k0
  | 1, hq => cases hq; exact k1
  | 2, hq => cases hq; exact k2
  | 3, hq => cases hq; exact k3
  | 4, hq => cases hq; exact k4
  | 5, hq => cases hq; exact k5
  | 6, hq => cases hq; exact k6
  | 7, hq => cases hq; exact k7
  | 8, hq => cases hq; exact k8
  | 9, hq => cases hq; exact k9
  | 10, hq => cases hq; exact k10
  | q + 11, hq => cases hq
theorem vkR_of {own tx : String} {k : Nat} (h1 : (Cond.stringRef own k tx).before args s = true) (h2 : (Cond.exactly (Term.string own k) "java/lang/String").before args s = true) : ∃ a, vk_R own k tx a s := by
  obtain ⟨a, c, cA, kA, q1, -⟩ := Cond.exactly_spec (args := args) (first := s) (o := none) (s := s) (idx := []) h2
  exact ⟨a, vk_R.of h1 q1⟩
theorem str_all (hts : ∀ w ∈ lw_tbl, w.before args s = true) (hgv : (Jvm.Cond.and given_1 narrow_1).before args s = true) : ∀ q ∈ strL, ∃ a, vk_R q.1 q.2.1 q.2.2 a s := by
  refine (List.forall_mem_cons.mpr ⟨vkR_of (hts _ (wt2 (j := 74) rfl)) (nw hgv (j := 115) (by decide +kernel)), (List.forall_mem_cons.mpr ⟨vkR_of (hts _ (wt2 (j := 124) rfl)) (nw hgv (j := 145) (by decide +kernel)), (List.forall_mem_cons.mpr ⟨vkR_of (hts _ (wt3 (j := 99) rfl)) (nw hgv (j := 197) (by decide +kernel)), (List.forall_mem_cons.mpr ⟨vkR_of (hts _ (wt3 (j := 122) rfl)) (nw hgv (j := 230) (by decide +kernel)), (List.forall_mem_cons.mpr ⟨vkR_of (hts _ (wt3 (j := 177) rfl)) (nw hgv (j := 261) (by decide +kernel)), (List.forall_mem_cons.mpr ⟨vkR_of (hts _ (wt3 (j := 213) rfl)) (nw hgv (j := 301) (by decide +kernel)), (List.forall_mem_cons.mpr ⟨vkR_of (hts _ (wt4 (j := 59) rfl)) (nw hgv (j := 349) (by decide +kernel)), (List.forall_mem_cons.mpr ⟨vkR_of (hts _ (wt4 (j := 67) rfl)) (nw hgv (j := 382) (by decide +kernel)), (List.forall_mem_cons.mpr ⟨vkR_of (hts _ (wt4 (j := 97) rfl)) (nw hgv (j := 416) (by decide +kernel)), (List.forall_mem_cons.mpr ⟨vkR_of (hts _ (wt4 (j := 174) rfl)) (nw hgv (j := 450) (by decide +kernel)), (List.forall_mem_cons.mpr ⟨vkR_of (hts _ (wt4 (j := 191) rfl)) (nw hgv (j := 504) (by decide +kernel)), (List.forall_mem_cons.mpr ⟨vkR_of (hts _ (wt5 (j := 36) rfl)) (nw hgv (j := 539) (by decide +kernel)), (List.forall_mem_cons.mpr ⟨vkR_of (hts _ (wt5 (j := 46) rfl)) (nw hgv (j := 588) (by decide +kernel)), (List.forall_mem_cons.mpr ⟨vkR_of (hts _ (wt5 (j := 93) rfl)) (nw hgv (j := 645) (by decide +kernel)), (List.forall_mem_cons.mpr ⟨vkR_of (hts _ (wt5 (j := 108) rfl)) (nw hgv (j := 683) (by decide +kernel)), (List.forall_mem_cons.mpr ⟨vkR_of (hts _ (wt5 (j := 116) rfl)) (nw hgv (j := 731) (by decide +kernel)), (List.forall_mem_cons.mpr ⟨vkR_of (hts _ (wt5 (j := 161) rfl)) (nw hgv (j := 774) (by decide +kernel)), (List.forall_mem_cons.mpr ⟨vkR_of (hts _ (wt5 (j := 169) rfl)) (nw hgv (j := 822) (by decide +kernel)), (List.forall_mem_cons.mpr ⟨vkR_of (hts _ (wt2 (j := 154) rfl)) (nw hgv (j := 171) (by decide +kernel)), (List.forall_mem_cons.mpr ⟨vkR_of (hts _ (wt3 (j := 39) rfl)) (nw hgv (j := 182) (by decide +kernel)), (List.forall_mem_cons.mpr ⟨vkR_of (hts _ (wt6 (j := 38) rfl)) (nw hgv (j := 871) (by decide +kernel)), (List.forall_mem_cons.mpr ⟨vkR_of (hts _ (wt6 (j := 69) rfl)) (nw hgv (j := 900) (by decide +kernel)), fun _ h => absurd h List.not_mem_nil⟩)⟩)⟩)⟩)⟩)⟩)⟩)⟩)⟩)⟩)⟩)⟩)⟩)⟩)⟩)⟩)⟩)⟩)⟩)⟩)⟩)⟩)
theorem exc_all (hgv : (Jvm.Cond.and given_1 narrow_1).before args s = true) : ∀ q ∈ excL, va_Nc q.1 q.2 s := by
  refine (List.forall_mem_cons.mpr ⟨va_Nc.of (nw hgv (j := 21) (by decide +kernel)), (List.forall_mem_cons.mpr ⟨va_Nc.of (nw hgv (j := 50) (by decide +kernel)), (List.forall_mem_cons.mpr ⟨va_Nc.of (nw hgv (j := 64) (by decide +kernel)), (List.forall_mem_cons.mpr ⟨va_Nc.of (nw hgv (j := 35) (by decide +kernel)), (List.forall_mem_cons.mpr ⟨va_Nc.of (nw hgv (j := 49) (by decide +kernel)), (List.forall_mem_cons.mpr ⟨va_Nc.of (nw hgv (j := 63) (by decide +kernel)), (List.forall_mem_cons.mpr ⟨va_Nc.of (nw hgv (j := 37) (by decide +kernel)), (List.forall_mem_cons.mpr ⟨va_Nc.of (nw hgv (j := 23) (by decide +kernel)), (List.forall_mem_cons.mpr ⟨va_Nc.of (nw hgv (j := 66) (by decide +kernel)), (List.forall_mem_cons.mpr ⟨va_Nc.of (nw hgv (j := 38) (by decide +kernel)), (List.forall_mem_cons.mpr ⟨va_Nc.of (nw hgv (j := 24) (by decide +kernel)), (List.forall_mem_cons.mpr ⟨va_Nc.of (nw hgv (j := 52) (by decide +kernel)), fun _ h => absurd h List.not_mem_nil⟩)⟩)⟩)⟩)⟩)⟩)⟩)⟩)⟩)⟩)⟩)⟩)
theorem word0 {w : Cond} (h : w.before args s = true) (hg : w.onTables = true ∨ goodWord w = true) : w.before #[] s = true := by
  rcases hg with h1 | h1
  · exact (Cond.onTables_vm (A := args) (A' := #[]) (U := s) (U' := s) s.vm w h1).symm.trans h
  · exact word_at (State.WarmedH.refl s) (good_of_word h1) h
theorem base_of {l : Launch} (hflags : l.flags = flags0) (hts : ∀ w ∈ lw_tbl, w.before args s = true) (hgv : (Jvm.Cond.and given_1 narrow_1).before args s = true) (D : va_G) (hD : va_K D vwCl [] s) : Base (l, s, D) := by
  have hA : ∀ a : Nat, a < s.heap.size → ¬ gA ((l, s, D) : GT) a := fun a ha => Nat.not_le.mpr ha
  refine ⟨hD, fun w hw hg => word0 (hts w hw) hg, vx_Zqof (hts _ (wt2 (j := 59) rfl)) (hts _ (wt1 (j := 11) rfl)) (nw hgv (j := 4) (by decide +kernel)) hA, vx_Zqof (hts _ (wt2 (j := 61) rfl)) (hts _ (wt1 (j := 11) rfl)) (nw hgv (j := 5) (by decide +kernel)) hA, ?_, str_all hts hgv, fun C hC => ?_, exc_all hgv⟩
  · show l.stackTraces = false
    unfold Launch.stackTraces
    rw [hflags]
    decide +kernel
  · have h := hts _ hC
    exact h
theorem txtB_of {l : Launch} (hts : ∀ w ∈ lw_tbl, w.before args s = true) (hgv : (Jvm.Cond.and given_1 narrow_1).before args s = true) (D : va_G) : TxtB (l, s, D) := by
  have hA : ∀ a : Nat, a < s.heap.size → ¬ gA ((l, s, D) : GT) a := fun a ha => Nat.not_le.mpr ha
  exact ⟨va_Zof (hts _ (wt2 (j := 168) rfl)) (hts _ (wt1 (j := 17) rfl)) (va_eqt (nw hgv (j := 6) (by decide +kernel))) hA, va_Zqof (hts _ (wt2 (j := 184) rfl)) (hts _ (wt1 (j := 19) rfl)) (nw hgv (j := 7) (by decide +kernel)) hA⟩
theorem strG_of {l : Launch} {D : va_G} {L : List Int} {own : String} {k a : Nat} (hr : (Term.string own k).eval args s none [] s = some (.ref a)) (hex : (Cond.exactly (Term.string own k) "java/lang/String").before args s = true) (hco : (Cond.eq (.field (Term.string own k) "java/lang/String" "coder" "B") (.int 0)).before args s = true) (har : (Cond.arrayOf (.field (Term.string own k) "java/lang/String" "value" "[B") .byte).before args s = true) (hle : (Cond.eq (.length (.field (Term.string own k) "java/lang/String" "value" "[B")) (.int (Int32.ofNat L.length))).before args s = true) (hel : ∀ j : Nat, j < L.length → (Cond.eq (.elem (.field (Term.string own k) "java/lang/String" "value" "[B") (.int (Int32.ofNat j))) (.int (Int32.ofInt (L.getD j 0)))).before args s = true) (hb : ∀ b ∈ L, 0 ≤ b ∧ b < 128) (hL : L.length < 128) : StrG (l, s, D) a L := by
  have hA : ∀ a : Nat, a < s.heap.size → ¬ gA ((l, s, D) : GT) a := fun a ha => Nat.not_le.mpr ha
  obtain ⟨a', c, cA, kA, q1, q2, q3, q4, q5, q6, -⟩ := Cond.exactly_spec (args := args) (first := s) (o := none) (s := s) (idx := []) hex
  have e : a' = a := Value.ref.inj (Option.some.inj (q1.symm.trans hr))
  subst e
  obtain ⟨t, ht, hT⟩ := va_Tof (f := fun j => vi (L.getD j 0)) (A := gA ((l, s, D) : GT)) (by omega) har (va_eqt hle) (fun j hj => va_eqt (hel j hj)) hA
  exact ⟨⟨cA, q3, q5, by rw [q6]; exact q2, hA _ (Array.getElem?_eq_some_iff.mp q3).1⟩, vk_OFof hr (va_eqt hco) hA, hb, hL, t, vk_OFof hr ht hA, hT⟩
theorem txtL_of {l : Launch} (hgv : (Jvm.Cond.and given_1 narrow_1).before args s = true) (D : va_G) : TxtL (l, s, D) := by
  refine ⟨fun a ha => strG_of (args := args) (k := 50) ha.2 (nw hgv (j := 171) (by decide +kernel)) (nw hgv (j := 172) (by decide +kernel)) (nw hgv (j := 173) (by decide +kernel)) (nw hgv (j := 174) (by decide +kernel)) (fun j hj => match j, hj with | 0, _ => nw hgv (j := 175) (by decide +kernel) | 1, _ => nw hgv (j := 176) (by decide +kernel) | 2, _ => nw hgv (j := 177) (by decide +kernel) | 3, _ => nw hgv (j := 178) (by decide +kernel) | 4, _ => nw hgv (j := 179) (by decide +kernel) | z + 5, h => absurd h (by show ¬ z + 5 < 5; omega)) (by decide) (by decide), fun a ha => strG_of (args := args) (k := 60) ha.2 (nw hgv (j := 182) (by decide +kernel)) (nw hgv (j := 183) (by decide +kernel)) (nw hgv (j := 184) (by decide +kernel)) (nw hgv (j := 185) (by decide +kernel)) (fun j hj => match j, hj with | 0, _ => nw hgv (j := 186) (by decide +kernel) | 1, _ => nw hgv (j := 187) (by decide +kernel) | 2, _ => nw hgv (j := 188) (by decide +kernel) | 3, _ => nw hgv (j := 189) (by decide +kernel) | 4, _ => nw hgv (j := 190) (by decide +kernel) | 5, _ => nw hgv (j := 191) (by decide +kernel) | 6, _ => nw hgv (j := 192) (by decide +kernel) | 7, _ => nw hgv (j := 193) (by decide +kernel) | z + 8, h => absurd h (by show ¬ z + 8 < 8; omega)) (by decide) (by decide), fun a ha => strG_of (args := args) (k := 105) ha.2 (nw hgv (j := 871) (by decide +kernel)) (nw hgv (j := 872) (by decide +kernel)) (nw hgv (j := 873) (by decide +kernel)) (nw hgv (j := 874) (by decide +kernel)) (fun j hj => match j, hj with | 0, _ => nw hgv (j := 875) (by decide +kernel) | 1, _ => nw hgv (j := 876) (by decide +kernel) | 2, _ => nw hgv (j := 877) (by decide +kernel) | 3, _ => nw hgv (j := 878) (by decide +kernel) | 4, _ => nw hgv (j := 879) (by decide +kernel) | z + 5, h => absurd h (by show ¬ z + 5 < 5; omega)) (by decide) (by decide), fun a ha => strG_of (args := args) (k := 126) ha.2 (nw hgv (j := 900) (by decide +kernel)) (nw hgv (j := 901) (by decide +kernel)) (nw hgv (j := 902) (by decide +kernel)) (nw hgv (j := 903) (by decide +kernel)) (fun j hj => match j, hj with | 0, _ => nw hgv (j := 904) (by decide +kernel) | 1, _ => nw hgv (j := 905) (by decide +kernel) | 2, _ => nw hgv (j := 906) (by decide +kernel) | 3, _ => nw hgv (j := 907) (by decide +kernel) | 4, _ => nw hgv (j := 908) (by decide +kernel) | 5, _ => nw hgv (j := 909) (by decide +kernel) | 6, _ => nw hgv (j := 910) (by decide +kernel) | 7, _ => nw hgv (j := 911) (by decide +kernel) | z + 8, h => absurd h (by show ¬ z + 8 < 8; omega)) (by decide) (by decide)⟩
end BASE

/-! the class: throws with a far text; what is required -/
section THROW
variable {g : GT} {cc : ByteArray} {X : MI} {pc : Nat} {L : List (Nat × Option Value)} {st : List Value} {S : PS} {kc ks : Nat} {Q : PO → PS → Prop}
theorem r_throwSW {cls text : String} {names : List String} {ik is ic : Nat} (h : TH X.own cls ik ic names) (hs : (X.own, is, text) ∈ strL) (hh : X.hh = [])
    (d0 : decode cc pc = .ok (.new ik, 3)) (d3 : decode cc (pc + 3) = .ok (.dup, 1)) (d4 : decode cc (pc + 4) = .ok (.ldc_w is, 3)) (d7 : decode cc (pc + 7) = .ok (.invokespecial ic, 3)) (d10 : decode cc (pc + 10) = .ok (.athrow, 1))
    (hf : names.length + 3 < X.fr) (hlo' : (st.map fun v => v.category).sum + (13 * (names.length + 1) + 43) ≤ X.lo) (hk : 1 ≤ kc) (hk2 : 6 ≤ ks) (hq : ∀ z, S.2 ≤ z → Q (.inr cls) (S.1, z)) : PW g cc X pc L st S kc ks Q := by
  intro p e s m args below meth c H locs ls cells slots C hP hz hlo hL h1 h2
  obtain ⟨t1, t2, t3, t4, t5⟩ := h
  obtain ⟨sa, hsa⟩ := C.base.2.2.2.2.2.1 _ hs
  refine vx_throwSW C.1 C.2.1 C.base.2.2.2.2.1 C.own t1 t2 (C.word t3 rfl) (C.word t4 rfl) (hsa.warm C.warm) (fun w hw => wk_at C.base C.warm (t5 w hw).1 (t5 w hw).2) (fun w hw => ?_) (zq_of C.base.2.2.1 C.warm C.2.2.2.2.2.2.2.2.2.2.2) (zq_of C.base.2.2.2.1 C.warm C.2.2.2.2.2.2.2.2.2.2.2) (⟨hz, fun q g1 g2 => ?_, hlo⟩ : va_S (gA g) s.heap H locs) (hL.1.trans C.2.2.1.symm) d0 d3 d4 d7 d10 (by rw [C.2.2.2.2.2.2.2.1, hh]; intro x hx; cases hx) hf hlo' (by show cells + 1 ≤ X.mc; omega) (by show slots + 6 ≤ X.ms; omega) C.2.2.2.2.2.1 (fun t g1 g2 g3 => ⟨⟨(S.1, t.heap.size), hq _ (by rw [← hP.1]; exact g2), hP.grow g2 g3⟩, Nat.le_trans hz g2, fun q k1 k2 => ?_⟩) hlo (by omega) (by omega)
  · rcases List.mem_cons.mp hw with rfl | hw
    · rfl
    · rcases List.mem_cons.mp hw with rfl | hw
      · rfl
      · exact wk_ot (t5 w hw).2
  · rw [hP.2.2.1 q (Nat.not_le.mp g2)]
    exact (C.2.2.2.2.2.2.2.2.2.2.2 q (Nat.not_le.mp g2)).symm
  · rw [g3 q (Nat.lt_of_lt_of_le k1 hz), hP.2.2.1 q (Nat.not_le.mp k2)]
    exact (C.2.2.2.2.2.2.2.2.2.2.2 q (Nat.not_le.mp k2)).symm
end THROW
section REQ
variable {g : GT} {S : PS} {mc ms : Nat}
theorem c_X9_require1 {z : Int} (h : z ≠ 0) (hr : RI z) : PC g yX9_require cX9_require (iX9_require mc ms) [vi z] S (Rt none S) := by
  refine PC_of pnX9 rfl rfl rfl (Nat.le_of_ble_eq_true rfl) ?_
  refine r_iload_n dX9_require_0 (i := 0) rfl rfl ?_
  refine r_if_ne 15 dX9_require_1 (by decide) (by omega) (fun c1 => ?_) (fun c1 => ?_)
  · refine r_vret dX9_require_15 rfl ?_
    first | omega | exact ⟨rfl, rfl⟩ | exact ⟨by rw [b2i_t (by omega)], rfl⟩ | exact ⟨by rw [b2i_f (by omega)], rfl⟩
  · omega
theorem c_X9_require0 {z : Int} (h : z = 0) (hm : 1 ≤ mc) (hm2 : 6 ≤ ms) : PC g yX9_require cX9_require (iX9_require mc ms) [vi z] S (Th "java/lang/IllegalArgumentException" S) := by
  refine PC_of pnX9 rfl rfl rfl (Nat.le_of_ble_eq_true rfl) ?_
  refine r_bud (kc' := 1) (ks' := 6) hm hm2 ?_
  refine r_iload_n dX9_require_0 (i := 0) rfl rfl ?_
  refine r_if_ne 15 dX9_require_1 (by decide) (by omega) (fun c1 => ?_) (fun c1 => ?_)
  · refine r_vret dX9_require_15 rfl ?_
    omega
  · refine r_throwSW th_arg (List.mem_of_getElem? (i := 1) rfl) rfl dX9_require_4 dX9_require_7 dX9_require_8 dX9_require_11 dX9_require_14 (Nat.le_of_ble_eq_true rfl) (Nat.le_of_ble_eq_true rfl) (by omega) (by omega) (fun z hz => ?_)
    exact ⟨rfl, rfl, hz⟩
end REQ

section PROWS3
variable {g : GT} {cc : ByteArray} {X : MI} {pc : Nat} {L : List (Nat × Option Value)} {st : List Value} {S : PS} {kc ks : Nat} {Q : PO → PS → Prop}
theorem PR.of {p : Program} {s t : State} {m : MethodId} {meth : Method} {c : Code} {H : Heap} (C : PCtx g cc X p s m meth c) (hP : PHp g S H) (ht : t.heap = H) (hW : s.WarmedH t.vm) : PR g S t :=
  ⟨C.base, State.WarmedH.trans C.warm hW, by rw [ht]; exact hP⟩
theorem F_of {p : Program} {s t : State} {m : MethodId} {meth : Method} {c : Code} {H : Heap} (C : PCtx g cc X p s m meth c) (hP : PHp g S H) (hz : s.heap.size ≤ H.size) (ht : t.heap = H) : va_F (gA g) s t :=
  ⟨by rw [ht]; exact hz, fun q h1 h2 => by rw [ht, hP.2.2.1 q (Nat.not_le.mp h2)]; exact (C.2.2.2.2.2.2.2.2.2.2.2 q (Nat.not_le.mp h2)).symm⟩
theorem r_iret {z : Int} {ty : FieldType} (hd : decode cc pc = .ok (.ireturn, 1)) (hr : X.ret = some ty) (hn : narrow ty (vi z) = vi z) (hq : Q (.inl (some (vi z))) S) : PW g cc X pc L [vi z] S kc ks Q := by
  intro p e s m args below meth c H locs ls cells slots C hP hz hlo hL h1 h2
  refine W.widen (k := X.mc) (n := X.ms) (by omega) (by omega) (vx_ret ?_)
  exact W.zret C.1 C.2.1 (C.2.2.2.2.1.trans hr) hn (fun t ht hW => ⟨⟨_, S, rfl, hq, PR.of C hP ht hW⟩, F_of C hP hz ht⟩) hlo hd C.2.2.2.2.2.1
theorem r_lret {z : Int} (hd : decode cc pc = .ok (.lreturn, 1)) (hr : X.ret = some .long) (hq : Q (.inl (some (vl z))) S) : PW g cc X pc L [vl z] S kc ks Q := by
  intro p e s m args below meth c H locs ls cells slots C hP hz hlo hL h1 h2
  refine W.widen (k := X.mc) (n := X.ms) (by omega) (by omega) (vx_ret ?_)
  exact W.lret C.1 C.2.1 (C.2.2.2.2.1.trans hr) (fun t ht hW => ⟨⟨_, S, rfl, hq, PR.of C hP ht hW⟩, F_of C hP hz ht⟩) hlo hd C.2.2.2.2.2.1
theorem r_aret {q : Nat} {Cn : String} (hd : decode cc pc = .ok (.areturn, 1)) (hr : X.ret = some (.object Cn)) (hq : Q (.inl (some (.ref q))) S) : PW g cc X pc L [.ref q] S kc ks Q := by
  intro p e s m args below meth c H locs ls cells slots C hP hz hlo hL h1 h2
  refine W.widen (k := X.mc) (n := X.ms) (by omega) (by omega) (vx_ret ?_)
  exact W.aret C.1 C.2.1 (C.2.2.2.2.1.trans hr) (Or.inl ⟨_, rfl⟩) (Or.inr ⟨_, rfl⟩) (fun t ht hW => ⟨⟨_, S, rfl, hq, PR.of C hP ht hW⟩, F_of C hP hz ht⟩) hlo hd C.2.2.2.2.2.1
theorem r_vret (hd : decode cc pc = .ok (.return_, 1)) (hr : X.ret = none) (hq : Q (.inl none) S) : PW g cc X pc L [] S kc ks Q := by
  intro p e s m args below meth c H locs ls cells slots C hP hz hlo hL h1 h2
  refine W.widen (k := X.mc) (n := X.ms) (by omega) (by omega) (vx_ret ?_)
  exact W.vret C.1 C.2.1 (C.2.2.2.2.1.trans hr) (fun t ht hW => ⟨⟨_, S, rfl, hq, PR.of C hP ht hW⟩, F_of C hP hz ht⟩) hlo hd C.2.2.2.2.2.1
/-- fewer locals -/
def lsub : List (Nat × Option Value) → List (Nat × Option Value) → Prop
  | [], _ => True
  | (i, v) :: t, L => (v = lk L i ∨ v = none) ∧ lsub t L
theorem lsub_lk {L : List (Nat × Option Value)} : ∀ {L' : List (Nat × Option Value)}, lsub L' L → ∀ (i : Nat) (v : Value), lk L' i = some v → lk L i = some v
  | [], _, i, v, h => by cases h
  | (j, w) :: t, hs, i, v, h => by
    obtain ⟨h1, h2⟩ := hs
    cases hb : Nat.beq j i with
    | true =>
      have e := Nat.eq_of_beq_eq_true hb
      subst e
      have hw : w = some v := by simpa [lk, hb] using h
      rcases h1 with h1 | h1
      · rw [← h1, hw]
      · rw [h1] at hw; cases hw
    | false => exact lsub_lk h2 i v (by simpa [lk, hb] using h)
theorem r_loc (L' : List (Nat × Option Value)) (h : lsub L' L) (k : PW g cc X pc L' st S kc ks Q) : PW g cc X pc L st S kc ks Q :=
  fun p e s m args below meth c H locs ls cells slots C hP hz hlo hL h1 h2 => k p e s m args below meth c H locs ls cells slots C hP hz hlo ⟨hL.1, hL.2.1, fun i v hv => hL.2.2 i v (lsub_lk h i v hv)⟩ h1 h2
theorem r_bud {kc' ks' : Nat} (h1 : kc' ≤ kc) (h2 : ks' ≤ ks) (k : PW g cc X pc L st S kc' ks' Q) : PW g cc X pc L st S kc ks Q :=
  fun p e s m args below meth c H locs ls cells slots C hP hz hlo hL g1 g2 => k p e s m args below meth c H locs ls cells slots C hP hz hlo hL (by omega) (by omega)
theorem r_mono {Q' : PO → PS → Prop} (h : ∀ o S', Q' o S' → Q o S') (k : PW g cc X pc L st S kc ks Q') : PW g cc X pc L st S kc ks Q := by
  intro p e s m args below meth c H locs ls cells slots C hP hz hlo hL h1 h2 T hT Xs
  obtain ⟨t, a, o, b1, b2, b3⟩ := k p e s m args below meth c H locs ls cells slots C hP hz hlo hL h1 h2 T hT Xs
  refine ⟨t, a, o, b1, b2, ?_⟩
  rcases b3 with ⟨⟨⟨v, S', c1, c2, c3⟩, c4⟩, c5⟩ | ⟨q, c1, E, ce, L1, ⟨⟨S', c2, c3⟩, c4⟩, c5⟩
  · exact Or.inl ⟨⟨⟨v, S', c1, h _ _ c2, c3⟩, c4⟩, c5⟩
  · exact Or.inr ⟨q, c1, E, ce, L1, ⟨⟨S', h _ _ c2, c3⟩, c4⟩, c5⟩
/-- the heap is given by another name -/
theorem r_ps {S' : PS} (h : S = S') (k : PW g cc X pc L st S' kc ks Q) : PW g cc X pc L st S kc ks Q := h ▸ k
-- ===== into a body =====
def La : Nat → List Value → List (Nat × Option Value)
  | _, [] => []
  | i, v :: vs => (i, some v) :: La (if v.category = 2 then i + 2 else i + 1) vs
theorem La_lk : ∀ (vs : List Value) (i j : Nat) (v : Value), lk (La i vs) j = some v → (j, v) ∈ lv_args i vs
  | [], _, _, _, h => by cases h
  | w :: vs, i, j, v, h => by
    cases hb : Nat.beq i j with
    | true =>
      have e := Nat.eq_of_beq_eq_true hb
      subst e
      have hw : w = v := by simpa [La, lk, hb] using h
      subst hw
      exact List.mem_cons_self
    | false => exact List.mem_cons_of_mem _ (La_lk vs _ j v (by simpa [La, lk, hb] using h))
theorem PC_ofF {y : MethodName} {av : List Value} (hy : plainFor y = true) (ho : X.own = y.cls) (hnm : X.name = y.name) (hh : X.hh = []) (hlen : (lg_sl av).length ≤ X.nL) (k : PW g cc X 0 (La 0 av) [] S X.mc X.ms Q) : PC g y cc X av S Q := by
  have hw : WD y cc X = [Cond.code y cc X.nL X.ret] := by unfold WD; rw [if_pos hh]
  refine MetFree.of_bodySF (code := cc) (maxLocals := X.nL) (ret := X.ret) hy ?_ ?_
  · intro args s m h hn
    obtain ⟨meth, c, h1, h2, h3, h4, h5, h6, -, -⟩ := Cond.code_spec hn (atoms_spec (ws := WD y cc X) h _ (by rw [hw]; exact List.mem_cons_self))
    exact ⟨meth, c, h1, h2, h3, h4, h5, h6⟩
  · intro p e s m args below meth c s₁ B hml hv _
    have hh0 : s₁.heap = s.heap := by rw [B.state]; rfl
    have htab : ∀ x ∈ c.exceptionTable.toList, False := by
      obtain ⟨meth9, c9, h1, h2, -, -, -, -, h7, -⟩ := Cond.code_spec B.named (atoms_spec (ws := WD y cc X) B.pre _ (by rw [hw]; exact List.mem_cons_self))
      cases Option.some.inj (h1.symm.trans B.method)
      cases Option.some.inj (h2.symm.trans (Stand.of_body B).code)
      intro x hx
      rw [Array.isEmpty_iff.mp h7] at hx
      cases hx
    obtain ⟨rfl, hb, hW, hP⟩ := hv
    have hl := lv_entry av (n := X.nL) hlen
    have ht : c.exceptionTable.toList = tableOf X.hh := by rw [hh]; exact List.eq_nil_iff_forall_not_mem.mpr htab
    have h := k p e s m av.toArray below meth c s.heap [] _ 0 0 ⟨B.exec, B.bytes, hml, by rw [ho]; exact findClass_of_methodNamed B.named, B.returns, B.notSynchronized, by rw [hnm]; exact (name_of_methodNamed B.named B.method).1, ht, hb, hW, hP.2.1, hP.2.2.1⟩ hP (Nat.le_refl _) (fun _ h => by cases h) ⟨hl.1, hl.2.1, fun i v hv => hl.2.2 (i, v) (La_lk av 0 i v hv)⟩ (by omega) (by omega)
    rw [← lg_entry_eq] at h
    obtain ⟨t, a1, o, b1, b2, b3⟩ := h s₁ hh0 (Stand.of_body B)
    exact ⟨t, o, a1, b1, b2, b3⟩
theorem PC_of {y : MethodName} {av : List Value} (hy : plainName y.cls = true) (ho : X.own = y.cls) (hnm : X.name = y.name) (hh : X.hh = []) (hlen : (lg_sl av).length ≤ X.nL) (k : PW g cc X 0 (La 0 av) [] S X.mc X.ms Q) : PC g y cc X av S Q :=
  PC_ofF (plainFor_of_name hy) ho hnm hh hlen k
theorem PC_ofH {y : MethodName} {av : List Value} (hy : plainName y.cls = true) (ho : X.own = y.cls) (hnm : X.name = y.name) (hh : X.hh ≠ []) (hlen : (lg_sl av).length ≤ X.nL) (k : PW g cc X 0 (La 0 av) [] S X.mc X.ms Q) : PC g y cc X av S Q := by
  have hw : WD y cc X = [Cond.codeWith y cc X.nL X.ret X.hh] := by unfold WD; rw [if_neg hh]
  refine vx_ofWH (cc := cc) (maxL := X.nL) (ret := X.ret) (hh := X.hh) hy hw ?_
  intro p e s m args below meth c s₁ B hml hv
  obtain ⟨rfl, hb, hW, hP⟩ := hv
  have hl := lv_entry av (n := X.nL) hlen
  have ht : c.exceptionTable.toList = tableOf X.hh := vx_table (x := y) B (atoms_spec (ws := WD y cc X) B.pre _ (by rw [hw]; exact List.mem_cons_self))
  have h := k p e s m av.toArray below meth c s.heap [] _ 0 0 ⟨B.exec, B.bytes, hml, by rw [ho]; exact findClass_of_methodNamed B.named, B.returns, B.notSynchronized, by rw [hnm]; exact (name_of_methodNamed B.named B.method).1, ht, hb, hW, hP.2.1, hP.2.2.1⟩ hP (Nat.le_refl _) (fun _ h => by cases h) ⟨hl.1, hl.2.1, fun i v hv => hl.2.2 (i, v) (La_lk av 0 i v hv)⟩ (by omega) (by omega)
  rw [lg_entry_eq]
  exact h
theorem PC.mono {y : MethodName} {av : List Value} {Q' : PO → PS → Prop} (h : ∀ o S', Q' o S' → Q o S') (k : PC g y cc X av S Q') : PC g y cc X av S Q := by
  intro p e ha hc hk s m args below hf happ hP hK
  obtain ⟨n, o, c1, c2, c3, c4⟩ := k p e ha hc hk s m args below hf happ hP hK
  refine ⟨n, o, c1, c2, c3, ?_⟩
  rcases c4 with ⟨⟨⟨v, S', d1, d2, d3⟩, d4⟩, d5⟩ | ⟨q, d1, E, ce, L1, ⟨⟨S', d2, d3⟩, d4⟩, d5⟩
  · exact Or.inl ⟨⟨⟨v, S', d1, h _ _ d2, d3⟩, d4⟩, d5⟩
  · exact Or.inr ⟨q, d1, E, ce, L1, ⟨⟨S', h _ _ d2, d3⟩, d4⟩, d5⟩
theorem PC.met {y : MethodName} {av : List Value} (k : PC g y cc X av S Q) (hn : ∀ E S', ¬ Q (.inr E) S') : Met g.1 y (WD y cc X) (roomOf X) (va_Pc av (fun U => PR g S U)) (qC g Q) X.mc X.ms (gA g) := by
  intro p e ha hc hk s m args below hf happ hP hK
  obtain ⟨n, o, c1, c2, c3, c4⟩ := k p e ha hc hk s m args below hf happ hP hK
  refine ⟨n, o, c1, c2, c3, ?_⟩
  rcases c4 with c4 | ⟨q, d1, E, ce, L1, ⟨⟨S', d2, d3⟩, d4⟩, d5⟩
  · exact c4
  · exact absurd d2 (hn E S')
-- ===== an exception on its way =====
theorem px_out {E : String} (hh : X.hh = []) (hq : Q (.inr E) S) : PX g cc X pc L S kc ks Q E := by
  intro p e s m args below meth c H locs ls cells slots rest q ce C hP hz hlo hL h1 h2 hce hcv hcl
  refine vx_out (by rw [C.2.2.2.2.2.2.2.1, hh]; intro x hx; cases hx) C.2.2.2.2.2.1 hce hcv hcl (fun t ht hW => ⟨⟨S, hq, by rw [ht]; exact hP⟩, F_of C hP hz ht⟩) hlo (by omega) (by omega)
end PROWS3

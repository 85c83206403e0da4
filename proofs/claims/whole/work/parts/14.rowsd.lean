def MQ0 (y : MethodName) (cc' : ByteArray) (X' : MI) (n : Nat) : Prop := X'.hh = [] ∧ (y.cls ≠ "java/lang/invoke/MethodHandle" ∧ y.cls ≠ "java/lang/invoke/VarHandle") ∧ (parseMethodDescriptor y.desc).map (fun d => d.parameters.length) = some n ∧ Cond.code y cc' X'.nL X'.ret ∈ lw_tbl ∧ Cond.initialized y.cls ∈ lw_tbl
def MQv (y : MethodName) (cc' : ByteArray) (X' : MI) (n : Nat) : Prop := MQ0 y cc' X' n ∧ Cond.instanceMethod y ∈ lw_tbl ∧ Cond.selects y.cls y y ∈ lw_tbl
def MQs (y : MethodName) (cc' : ByteArray) (X' : MI) (n : Nat) : Prop := MQ0 y cc' X' n ∧ Cond.static y ∈ lw_tbl
def MQi (y : MethodName) (cc' : ByteArray) (X' : MI) (n : Nat) : Prop := MQ0 y cc' X' n ∧ Cond.instanceMethod y ∈ lw_tbl ∧ y.name = "<init>"
/-- a method with an exception table -/
def MQw (y : MethodName) (cc' : ByteArray) (X' : MI) (n : Nat) : Prop := X'.hh ≠ [] ∧ (y.cls ≠ "java/lang/invoke/MethodHandle" ∧ y.cls ≠ "java/lang/invoke/VarHandle") ∧ (parseMethodDescriptor y.desc).map (fun d => d.parameters.length) = some n ∧ Cond.codeWith y cc' X'.nL X'.ret X'.hh ∈ lw_tbl ∧ Cond.initialized y.cls ∈ lw_tbl ∧ Cond.static y ∈ lw_tbl
/-- what the caller has for the callee -/
def RM (X X' : MI) : Prop := X'.fr + 1 ≤ X.fr ∧ 8 + (X'.nL + 11) + X'.lo ≤ X.lo
def Rt (v : Option Value) (S1 : PS) : PO → PS → Prop := fun o S' => o = .inl v ∧ S' = S1
section PROWS4
variable {g : GT} {cc : ByteArray} {X : MI} {pc : Nat} {L : List (Nat × Option Value)} {st : List Value} {S : PS} {kc ks : Nat} {Q : PO → PS → Prop}
theorem pc_blind {av : List Value} : FrameBlind (va_Pc av (fun U => PR g S U)) := fun _ _ _ _ h => ⟨h.1, h.2⟩
theorem len_of {y : MethodName} {n : Nat} (h2 : (parseMethodDescriptor y.desc).map (fun d => d.parameters.length) = some n) : ∀ sig, parseMethodDescriptor y.desc = some sig → n = sig.parameters.length := by
  intro sig h
  rw [h] at h2
  exact (Option.some.inj h2).symm
theorem pre_s {p : Program} {s : State} {m : MethodId} {meth : Method} {c : Code} {H : Heap} {av : List Value} (C : PCtx g cc X p s m meth c) (hP : PHp g S H) : PreS s H (va_Pc av (fun U => PR g S U)) av :=
  ⟨pc_blind, fun U hU hW => ⟨rfl, C.base, State.WarmedH.trans C.warm hW, by rw [hU]; exact hP⟩⟩
theorem pre_v {p : Program} {s : State} {m : MethodId} {meth : Method} {c : Code} {H : Heap} {b ci : Nat} {fs av : List Value} {Cn : String} {T : u_T} {N : Nat} (C : PCtx g cc X p s m meth c) (hP : PHp g S H) (hb : S.1 b = some (cO ci fs)) (hci : vwCl[ci]? = some (Cn, T, N)) : PreV s H Cn b (va_Pc (.ref b :: av) (fun U => PR g S U)) av :=
  ⟨pc_blind, va_recv C.va (va_P1 (q := b) (e := .inr (ci, fs)) (hP.2.2.2 b _ hb).2) (q0 := 0) hci rfl, fun U hU hW => ⟨rfl, C.base, State.WarmedH.trans C.warm hW, by rw [hU]; exact hP⟩⟩
theorem cb_of {p : Program} {s : State} {m : MethodId} {meth : Method} {c : Code} {args : Array Value} {y : MethodName} {cc' : ByteArray} {X' : MI} {n idx : Nat} (C : PCtx g cc X p s m meth c) (hm : MQ0 y cc' X' n) (hr : RM X X') (hl : Cond.methodLink X.own idx y ∈ lw_tbl) : CallB (roomOf X) s args X.own idx y cc' X'.nL X'.ret (WD y cc' X') (roomOf X') X'.mc X'.ms n := by
  obtain ⟨h1, h2, h3, h4, h5⟩ := hm
  have hw : WD y cc' X' = [Cond.code y cc' X'.nL X'.ret] := by unfold WD; rw [if_pos h1]
  refine ⟨rfl, rfl, hr.1, hr.2, fun w hw' a' U hW => ?_, by rw [hw]; exact List.mem_cons_self, C.word h4 rfl, C.word h5 rfl, h2, len_of h3, C.word hl rfl⟩
  rw [hw] at hw'
  cases List.mem_singleton.mp hw'
  exact C.base.word h4 rfl (State.WarmedH.trans C.warm hW)
theorem cn_of {p : Program} {s : State} {m : MethodId} {meth : Method} {c : Code} {args : Array Value} {y : MethodName} {cc' : ByteArray} {X' : MI} {n idx : Nat} {host : String} (C : PCtx g cc X p s m meth c) (hm : MQ0 y cc' X' n) (hr : RM X X') (hl : Cond.methodLinkNest X.own idx y host ∈ lw_tbl) : va_CN (roomOf X) s args X.own idx y host cc' X'.nL X'.ret (WD y cc' X') (roomOf X') X'.mc X'.ms n := by
  obtain ⟨h1, h2, h3, h4, h5⟩ := hm
  have hw : WD y cc' X' = [Cond.code y cc' X'.nL X'.ret] := by unfold WD; rw [if_pos h1]
  refine ⟨⟨rfl, rfl, hr.1, hr.2, fun w hw' a' U hW => ?_, by rw [hw]; exact List.mem_cons_self⟩, C.word h4 rfl, C.word h5 rfl, h2, len_of h3, nest_m C hl⟩
  rw [hw] at hw'
  cases List.mem_singleton.mp hw'
  exact C.base.word h4 rfl (State.WarmedH.trans C.warm hW)
theorem cx_of {p : Program} {s : State} {m : MethodId} {meth : Method} {c : Code} {args : Array Value} {y : MethodName} {cc' : ByteArray} {X' : MI} {n idx : Nat} (C : PCtx g cc X p s m meth c) (hm : MQw y cc' X' n) (hr : RM X X') (hl : Cond.methodLink X.own idx y ∈ lw_tbl) : vx_CSW (roomOf X) s args X.own idx y cc' X'.nL X'.ret X'.hh (WD y cc' X') (roomOf X') X'.mc X'.ms n := by
  obtain ⟨h1, h2, h3, h4, h5, h6⟩ := hm
  have hw : WD y cc' X' = [Cond.codeWith y cc' X'.nL X'.ret X'.hh] := by unfold WD; rw [if_neg h1]
  refine ⟨⟨rfl, rfl, hr.1, hr.2, fun w hw' a' U hW => ?_, by rw [hw]; exact List.mem_cons_self⟩, C.word h4 rfl, C.word h5 rfl, h2, len_of h3, C.word hl rfl, C.word h6 rfl⟩
  rw [hw] at hw'
  cases List.mem_singleton.mp hw'
  exact C.base.word h4 rfl (State.WarmedH.trans C.warm hW)
theorem cf_of {p : Program} {s : State} {m : MethodId} {meth : Method} {c : Code} {args : Array Value} (C : PCtx g cc X p s m meth c) : CallFix p m c cc X.nL s args [] X.own := ⟨C.1, C.2.1, C.2.2.1, C.own, fun _ h => by cases h⟩
/-- behind a call that returns or throws -/
theorem run_k {p : Program} {e : Env} {s : State} {m : MethodId} {args : Array Value} {below : List Frame} {meth : Method} {c : Code} {H : Heap} {locs : List Loc} {ls : Array Slot} {cells slots mc ms kc' ks' : Nat} {st0 rest : List Value} {a : Array Value} {Qc : PO → PS → Prop}
    (hr : vx_Run p g.1 e (roomOf X) s m args below meth c H locs cells slots mc ms (F0 m pc ls st0) rest (qC g Qc a) (qX g Qc) (gA g))
    (C : PCtx g cc X p s m meth c) (hz : s.heap.size ≤ H.size) (hlo : ∀ l ∈ locs, gA g l.base) (hL : LH ls X.nL L) (h1 : cells + mc + kc' ≤ X.mc) (h2 : slots + ms + ks' ≤ X.ms)
    (kx : ∀ E S', Qc (.inr E) S' → PX g cc X pc L S' kc' ks' Q E) (k : ∀ v S', Qc (.inl v) S' → PW g cc X (pc + 3) L (v.toList ++ rest) S' kc' ks' Q) :
    W p g.1 e (roomOf X) s m args below meth c H locs cells slots (vx_MQ below (qC g Q) (qX g Q) args s X.mc X.ms (gA g)) (F0 m pc ls st0) := by
  intro T hT Xs
  rcases hr T hT Xs with ⟨v, st₀, t, T', L', h0, X', hL', e1, e2, ⟨⟨v', S', hv, hQ, hPR⟩, hF⟩, stp⟩ | ⟨q, st₀, t, T', L', E, ce, h0, X', hL', e1, e2, ⟨⟨S', hQ, hPR⟩, hF⟩, hce, hcv, hcl, stp⟩
  · cases hv
    have hz' : s.heap.size ≤ T'.heap.size := by rw [e1]; exact Nat.le_trans hz (by rw [← h0]; exact hF.1)
    obtain ⟨t2, a1, b1⟩ := k v S' hQ p e s m args below meth c T'.heap (locs ++ L') ls (cells + mc) (slots + ms) C (by rw [e1]; exact hPR.2.2) hz' (locs_app hlo hL') hL h1 h2 T' rfl X'
    exact ⟨t2, stp t2 a1, b1⟩
  · have hz' : s.heap.size ≤ T'.heap.size := by rw [e1]; exact Nat.le_trans hz (by rw [← h0]; exact hF.1)
    obtain ⟨t2, a1, b1⟩ := kx E S' hQ p e s m args below meth c T'.heap (locs ++ L') ls (cells + mc) (slots + ms) rest q ce C (by rw [e1]; exact hPR) hz' (locs_app hlo hL') hL h1 h2 (by rw [e1]; exact hce) hcv hcl T' rfl X'
    exact ⟨t2, stp.trans a1, b1⟩
theorem run_m {p : Program} {e : Env} {s : State} {m : MethodId} {args : Array Value} {below : List Frame} {meth : Method} {c : Code} {H : Heap} {locs : List Loc} {ls : Array Slot} {cells slots mc ms kc' ks' : Nat} {st0 rest : List Value} {a : Array Value} {Qc : PO → PS → Prop}
    (hr : va_Run p g.1 e (roomOf X) s m args below meth c H locs cells slots mc ms (F0 m pc ls st0) rest (qC g Qc a) (gA g))
    (C : PCtx g cc X p s m meth c) (hz : s.heap.size ≤ H.size) (hlo : ∀ l ∈ locs, gA g l.base) (hL : LH ls X.nL L) (h1 : cells + mc + kc' ≤ X.mc) (h2 : slots + ms + ks' ≤ X.ms)
    (k : ∀ v S', Qc (.inl v) S' → PW g cc X (pc + 3) L (v.toList ++ rest) S' kc' ks' Q) :
    W p g.1 e (roomOf X) s m args below meth c H locs cells slots (vx_MQ below (qC g Q) (qX g Q) args s X.mc X.ms (gA g)) (F0 m pc ls st0) := by
  intro T hT Xs
  obtain ⟨v, st₀, t, T', L', h0, X', hL', e1, e2, ⟨⟨v', S', hv, hQ, hPR⟩, hF⟩, stp⟩ := hr T hT Xs
  cases hv
  have hz' : s.heap.size ≤ T'.heap.size := by rw [e1]; exact Nat.le_trans hz (by rw [← h0]; exact hF.1)
  obtain ⟨t2, a1, b1⟩ := k v S' hQ p e s m args below meth c T'.heap (locs ++ L') ls (cells + mc) (slots + ms) C (by rw [e1]; exact hPR.2.2) hz' (locs_app hlo hL') hL h1 h2 T' rfl X'
  exact ⟨t2, stp t2 a1, b1⟩
variable {y : MethodName} {cc' : ByteArray} {X' : MI} {n idx ci b kc' ks' : Nat} {As rest fs : List Value} {T : u_T} {N : Nat} {Qc : PO → PS → Prop} {host : String}
/-- invokevirtual, general -/
theorem r_invV (hd : decode cc pc = .ok (.invokevirtual idx, 3)) (hc : PC g y cc' X' (.ref b :: As) S Qc) (hm : MQv y cc' X' n) (hl : Cond.methodLink X.own idx y ∈ lw_tbl) (hr : RM X X') (hb : S.1 b = some (cO ci fs)) (hci : vwCl[ci]? = some (y.cls, T, N)) (hst : st = As.reverse ++ .ref b :: rest) (hn : As.length = n) (hcat : (rest.map fun v => v.category).sum ≤ 8) (hk : X'.mc + kc' ≤ kc) (hk2 : X'.ms + ks' ≤ ks)
    (kx : ∀ E S', Qc (.inr E) S' → PX g cc X pc L S' kc' ks' Q E) (k : ∀ v S', Qc (.inl v) S' → PW g cc X (pc + 3) L (v.toList ++ rest) S' kc' ks' Q) : PW g cc X pc L st S kc ks Q := by
  intro p e s m args below meth c H locs ls cells slots C hP hz hlo hL h1 h2
  exact run_k (vx_runV (cf_of C) hc ⟨cb_of C hm.1 hr hl, C.word hm.2.1 rfl, C.word hm.2.2 rfl⟩ (pre_v C hP hb hci) rfl hn hL.1 hst (lv_room hcat) hd ⟨by show cells + X'.mc ≤ X.mc; omega, by show slots + X'.ms ≤ X.ms; omega⟩) C hz hlo hL (by omega) (by omega) kx k
theorem r_invS (hd : decode cc pc = .ok (.invokestatic idx, 3)) (hc : PC g y cc' X' As S Qc) (hm : MQs y cc' X' n) (hl : Cond.methodLink X.own idx y ∈ lw_tbl) (hr : RM X X') (hst : st = As.reverse ++ rest) (hn : As.length = n) (hcat : (rest.map fun v => v.category).sum ≤ 8) (hk : X'.mc + kc' ≤ kc) (hk2 : X'.ms + ks' ≤ ks)
    (kx : ∀ E S', Qc (.inr E) S' → PX g cc X pc L S' kc' ks' Q E) (k : ∀ v S', Qc (.inl v) S' → PW g cc X (pc + 3) L (v.toList ++ rest) S' kc' ks' Q) : PW g cc X pc L st S kc ks Q := by
  intro p e s m args below meth c H locs ls cells slots C hP hz hlo hL h1 h2
  exact run_k (vx_runS (cf_of C) hc ⟨cb_of C hm.1 hr hl, C.word hm.2 rfl⟩ (pre_s C hP) rfl hn hL.1 hst (lv_room hcat) hd ⟨by show cells + X'.mc ≤ X.mc; omega, by show slots + X'.ms ≤ X.ms; omega⟩) C hz hlo hL (by omega) (by omega) kx k
/-- a static method with an exception table, that throws nothing -/
theorem r_invW (hd : decode cc pc = .ok (.invokestatic idx, 3)) (hc : PC g y cc' X' As S Qc) (hnx : ∀ E S', ¬ Qc (.inr E) S') (hm : MQw y cc' X' n) (hl : Cond.methodLink X.own idx y ∈ lw_tbl) (hr : RM X X') (hst : st = As.reverse ++ rest) (hn : As.length = n) (hcat : (rest.map fun v => v.category).sum ≤ 8) (hk : X'.mc + kc' ≤ kc) (hk2 : X'.ms + ks' ≤ ks)
    (k : ∀ v S', Qc (.inl v) S' → PW g cc X (pc + 3) L (v.toList ++ rest) S' kc' ks' Q) : PW g cc X pc L st S kc ks Q := by
  intro p e s m args below meth c H locs ls cells slots C hP hz hlo hL h1 h2
  exact run_m (vx_runSW (cf_of C) (hc.met hnx) (cx_of C hm hr hl) (pre_s C hP) rfl hn hL.1 hst (lv_room hcat) hd ⟨by show cells + X'.mc ≤ X.mc; omega, by show slots + X'.ms ≤ X.ms; omega⟩) C hz hlo hL (by omega) (by omega) k
theorem r_invI (hd : decode cc pc = .ok (.invokespecial idx, 3)) (hc : PC g y cc' X' (.ref b :: As) S Qc) (hnx : ∀ E S', ¬ Qc (.inr E) S') (hm : MQi y cc' X' n) (hret : X'.ret = none) (hl : Cond.methodLink X.own idx y ∈ lw_tbl) (hr : RM X X') (hst : st = As.reverse ++ .ref b :: rest) (hn : As.length = n) (hcat : (rest.map fun v => v.category).sum ≤ 8) (hk : X'.mc + kc' ≤ kc) (hk2 : X'.ms + ks' ≤ ks)
    (k : ∀ v S', Qc (.inl v) S' → PW g cc X (pc + 3) L (v.toList ++ rest) S' kc' ks' Q) : PW g cc X pc L st S kc ks Q := by
  intro p e s m args below meth c H locs ls cells slots C hP hz hlo hL h1 h2
  exact run_m (va_runI (cf_of C) (hc.met hnx) ⟨hret ▸ cb_of C hm.1 hr hl, hm.2.2, C.word hm.2.1 rfl⟩ (pre_s C hP) rfl hn hL.1 hst (lv_room hcat) hd ⟨by show cells + X'.mc ≤ X.mc; omega, by show slots + X'.ms ≤ X.ms; omega⟩) C hz hlo hL (by omega) (by omega) k
theorem r_invVN (hd : decode cc pc = .ok (.invokevirtual idx, 3)) (hc : PC g y cc' X' (.ref b :: As) S Qc) (hnx : ∀ E S', ¬ Qc (.inr E) S') (hm : MQv y cc' X' n) (hl : Cond.methodLinkNest X.own idx y host ∈ lw_tbl) (hr : RM X X') (hb : S.1 b = some (cO ci fs)) (hci : vwCl[ci]? = some (y.cls, T, N)) (hst : st = As.reverse ++ .ref b :: rest) (hn : As.length = n) (hcat : (rest.map fun v => v.category).sum ≤ 8) (hk : X'.mc + kc' ≤ kc) (hk2 : X'.ms + ks' ≤ ks)
    (k : ∀ v S', Qc (.inl v) S' → PW g cc X (pc + 3) L (v.toList ++ rest) S' kc' ks' Q) : PW g cc X pc L st S kc ks Q := by
  intro p e s m args below meth c H locs ls cells slots C hP hz hlo hL h1 h2
  exact run_m (va_runVN (cf_of C) (hc.met hnx) ⟨cn_of C hm.1 hr hl, C.word hm.2.1 rfl, C.word hm.2.2 rfl⟩ (pre_v C hP hb hci) rfl hn hL.1 hst (lv_room hcat) hd ⟨by show cells + X'.mc ≤ X.mc; omega, by show slots + X'.ms ≤ X.ms; omega⟩) C hz hlo hL (by omega) (by omega) k
theorem r_invSN (hd : decode cc pc = .ok (.invokestatic idx, 3)) (hc : PC g y cc' X' As S Qc) (hnx : ∀ E S', ¬ Qc (.inr E) S') (hm : MQs y cc' X' n) (hl : Cond.methodLinkNest X.own idx y host ∈ lw_tbl) (hr : RM X X') (hst : st = As.reverse ++ rest) (hn : As.length = n) (hcat : (rest.map fun v => v.category).sum ≤ 8) (hk : X'.mc + kc' ≤ kc) (hk2 : X'.ms + ks' ≤ ks)
    (k : ∀ v S', Qc (.inl v) S' → PW g cc X (pc + 3) L (v.toList ++ rest) S' kc' ks' Q) : PW g cc X pc L st S kc ks Q := by
  intro p e s m args below meth c H locs ls cells slots C hP hz hlo hL h1 h2
  exact run_m (va_runSN (cf_of C) (hc.met hnx) ⟨cn_of C hm.1 hr hl, C.word hm.2 rfl, trivial⟩ (pre_s C hP) rfl hn hL.1 hst (lv_room hcat) hd ⟨by show cells + X'.mc ≤ X.mc; omega, by show slots + X'.ms ≤ X.ms; omega⟩) C hz hlo hL (by omega) (by omega) k
theorem r_invIN (hd : decode cc pc = .ok (.invokespecial idx, 3)) (hc : PC g y cc' X' (.ref b :: As) S Qc) (hnx : ∀ E S', ¬ Qc (.inr E) S') (hm : MQi y cc' X' n) (hret : X'.ret = none) (hl : Cond.methodLinkNest X.own idx y host ∈ lw_tbl) (hr : RM X X') (hst : st = As.reverse ++ .ref b :: rest) (hn : As.length = n) (hcat : (rest.map fun v => v.category).sum ≤ 8) (hk : X'.mc + kc' ≤ kc) (hk2 : X'.ms + ks' ≤ ks)
    (k : ∀ v S', Qc (.inl v) S' → PW g cc X (pc + 3) L (v.toList ++ rest) S' kc' ks' Q) : PW g cc X pc L st S kc ks Q := by
  intro p e s m args below meth c H locs ls cells slots C hP hz hlo hL h1 h2
  exact run_m (va_runIN (cf_of C) (hc.met hnx) ⟨hret ▸ cn_of C hm.1 hr hl, hm.2.2, C.word hm.2.1 rfl⟩ (pre_s C hP) rfl hn hL.1 hst (lv_room hcat) hd ⟨by show cells + X'.mc ≤ X.mc; omega, by show slots + X'.ms ≤ X.ms; omega⟩) C hz hlo hL (by omega) (by omega) k
theorem Rt_nx {v : Option Value} {S1 : PS} : ∀ E S', ¬ Rt v S1 (.inr E) S' := fun _ _ h => by cases h.1
end PROWS4
section PROWS7
variable {g : GT} {cc : ByteArray} {X : MI} {pc : Nat} {L : List (Nat × Option Value)} {st : List Value} {S S1 : PS} {kc ks : Nat} {Q : PO → PS → Prop} {y : MethodName} {cc' : ByteArray} {X' : MI} {n idx ci b : Nat} {As rest fs : List Value} {T : u_T} {N : Nat} {host : String} {v : Value}
/-- calls that give an answer, or none, and make nothing -/
theorem c_vr (hd : decode cc pc = .ok (.invokevirtual idx, 3)) (hc : PC g y cc' X' (.ref b :: As) S (Rt (some v) S1)) (h0 : X'.mc = 0) (h00 : X'.ms = 0) (hm : MQv y cc' X' n) (hl : Cond.methodLink X.own idx y ∈ lw_tbl) (hr : RM X X') (hb : S.1 b = some (cO ci fs)) (hci : vwCl[ci]? = some (y.cls, T, N)) (hst : st = As.reverse ++ .ref b :: rest) (hn : As.length = n) (hcat : (rest.map fun v => v.category).sum ≤ 8) (k : PW g cc X (pc + 3) L (v :: rest) S1 kc ks Q) : PW g cc X pc L st S kc ks Q :=
  r_invV hd hc hm hl hr hb hci hst hn hcat (kc' := kc) (ks' := ks) (by omega) (by omega) (fun E S' h => absurd h (Rt_nx E S')) (fun v' S' h => by obtain ⟨h1, rfl⟩ := h; cases h1; exact k)
theorem c_vn (hd : decode cc pc = .ok (.invokevirtual idx, 3)) (hc : PC g y cc' X' (.ref b :: As) S (Rt none S1)) (h0 : X'.mc = 0) (h00 : X'.ms = 0) (hm : MQv y cc' X' n) (hl : Cond.methodLink X.own idx y ∈ lw_tbl) (hr : RM X X') (hb : S.1 b = some (cO ci fs)) (hci : vwCl[ci]? = some (y.cls, T, N)) (hst : st = As.reverse ++ .ref b :: rest) (hn : As.length = n) (hcat : (rest.map fun v => v.category).sum ≤ 8) (k : PW g cc X (pc + 3) L rest S1 kc ks Q) : PW g cc X pc L st S kc ks Q :=
  r_invV hd hc hm hl hr hb hci hst hn hcat (kc' := kc) (ks' := ks) (by omega) (by omega) (fun E S' h => absurd h (Rt_nx E S')) (fun v' S' h => by obtain ⟨h1, rfl⟩ := h; cases h1; exact k)
theorem c_sr (hd : decode cc pc = .ok (.invokestatic idx, 3)) (hc : PC g y cc' X' As S (Rt (some v) S1)) (h0 : X'.mc = 0) (h00 : X'.ms = 0) (hm : MQs y cc' X' n) (hl : Cond.methodLink X.own idx y ∈ lw_tbl) (hr : RM X X') (hst : st = As.reverse ++ rest) (hn : As.length = n) (hcat : (rest.map fun v => v.category).sum ≤ 8) (k : PW g cc X (pc + 3) L (v :: rest) S1 kc ks Q) : PW g cc X pc L st S kc ks Q :=
  r_invS hd hc hm hl hr hst hn hcat (kc' := kc) (ks' := ks) (by omega) (by omega) (fun E S' h => absurd h (Rt_nx E S')) (fun v' S' h => by obtain ⟨h1, rfl⟩ := h; cases h1; exact k)
theorem c_sn (hd : decode cc pc = .ok (.invokestatic idx, 3)) (hc : PC g y cc' X' As S (Rt none S1)) (h0 : X'.mc = 0) (h00 : X'.ms = 0) (hm : MQs y cc' X' n) (hl : Cond.methodLink X.own idx y ∈ lw_tbl) (hr : RM X X') (hst : st = As.reverse ++ rest) (hn : As.length = n) (hcat : (rest.map fun v => v.category).sum ≤ 8) (k : PW g cc X (pc + 3) L rest S1 kc ks Q) : PW g cc X pc L st S kc ks Q :=
  r_invS hd hc hm hl hr hst hn hcat (kc' := kc) (ks' := ks) (by omega) (by omega) (fun E S' h => absurd h (Rt_nx E S')) (fun v' S' h => by obtain ⟨h1, rfl⟩ := h; cases h1; exact k)
theorem c_srN (hd : decode cc pc = .ok (.invokestatic idx, 3)) (hc : PC g y cc' X' As S (Rt (some v) S1)) (h0 : X'.mc = 0) (h00 : X'.ms = 0) (hm : MQs y cc' X' n) (hl : Cond.methodLinkNest X.own idx y host ∈ lw_tbl) (hr : RM X X') (hst : st = As.reverse ++ rest) (hn : As.length = n) (hcat : (rest.map fun v => v.category).sum ≤ 8) (k : PW g cc X (pc + 3) L (v :: rest) S1 kc ks Q) : PW g cc X pc L st S kc ks Q :=
  r_invSN hd hc Rt_nx hm hl hr hst hn hcat (kc' := kc) (ks' := ks) (by omega) (by omega) (fun v' S' h => by obtain ⟨h1, rfl⟩ := h; cases h1; exact k)
/-- the callee throws, and the caller has no table -/
theorem c_vx (hd : decode cc pc = .ok (.invokevirtual idx, 3)) {E : String} {Qc : PO → PS → Prop} (hc : PC g y cc' X' (.ref b :: As) S Qc) (hh : X.hh = []) (hm : MQv y cc' X' n) (hl : Cond.methodLink X.own idx y ∈ lw_tbl) (hr : RM X X') (hb : S.1 b = some (cO ci fs)) (hci : vwCl[ci]? = some (y.cls, T, N)) (hst : st = As.reverse ++ .ref b :: rest) (hn : As.length = n) (hcat : (rest.map fun v => v.category).sum ≤ 8) (hk : X'.mc ≤ kc) (hk2 : X'.ms ≤ ks) (hx : ∀ o S', Qc o S' → ∃ E, o = .inr E ∧ Q (.inr E) S') : PW g cc X pc L st S kc ks Q :=
  r_invV hd hc hm hl hr hb hci hst hn hcat (kc' := kc - X'.mc) (ks' := ks - X'.ms) (by omega) (by omega) (fun E' S' h => by obtain ⟨E, h1, h2⟩ := hx _ _ h; cases h1; exact px_out hh h2) (fun v' S' h => by obtain ⟨E, h1, h2⟩ := hx _ _ h; cases h1)
theorem c_sx (hd : decode cc pc = .ok (.invokestatic idx, 3)) {Qc : PO → PS → Prop} (hc : PC g y cc' X' As S Qc) (hh : X.hh = []) (hm : MQs y cc' X' n) (hl : Cond.methodLink X.own idx y ∈ lw_tbl) (hr : RM X X') (hst : st = As.reverse ++ rest) (hn : As.length = n) (hcat : (rest.map fun v => v.category).sum ≤ 8) (hk : X'.mc ≤ kc) (hk2 : X'.ms ≤ ks) (hx : ∀ o S', Qc o S' → ∃ E, o = .inr E ∧ Q (.inr E) S') : PW g cc X pc L st S kc ks Q :=
  r_invS hd hc hm hl hr hst hn hcat (kc' := kc - X'.mc) (ks' := ks - X'.ms) (by omega) (by omega) (fun E' S' h => by obtain ⟨E, h1, h2⟩ := hx _ _ h; cases h1; exact px_out hh h2) (fun v' S' h => by obtain ⟨E, h1, h2⟩ := hx _ _ h; cases h1)
/-- thrown, all cells as they were -/
def Th (E : String) (S : PS) : PO → PS → Prop := fun o S' => o = .inr E ∧ S'.1 = S.1 ∧ S.2 ≤ S'.2
theorem ps_same {S : PS} {q : Nat} {e : PE} : (ps_put S q e).1 q = some e := by simp [ps_put]
theorem ps_ne {S : PS} {q a : Nat} {e : PE} {r : Option PE} (h : a ≠ q) (h2 : S.1 a = r) : (ps_put S q e).1 a = r := by simp [ps_put, h, h2]
theorem pn_same {S : PS} {e : PE} : (ps_new S e).1 S.2 = some e := by simp [ps_new]
theorem pn_ne {S : PS} {a : Nat} {e : PE} {r : Option PE} (h : a ≠ S.2) (h2 : S.1 a = r) : (ps_new S e).1 a = r := by simp [ps_new, h, h2]
end PROWS7

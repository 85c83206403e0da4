theorem PCtx.base {g : GT} {cc : ByteArray} {X : MI} {p : Program} {s : State} {m : MethodId} {meth : Method} {c : Code} (C : PCtx g cc X p s m meth c) : Base g := C.2.2.2.2.2.2.2.2.1
theorem PCtx.warm {g : GT} {cc : ByteArray} {X : MI} {p : Program} {s : State} {m : MethodId} {meth : Method} {c : Code} (C : PCtx g cc X p s m meth c) : g.K.WarmedH s.vm := C.2.2.2.2.2.2.2.2.2.1
theorem PCtx.own {g : GT} {cc : ByteArray} {X : MI} {p : Program} {s : State} {m : MethodId} {meth : Method} {c : Code} (C : PCtx g cc X p s m meth c) : s.vm.findClass X.own = some m.cls := C.2.2.2.1
theorem PCtx.va {g : GT} {cc : ByteArray} {X : MI} {p : Program} {s : State} {m : MethodId} {meth : Method} {c : Code} (C : PCtx g cc X p s m meth c) : va_K g.2.2 vwCl [] s := C.base.va C.warm
theorem PCtx.word {g : GT} {cc : ByteArray} {X : MI} {p : Program} {s : State} {m : MethodId} {meth : Method} {c : Code} (C : PCtx g cc X p s m meth c) {w : Cond} (hw : w ∈ lw_tbl) (hg : goodWord w = true) {args : Array Value} : w.before args s = true := C.base.word hw hg C.warm
theorem PCtx.arr {g : GT} {cc : ByteArray} {X : MI} {p : Program} {s : State} {m : MethodId} {meth : Method} {c : Code} (C : PCtx g cc X p s m meth c) {cA : ClassId} {ty : FieldType} (h1 : ArrOfT g.K cA ty) (h2 : va_RA g.K cA ty) : va_K g.2.2 vwCl [(cA, ty)] s := by
  refine ⟨C.va.1, fun k q hq => ?_⟩
  have hk : k = 0 := by
    have := (List.getElem?_eq_some_iff.mp hq).1
    simp at this
    omega
  subst hk
  cases hq
  exact ⟨arrOfT_moved C.warm.alike h1, h2.moved C.warm.alike⟩
/-- a class of the system: its number, its name, its fields -/
def CK (ci : Nat) (C : String) (T : u_T) (N : Nat) : Prop := vwCl[ci]? = some (C, T, N) ∧ (∀ w ∈ u_ws C T N, w ∈ lw_tbl ∧ goodWord w = true) ∧ (∃ ty0 : Nat → FieldType, ∀ k, k < N → parseFieldDescriptor (T k).2.2.1 = some (ty0 k)) ∧ (∀ a, a < N → ∀ b, b < N → a ≠ b → (T a).2.1 ≠ (T b).2.1)
/-- an entry of a class's pool that names a field -/
def FL (own : String) (idx ci k : Nat) (ty : FieldType) (fin : Bool) : Prop := ∃ (C : String) (T : u_T) (N : Nat), CK ci C T N ∧ k < N ∧ (T k).1 = C ∧ (T k).2.2.2 = fin ∧ parseFieldDescriptor (T k).2.2.1 = some ty ∧ ((Cond.fieldLink own idx C (T k).2.1 (T k).2.2.1 ∈ lw_tbl) ∨ ∃ host, Cond.fieldLinkNest own idx C (T k).2.1 (T k).2.2.1 host ∈ lw_tbl)
/-- the same of a final field, written by its own constructor -/
def FLF (own : String) (idx ci k : Nat) (ty : FieldType) : Prop := ∃ (C : String) (T : u_T) (N : Nat), CK ci C T N ∧ k < N ∧ (T k).1 = C ∧ (T k).2.2.2 = true ∧ C = own ∧ parseFieldDescriptor (T k).2.2.1 = some ty ∧ Cond.fieldLink own idx C (T k).2.1 (T k).2.2.1 ∈ lw_tbl
theorem va_P1 {D : va_G} {q : Nat} {e : va_E} {H : Heap} (h : va_at D vwCl (q, e) H) : va_P D vwCl [(q, e)] H := by
  intro k x hx
  have hk : k = 0 := by
    have := (List.getElem?_eq_some_iff.mp hx).1
    simp at this
    omega
  subst hk
  cases hx
  exact h
theorem CK.hts {ci : Nat} {C : String} {T : u_T} {N : Nat} (h : CK ci C T N) {g : GT} {cc : ByteArray} {X : MI} {p : Program} {s : State} {m : MethodId} {meth : Method} {c : Code} (Cx : PCtx g cc X p s m meth c) {args : Array Value} : ∀ w ∈ u_ws C T N, w.before args s = true := fun w hw => Cx.word (h.2.1 w hw).1 (h.2.1 w hw).2
theorem nest_f {g : GT} {cc : ByteArray} {X : MI} {p : Program} {s : State} {m : MethodId} {meth : Method} {c : Code} (Cx : PCtx g cc X p s m meth c) {a : String} {i : Nat} {b n d h : String} (hw : Cond.fieldLinkNest a i b n d h ∈ lw_tbl) {args : Array Value} : (Cond.fieldLinkNest a i b n d h).before args s = true :=
  va_Nw.use rfl (va_Nw.warmF Cx.warm (Cx.base.2.1 _ hw (Or.inl rfl)))
theorem nest_m {g : GT} {cc : ByteArray} {X : MI} {p : Program} {s : State} {m : MethodId} {meth : Method} {c : Code} (Cx : PCtx g cc X p s m meth c) {a : String} {i : Nat} {x : MethodName} {h : String} (hw : Cond.methodLinkNest a i x h ∈ lw_tbl) {args : Array Value} : (Cond.methodLinkNest a i x h).before args s = true :=
  va_Nw.use rfl (va_Nw.warmM Cx.warm (Cx.base.2.1 _ hw (Or.inl rfl)))
theorem locs_add {b : Nat} {locs : List Loc} {a i : Nat} (h : ∀ l ∈ locs, b ≤ l.base) (ha : b ≤ a) : ∀ l ∈ locs ++ [(⟨a, i⟩ : Loc)], b ≤ l.base := by
  intro l hl
  rcases List.mem_append.mp hl with h1 | h1
  · exact h l h1
  · cases List.mem_singleton.mp h1
    exact ha
theorem locs_app {b : Nat} {locs L : List Loc} (h : ∀ l ∈ locs, b ≤ l.base) (ha : ∀ l ∈ L, b ≤ l.base) : ∀ l ∈ locs ++ L, b ≤ l.base := by
  intro l hl
  rcases List.mem_append.mp hl with h1 | h1
  · exact h l h1
  · exact ha l h1
section PROWS2
variable {g : GT} {cc : ByteArray} {X : MI} {pc : Nat} {L : List (Nat × Option Value)} {st : List Value} {S : PS} {kc ks : Nat} {Q : PO → PS → Prop}
theorem r_get {idx ci f q : Nat} {fs : List Value} {ty : FieldType} {fin : Bool} {v : Value} (hd : decode cc pc = .ok (.getfield idx, 3)) (hf : FL X.own idx ci f ty fin) (hq : S.1 q = some (cO ci fs)) (hv : fs[f]? = some v) (k : PW g cc X (pc + 3) L (v :: st) S kc ks Q) : PW g cc X pc L (.ref q :: st) S kc ks Q := by
  intro p e s m args below meth c H locs ls cells slots C hP hz hlo hL h1 h2
  obtain ⟨Cn, T, N, hck, hfN, hT, hfi, hpd, hl⟩ := hf
  have hp := va_P1 (q := q) (e := .inr (ci, fs)) (hP.2.2.2 q _ hq).2
  have hs : ∀ x, s.fieldFound? (T f).1 (T f).2.1 (T f).2.2.1 = some x → s.fieldFound? Cn (T f).2.1 (T f).2.2.1 = some x := fun x h => by rw [← hT]; exact h
  rcases hl with hl | ⟨host, hl⟩
  · exact va_get C.1 C.2.1 (hck.hts C) (fun _ h => h) C.own C.va hp 0 rfl hck.1 f hfN (C.word hl rfl) hs hv hd (k p e s m args below meth c H locs ls cells slots C hP hz hlo hL h1 h2)
  · exact va_getN C.1 C.2.1 (hck.hts C) (fun _ h => h) C.own C.va hp 0 rfl hck.1 f hfN (nest_f C hl) hs hv hd (k p e s m args below meth c H locs ls cells slots C hP hz hlo hL h1 h2)
theorem r_put {idx ci f q : Nat} {fs : List Value} {ty : FieldType} {v : Value} (hd : decode cc pc = .ok (.putfield idx, 3)) (hf : FL X.own idx ci f ty false) (hq : S.1 q = some (cO ci fs)) (hn : narrow ty v = v) (hfit : fits ty v = true) (hlen : f < fs.length) (k : PW g cc X (pc + 3) L st (ps_put S q (cO ci (fs.set f v))) kc ks Q) : PW g cc X pc L (v :: .ref q :: st) S kc ks Q := by
  intro p e s m args below meth c H locs ls cells slots C hP hz hlo hL h1 h2
  obtain ⟨Cn, T, N, hck, hfN, hT, hfi, hpd, hl⟩ := hf
  obtain ⟨hb, hat⟩ := hP.2.2.2 q _ hq
  have hat : va_at g.2.2 vwCl (q, .inr (ci, fs)) H := hat
  have hs : ∀ x, s.fieldFound? (T f).1 (T f).2.1 (T f).2.2.1 = some x → s.fieldFound? Cn (T f).2.1 (T f).2.2.1 = some x := fun x h => by rw [← hT]; exact h
  have hts := hck.hts C (args := args)
  obtain ⟨hc, hin, ⟨ty0, hty⟩, hnm⟩ := hck
  have hap := va_apart (own := X.own) hts (fun _ h => h) ty0 hty hnm C.va hc
  obtain ⟨r, h1', cell, q1, q2, q3, q4⟩ := hat
  have hr : r = (Cn, T, N) := Option.some.inj (h1'.symm.trans hc)
  subst hr
  obtain ⟨hS, hfc, kC, hkC, hkind⟩ := C.va.1 ci _ hc
  obtain ⟨cf, kf, fi, fd, hi, hsl⟩ := hS f hfN
  have hlay := hts _ (u_in_lay hfN)
  unfold u_lay at hlay
  rw [if_neg (by rw [hfi]; decide)] at hlay
  have hst := (u_facts hfc hkC (u_lays hts (fun _ h => h) hfN) hi).1
  have h6 := u_store hfc hkC hkind hlay hi hpd hn hfit
  have fin : ∀ H' : Heap, H'[q]? = some (cell.setSlot fd.slot v) → H'.size = H.size → (∀ x, x ≠ q → H'[x]? = H[x]?) → W p g.1 e (roomOf X) s m args below meth c H' (locs ++ [⟨q, fd.slot⟩]) cells slots (vx_MQ below (qC g Q) (qX g Q) args s X.mc X.ms (gA g)) (F0 m (pc + 3) ls st) := by
    intro H' e1 e2 e3
    rw [hsl] at e1
    exact k p e s m args below meth c H' _ ls cells slots C (hP.put hq e2 e3 ⟨_, hc, t_OB.to (V := updV (vp_V fs) f v) ⟨_, e1, q2, q3, t_set q4 hap hfN v⟩ (fun j _ => vp_updV_set hlen v j)⟩) (by rw [e2]; exact hz) (locs_add hlo hb) hL h1 h2
  rcases hl with hl | ⟨host, hl⟩
  · exact W.putK C.1 C.2.1 (f := fd) ⟨C.own, C.word hl rfl, ⟨_, _, _, hs _ hi⟩, hst⟩ (by rw [q2]; exact h6) q1 q3 (by rw [hsl]; exact k2_hasslot (q4 f hfN)) rfl rfl hd fin
  · exact va_WputK C.1 C.2.1 (f := fd) C.own (nest_f C hl) (hs _ hi) hst (by rw [q2]; exact h6) q1 q3 (by rw [hsl]; exact k2_hasslot (q4 f hfN)) rfl rfl hd fin
theorem r_putF {idx ci f q : Nat} {fs : List Value} {ty : FieldType} {v : Value} (hd : decode cc pc = .ok (.putfield idx, 3)) (hf : FLF X.own idx ci f ty) (hini : X.name = "<init>") (hq : S.1 q = some (cO ci fs)) (hn : narrow ty v = v) (hfit : fits ty v = true) (hlen : f < fs.length) (k : PW g cc X (pc + 3) L st (ps_put S q (cO ci (fs.set f v))) kc ks Q) : PW g cc X pc L (v :: .ref q :: st) S kc ks Q := by
  intro p e s m args below meth c H locs ls cells slots C hP hz hlo hL h1 h2
  obtain ⟨Cn, T, N, hck, hfN, hT, hfi, hfo, hpd, hl⟩ := hf
  obtain ⟨hb, hat⟩ := hP.2.2.2 q _ hq
  have hat : va_at g.2.2 vwCl (q, .inr (ci, fs)) H := hat
  have hs : ∀ x, s.fieldFound? (T f).1 (T f).2.1 (T f).2.2.1 = some x → s.fieldFound? Cn (T f).2.1 (T f).2.2.1 = some x := fun x h => by rw [← hT]; exact h
  have hts := hck.hts C (args := args)
  obtain ⟨hc, hin, ⟨ty0, hty⟩, hnm⟩ := hck
  have hap := va_apart (own := X.own) hts (fun _ h => h) ty0 hty hnm C.va hc
  obtain ⟨r, h1', cell, q1, q2, q3, q4⟩ := hat
  have hr : r = (Cn, T, N) := Option.some.inj (h1'.symm.trans hc)
  subst hr
  obtain ⟨hS, hfc, kC, hkC, hkind⟩ := C.va.1 ci _ hc
  obtain ⟨cf, kf, fi, fd, hi, hsl⟩ := hS f hfN
  have hlay := hts _ (u_in_lay hfN)
  unfold u_lay at hlay
  rw [if_pos hfi] at hlay
  have hst := (u_facts hfc hkC (u_lays hts (fun _ h => h) hfN) hi).1
  have hcf : m.cls = cf := by
    obtain ⟨_, _, c', _, _, _, -, -, hf', -, -, -, hown2, -⟩ := Cond.laysFinal_spec hlay
    have e1 : c' = cf := by have := hi.symm.trans hf'; simp at this; exact this.1.symm
    rw [hT, hfo] at hown2
    rw [← e1]; exact Option.some.inj (C.own.symm.trans hown2)
  have h6 := u_fits hfc hkC hkind (Or.inr hlay) hi hpd hn hfit
  refine W.putFinK C.1 C.2.1 C.own (C.word hl rfl) (hs _ hi) hst hcf (C.2.2.2.2.2.2.1.trans hini) (by rw [q2]; exact h6) q1 q3 (by rw [hsl]; exact k2_hasslot (q4 f hfN)) rfl rfl hd fun H' e1 e2 e3 => ?_
  rw [hsl] at e1
  exact k p e s m args below meth c H' _ ls cells slots C (hP.put hq e2 e3 ⟨_, hc, t_OB.to (V := updV (vp_V fs) f v) ⟨_, e1, q2, q3, t_set q4 hap hfN v⟩ (fun j _ => vp_updV_set hlen v j)⟩) (by rw [e2]; exact hz) (locs_add hlo hb) hL h1 h2
theorem q_nat {i : Int} (h0 : 0 ≤ i) : ((i.toNat : Nat) : Int) = i := Int.toNat_of_nonneg h0
theorem r_iald {n q : Nat} {f : Int → Int} {i : Int} (hd : decode cc pc = .ok (.iaload, 1)) (hq : S.1 q = some (cI n f)) (h0 : 0 ≤ i) (hi : i < n) (hn : n < 2147483648) (k : PW g cc X (pc + 1) L (vi (f i) :: st) S kc ks Q) : PW g cc X pc L (vi i :: .ref q :: st) S kc ks Q := by
  intro p e s m args below meth c H locs ls cells slots C hP hz hlo hL h1 h2
  obtain ⟨hin, hcl⟩ := q_ix h0 hi hn
  obtain ⟨cA, a1, a2, a3⟩ := (hP.2.2.2 q _ hq).2
  have kk := k p e s m args below meth c H locs ls cells slots C hP hz hlo hL h1 h2
  refine va_iald C.1 C.2.1 (C.arr a1 a2) (va_P1 (q := q) (e := .inl (cA, n, .inl (fun j => Int32.ofInt (f j)))) a3) 0 0 rfl rfl hin hd ?_
  rw [hcl]
  show W _ _ _ _ _ _ _ _ _ _ _ _ _ _ _ (F0 m (pc + 1) ls (vi (f ((i.toNat : Nat) : Int)) :: st))
  rw [q_nat h0]
  exact kk
theorem r_bald {n q : Nat} {f : Int → Int} {i : Int} (hd : decode cc pc = .ok (.baload, 1)) (hq : S.1 q = some (cB n f)) (h0 : 0 ≤ i) (hi : i < n) (hn : n < 2147483648) (k : PW g cc X (pc + 1) L (vi (f i) :: st) S kc ks Q) : PW g cc X pc L (vi i :: .ref q :: st) S kc ks Q := by
  intro p e s m args below meth c H locs ls cells slots C hP hz hlo hL h1 h2
  obtain ⟨hin, hcl⟩ := q_ix h0 hi hn
  obtain ⟨cA, a1, a2, a3⟩ := (hP.2.2.2 q _ hq).2
  have kk := k p e s m args below meth c H locs ls cells slots C hP hz hlo hL h1 h2
  refine va_bald C.1 C.2.1 (C.arr a1 a2) (va_P1 (q := q) (e := .inl (cA, n, .inl (fun j => Int32.ofInt (f j)))) a3) 0 0 rfl rfl hin hd ?_
  rw [hcl]
  show W _ _ _ _ _ _ _ _ _ _ _ _ _ _ _ (F0 m (pc + 1) ls (vi (f ((i.toNat : Nat) : Int)) :: st))
  rw [q_nat h0]
  exact kk
theorem r_zald {n q : Nat} {f : Int → Int} {i : Int} (hd : decode cc pc = .ok (.baload, 1)) (hq : S.1 q = some (cZ n f)) (h0 : 0 ≤ i) (hi : i < n) (hn : n < 2147483648) (k : PW g cc X (pc + 1) L (vi (f i) :: st) S kc ks Q) : PW g cc X pc L (vi i :: .ref q :: st) S kc ks Q := by
  intro p e s m args below meth c H locs ls cells slots C hP hz hlo hL h1 h2
  obtain ⟨hin, hcl⟩ := q_ix h0 hi hn
  obtain ⟨cA, a1, a2, a3⟩ := (hP.2.2.2 q _ hq).2
  have kk := k p e s m args below meth c H locs ls cells slots C hP hz hlo hL h1 h2
  refine va_zald C.1 C.2.1 (C.arr a1 a2) (va_P1 (q := q) (e := .inl (cA, n, .inl (fun j => Int32.ofInt (f j)))) a3) 0 0 rfl rfl hin hd ?_
  rw [hcl]
  show W _ _ _ _ _ _ _ _ _ _ _ _ _ _ _ (F0 m (pc + 1) ls (vi (f ((i.toNat : Nat) : Int)) :: st))
  rw [q_nat h0]
  exact kk
theorem r_lald {n q : Nat} {f : Int → Int} {i : Int} (hd : decode cc pc = .ok (.laload, 1)) (hq : S.1 q = some (cJ n f)) (h0 : 0 ≤ i) (hi : i < n) (hn : n < 2147483648) (k : PW g cc X (pc + 1) L (vl (f i) :: st) S kc ks Q) : PW g cc X pc L (vi i :: .ref q :: st) S kc ks Q := by
  intro p e s m args below meth c H locs ls cells slots C hP hz hlo hL h1 h2
  obtain ⟨hin, hcl⟩ := q_ix h0 hi hn
  obtain ⟨cA, a1, a2, a3⟩ := (hP.2.2.2 q _ hq).2
  have kk := k p e s m args below meth c H locs ls cells slots C hP hz hlo hL h1 h2
  refine va_lald C.1 C.2.1 (C.arr a1 a2) (va_P1 (q := q) (e := .inl (cA, n, .inr (.inl (fun j => Int64.ofInt (f j))))) a3) 0 0 rfl rfl hin hd ?_
  rw [hcl]
  show W _ _ _ _ _ _ _ _ _ _ _ _ _ _ _ (F0 m (pc + 1) ls (vl (f ((i.toNat : Nat) : Int)) :: st))
  rw [q_nat h0]
  exact kk
theorem r_aald {t n q y : Nat} {Cn : String} {f : Int → Option Nat} {i : Int} (hd : decode cc pc = .ok (.aaload, 1)) (hq : S.1 q = some (cR t n f)) (ht : tyOf t = .object Cn) (h0 : 0 ≤ i) (hi : i < n) (hn : n < 2147483648) (hy : f i = some y) (k : PW g cc X (pc + 1) L (.ref y :: st) S kc ks Q) : PW g cc X pc L (vi i :: .ref q :: st) S kc ks Q := by
  intro p e s m args below meth c H locs ls cells slots C hP hz hlo hL h1 h2
  obtain ⟨hin, hcl⟩ := q_ix h0 hi hn
  obtain ⟨cA, a1, a2, a3⟩ := (hP.2.2.2 q _ hq).2
  have kk := k p e s m args below meth c H locs ls cells slots C hP hz hlo hL h1 h2
  have a1 : ArrOfT g.K cA (tyOf t) := a1
  have a2 : va_RA g.K cA (tyOf t) := a2
  rw [ht] at a1 a2
  refine va_aldq C.1 C.2.1 (C.arr a1 a2) (va_P1 (q := q) (e := .inl (cA, n, .inr (.inr (.inr (.inr (fun j => f j)))))) a3) 0 0 rfl rfl hin hd ?_
  rw [hcl]
  show W _ _ _ _ _ _ _ _ _ _ _ _ _ _ _ (F0 m (pc + 1) ls (va_rf (f ((i.toNat : Nat) : Int)) :: st))
  rw [q_nat h0, hy]
  exact kk
theorem r_alen {q : Nat} {a : Nat × Nat × ((Int → Int) ⊕ (Int → Int) ⊕ (Int → Option Nat))} {z : Int} (hd : decode cc pc = .ok (.arraylength, 1)) (hq : S.1 q = some (.inr a)) (hz : Int32.ofNat a.2.1 = Int32.ofInt z) (k : PW g cc X (pc + 1) L (vi z :: st) S kc ks Q) : PW g cc X pc L (.ref q :: st) S kc ks Q := by
  intro p e s m args below meth c H locs ls cells slots C hP hz' hlo hL h1 h2
  obtain ⟨cA, a1, a2, a3⟩ := (hP.2.2.2 q _ hq).2
  have kk := k p e s m args below meth c H locs ls cells slots C hP hz' hlo hL h1 h2
  refine va_alen C.1 C.2.1 (C.arr a1 a2) (va_P1 (q := q) (e := .inl (cA, vpA a.2)) a3) 0 0 rfl rfl (v := Int32.ofInt z) ?_ hd kk
  rw [← hz]
  obtain ⟨t, n, b⟩ := a
  rcases b with b | b | b <;> rfl
theorem upI_nat {f : Int → Int} {i x : Int} (h0 : 0 ≤ i) : (fun j : Nat => upI f i x (j : Int)) = fun j : Nat => if j = i.toNat then x else f (j : Int) := by
  funext j
  unfold upI
  by_cases e : j = i.toNat
  · rw [if_pos e, if_pos (by rw [e]; exact q_nat h0)]
  · rw [if_neg e, if_neg (fun h => e (by omega))]
theorem r_iast {n q : Nat} {f : Int → Int} {i x : Int} (hd : decode cc pc = .ok (.iastore, 1)) (hq : S.1 q = some (cI n f)) (h0 : 0 ≤ i) (hi : i < n) (hn : n < 2147483648) (k : PW g cc X (pc + 1) L st (ps_put S q (cI n (upI f i x))) kc ks Q) : PW g cc X pc L (vi x :: vi i :: .ref q :: st) S kc ks Q := by
  intro p e s m args below meth c H locs ls cells slots C hP hz hlo hL h1 h2
  obtain ⟨hin, hcl⟩ := q_ix h0 hi hn
  obtain ⟨hb, cA, a1, a2, a3⟩ := hP.2.2.2 q _ hq
  refine W.iast C.1 C.2.1 a3 ((C.arr a1 a2).2 0 _ rfl |>.1 n (fun j => .int (Int32.ofInt (f j)))) (fun h => by cases h) (by show ¬ (_ ∨ (arrV _ _ _).slots.size ≤ _); rw [arrV_size]; exact hin) rfl rfl hd fun H' e1 e2 e3 => ?_
  refine k p e s m args below meth c H' _ ls cells slots C (hP.put hq e2 e3 ⟨cA, a1, a2, ?_⟩) (by rw [e2]; exact hz) (locs_add hlo hb) hL h1 h2
  rw [e1]
  congr 1
  show (arrV cA n (fun j => .int (Int32.ofInt (f j)))).setSlot _ _ = arrV cA n (fun j => .int (Int32.ofInt (upI f i x j)))
  rw [arrV_store, hcl]
  congr 1
  funext j
  have h9 : upI f i x (j : Int) = if j = i.toNat then x else f (j : Int) := congrFun (upI_nat (f := f) (x := x) h0) j
  rw [h9]
  by_cases e : j = i.toNat <;> simp [updV, e]
theorem r_last {n q : Nat} {f : Int → Int} {i x : Int} (hd : decode cc pc = .ok (.lastore, 1)) (hq : S.1 q = some (cJ n f)) (h0 : 0 ≤ i) (hi : i < n) (hn : n < 2147483648) (k : PW g cc X (pc + 1) L st (ps_put S q (cJ n (upI f i x))) kc ks Q) : PW g cc X pc L (vl x :: vi i :: .ref q :: st) S kc ks Q := by
  intro p e s m args below meth c H locs ls cells slots C hP hz hlo hL h1 h2
  obtain ⟨hin, hcl⟩ := q_ix h0 hi hn
  obtain ⟨hb, cA, a1, a2, a3⟩ := hP.2.2.2 q _ hq
  refine W.last C.1 C.2.1 a3 ((C.arr a1 a2).2 0 _ rfl |>.1 n (fun j => .long (Int64.ofInt (f j)))) (fun h => by cases h) (by show ¬ (_ ∨ (arrV _ _ _).slots.size ≤ _); rw [arrV_size]; exact hin) rfl rfl hd fun H' e1 e2 e3 => ?_
  refine k p e s m args below meth c H' _ ls cells slots C (hP.put hq e2 e3 ⟨cA, a1, a2, ?_⟩) (by rw [e2]; exact hz) (locs_add hlo hb) hL h1 h2
  rw [e1]
  congr 1
  show (arrV cA n (fun j => .long (Int64.ofInt (f j)))).setSlot _ _ = arrV cA n (fun j => .long (Int64.ofInt (upI f i x j)))
  rw [arrV_store, hcl]
  congr 1
  funext j
  have h9 : upI f i x (j : Int) = if j = i.toNat then x else f (j : Int) := congrFun (upI_nat (f := f) (x := x) h0) j
  rw [h9]
  by_cases e : j = i.toNat <;> simp [updV, e]
theorem q_byte {x : Int} (h1 : -128 ≤ x) (h2 : x < 128) : (Int32.ofInt x).toInt8.toInt32 = Int32.ofInt x := by
  apply Int32.toInt_inj.mp
  rw [Int8.toInt_toInt32, Int32.toInt_toInt8, q_tI (by omega) (by omega)]
  show x.bmod 256 = x
  exact Int.bmod_eq_of_le (by omega) (by omega)
theorem q_narB {x : Int} (h1 : -128 ≤ x) (h2 : x < 128) : narrow .byte (.int (Int32.ofInt x)) = .int (Int32.ofInt x) := by
  show Value.int (Int32.ofInt x).toInt8.toInt32 = _
  rw [q_byte h1 h2]
theorem q_narZ {x : Int} (h : x = 0 ∨ x = 1) : narrow .boolean (.int (Int32.ofInt x)) = .int (Int32.ofInt x) := by
  rcases h with rfl | rfl <;> rfl
theorem r_bast {n q : Nat} {f : Int → Int} {i x : Int} (hd : decode cc pc = .ok (.bastore, 1)) (hq : S.1 q = some (cB n f)) (h0 : 0 ≤ i) (hi : i < n) (hn : n < 2147483648) (hx : -128 ≤ x ∧ x < 128) (k : PW g cc X (pc + 1) L st (ps_put S q (cB n (upI f i x))) kc ks Q) : PW g cc X pc L (vi x :: vi i :: .ref q :: st) S kc ks Q := by
  intro p e s m args below meth c H locs ls cells slots C hP hz hlo hL h1 h2
  obtain ⟨hin, hcl⟩ := q_ix h0 hi hn
  obtain ⟨hb, cA, a1, a2, a3⟩ := hP.2.2.2 q _ hq
  refine W.bast C.1 C.2.1 a3 ((C.arr a1 a2).2 0 _ rfl |>.1 n (fun j => .int (Int32.ofInt (f j)))) (fun h => by cases h) (by show ¬ (_ ∨ (arrV _ _ _).slots.size ≤ _); rw [arrV_size]; exact hin) rfl rfl hd fun H' e1 e2 e3 => ?_
  refine k p e s m args below meth c H' _ ls cells slots C (hP.put hq e2 e3 ⟨cA, a1, a2, ?_⟩) (by rw [e2]; exact hz) (locs_add hlo hb) hL h1 h2
  rw [e1]
  congr 1
  show (arrV cA n (fun j => .int (Int32.ofInt (f j)))).setSlot _ _ = arrV cA n (fun j => .int (Int32.ofInt (upI f i x j)))
  rw [q_narB hx.1 hx.2]
  rw [arrV_store, hcl]
  congr 1
  funext j
  have h9 : upI f i x (j : Int) = if j = i.toNat then x else f (j : Int) := congrFun (upI_nat (f := f) (x := x) h0) j
  rw [h9]
  by_cases e : j = i.toNat <;> simp [updV, e]
theorem r_zast {n q : Nat} {f : Int → Int} {i x : Int} (hd : decode cc pc = .ok (.bastore, 1)) (hq : S.1 q = some (cZ n f)) (h0 : 0 ≤ i) (hi : i < n) (hn : n < 2147483648) (hx : x = 0 ∨ x = 1) (k : PW g cc X (pc + 1) L st (ps_put S q (cZ n (upI f i x))) kc ks Q) : PW g cc X pc L (vi x :: vi i :: .ref q :: st) S kc ks Q := by
  intro p e s m args below meth c H locs ls cells slots C hP hz hlo hL h1 h2
  obtain ⟨hin, hcl⟩ := q_ix h0 hi hn
  obtain ⟨hb, cA, a1, a2, a3⟩ := hP.2.2.2 q _ hq
  refine W.zast C.1 C.2.1 a3 ((C.arr a1 a2).2 0 _ rfl |>.1 n (fun j => .int (Int32.ofInt (f j)))) (fun h => by cases h) (by show ¬ (_ ∨ (arrV _ _ _).slots.size ≤ _); rw [arrV_size]; exact hin) rfl rfl hd fun H' e1 e2 e3 => ?_
  refine k p e s m args below meth c H' _ ls cells slots C (hP.put hq e2 e3 ⟨cA, a1, a2, ?_⟩) (by rw [e2]; exact hz) (locs_add hlo hb) hL h1 h2
  rw [e1]
  congr 1
  show (arrV cA n (fun j => .int (Int32.ofInt (f j)))).setSlot _ _ = arrV cA n (fun j => .int (Int32.ofInt (upI f i x j)))
  rw [q_narZ hx]
  rw [arrV_store, hcl]
  congr 1
  funext j
  have h9 : upI f i x (j : Int) = if j = i.toNat then x else f (j : Int) := congrFun (upI_nat (f := f) (x := x) h0) j
  rw [h9]
  by_cases e : j = i.toNat <;> simp [updV, e]
theorem upR_nat {f : Int → Option Nat} {i : Int} {x : Option Nat} (h0 : 0 ≤ i) : (fun j : Nat => upR f i x (j : Int)) = fun j : Nat => if j = i.toNat then x else f (j : Int) := by
  funext j
  unfold upR
  by_cases e : j = i.toNat
  · rw [if_pos e, if_pos (by rw [e]; exact q_nat h0)]
  · rw [if_neg e, if_neg (fun h => e (by omega))]
theorem r_aast {t n q v ci : Nat} {Cn : String} {T : u_T} {N : Nat} {vs : List Value} {f : Int → Option Nat} {i : Int} (hd : decode cc pc = .ok (.aastore, 1)) (hq : S.1 q = some (cR t n f)) (ht : tyOf t = .object Cn) (hc : vwCl[ci]? = some (Cn, T, N)) (hv : S.1 v = some (cO ci vs)) (h0 : 0 ≤ i) (hi : i < n) (hn : n < 2147483648) (k : PW g cc X (pc + 1) L st (ps_put S q (cR t n (upR f i (some v)))) kc ks Q) : PW g cc X pc L (.ref v :: vi i :: .ref q :: st) S kc ks Q := by
  intro p e s m args below meth c H locs ls cells slots C hP hz hlo hL h1 h2
  obtain ⟨hin, hcl⟩ := q_ix h0 hi hn
  obtain ⟨hb, cA, a1, a2, a3⟩ := hP.2.2.2 q _ hq
  have b1 : ArrOfT g.K cA (tyOf t) := a1
  have b2 : va_RA g.K cA (tyOf t) := a2
  rw [ht] at b1 b2
  have hlt : (Int32.ofInt i).toNatClampNeg < n := Nat.not_le.mp fun q => hin (Or.inr q)
  have h00 : ¬ Int32.ofInt i < 0 := fun q => hin (Or.inl q)
  obtain ⟨r', hr', cellV, g1, g2, g3, -⟩ := (hP.2.2.2 v _ hv).2
  have hcls := (C.va.1 ci _ hc).2
  obtain ⟨kA, comp, k1, k2, k3, -⟩ := ((C.arr b1 b2).2 0 _ rfl).2
  have hcomp : comp = g.2.2.1 ci := Option.some.inj (k3.symm.trans hcls.1)
  subst hcomp
  obtain ⟨kC, hkC, -⟩ := hcls.2
  refine W.aast C.1 C.2.1 a3 (fun q h => by cases h) (fun h => by cases h) k1 k2 rfl hkC ⟨h00, by show _ < (arrV _ _ _).slots.size; rw [arrV_size]; exact hlt⟩ g1 (fun q h => by rw [g3] at h; cases h) (by rw [g2]; exact hkC) (by rw [g2]; exact va_assign hcls) rfl rfl hd fun H' e1 e2 e3 => ?_
  refine k p e s m args below meth c H' _ ls cells slots C (hP.put hq e2 e3 ⟨cA, a1, a2, ?_⟩) (by rw [e2]; exact hz) (locs_add hlo hb) hL h1 h2
  rw [e1]
  congr 1
  show (arrV cA n (fun j => va_rf (f j))).setSlot _ _ = arrV cA n (fun j => va_rf (upR f i (some v) j))
  rw [arrV_store, hcl]
  congr 1
  funext j
  have h9 : upR f i (some v) (j : Int) = if j = i.toNat then some v else f (j : Int) := congrFun (upR_nat (f := f) (x := some v) h0) j
  rw [h9]
  by_cases e : j = i.toNat <;> simp [updV, e, va_rf]
/-- an entry that names a class whose objects can be made -/
def NL (own : String) (idx ci N : Nat) (fs : List Value) : Prop := ∃ (C : String) (T : u_T) (ty0 : Nat → FieldType), CK ci C T N ∧ (∀ k, k < N → parseFieldDescriptor (T k).2.2.1 = some (ty0 k)) ∧ (∀ j, j < N → defaultValue (ty0 j) = vp_V fs j) ∧ Cond.classLink own idx C ∈ lw_tbl ∧ Cond.instantiable C N ∈ lw_tbl ∧ Cond.initialized C ∈ lw_tbl
theorem r_new {idx ci N : Nat} {fs : List Value} (hd : decode cc pc = .ok (.new idx, 3)) (hf : NL X.own idx ci N fs) (k : (∀ a e, S.1 a = some e → a < S.2) → PW g cc X (pc + 3) L (.ref S.2 :: st) (ps_new S (cO ci fs)) kc ks Q) : PW g cc X pc L st S (kc + 1) (ks + N) Q := by
  intro p e s m args below meth c H locs ls cells slots C hP hz hlo hL h1 h2
  obtain ⟨Cn, T, ty0, hck, hty, hfs, w1, w2, w3⟩ := hf
  have hKn := C.va.1 ci _ hck.1
  refine W.newcK C.1 C.2.1 C.own (C.word w1 rfl) (C.word w2 rfl) (C.word w3 rfl) rfl hd (by show cells + 1 ≤ X.mc; omega) (by show slots + N ≤ X.ms; omega) hKn.2.1 hP.1 fun H1 kC hkC e1 z1 o1 => ?_
  refine k (fun a e h => hP.lt h) p e s m args below meth c H1 locs ls (cells + 1) (slots + N) C (hP.new (by rw [z1, hP.1]) (fun x hx => o1 x (by rw [← hP.1]; exact hx)) ?_) (by rw [z1]; have := hP.1; omega) hlo hL (by omega) (by omega)
  exact ⟨_, hck.1, (u_born ty0 (hck.hts C (args := args)) (fun _ h => h) hKn hkC e1 hty).to hfs⟩
theorem q_cl {N : Nat} (hN : N < 2147483648) : ¬ Int32.ofInt (N : Int) < 0 ∧ (Int32.ofInt (N : Int)).toNatClampNeg = N := by
  have e : (Int32.ofInt (N : Int)).toInt = N := q_tI (by omega) (by omega)
  refine ⟨?_, ?_⟩
  · rw [Int32.lt_iff_toInt_lt, e]
    show ¬ ((N : Int) < 0)
    omega
  · show (Int32.ofInt (N : Int)).toInt.toNat = N
    rw [e]
    rfl
theorem RA_back {g : GT} {s : State} {cA : ClassId} {ty : FieldType} (h : g.K.WarmedH s.vm) (a : ArrOfT s cA ty) (b : va_RA s cA ty) : ArrOfT g.K cA ty ∧ va_RA g.K cA ty := ⟨arrOfT_moved h.alike.symm a, b.moved h.alike.symm⟩
theorem r_newa {N : Nat} {atype : ArrayType} {t : Nat} {e0 : (Int → Int) ⊕ (Int → Int) ⊕ (Int → Option Nat)} (hd : decode cc pc = .ok (.newarray atype, 2)) (hty : newarray.typeOf atype = tyOf t) (hp : ∀ (U : State) (cA : ClassId), U.vm.findClass ("[" ++ (tyOf t).toString) = some cA → va_RA U cA (tyOf t)) (harr : Cond.arrayClass (tyOf t) ∈ lw_tbl) (he : ∀ cA, vp_cell cA (vpA (N, e0)) = arrV cA N (fun _ => defaultValue (tyOf t))) (hN : N < 100000) (hb : componentBytes (tyOf t) ≤ 8) (k : (∀ a e, S.1 a = some e → a < S.2) → PW g cc X (pc + 2) L (.ref S.2 :: st) (ps_new S (.inr (t, N, e0))) kc ks Q) : PW g cc X pc L (vi (N : Int) :: st) S (kc + 1) (ks + N) Q := by
  intro p e s m args below meth c H locs ls cells slots C hP hz hlo hL h1 h2
  obtain ⟨c1, c2⟩ := q_cl (N := N) (by omega)
  refine va_newaK C.1 C.2.1 (atype := atype) (by rw [hty]; exact C.word harr rfl) rfl hd rfl c1 c2 (by rw [hty]; have := Nat.mul_le_mul (Nat.le_of_lt hN) hb; omega) (by show cells + 1 ≤ X.mc; omega) (by show slots + N ≤ X.ms; omega) hP.1 fun H1 cA e1 z1 o1 hAr hNm => ?_
  rw [hty] at hAr hNm e1
  obtain ⟨g1, g2⟩ := RA_back C.warm hAr (hp s cA hNm)
  refine k (fun a e h => hP.lt h) p e s m args below meth c H1 locs ls (cells + 1) (slots + N) C (hP.new (by rw [z1, hP.1]) (fun x hx => o1 x (by rw [← hP.1]; exact hx)) ⟨cA, g1, g2, ?_⟩) (by rw [z1]; have := hP.1; omega) hlo hL (by omega) (by omega)
  show H1[S.2]? = some (vp_cell cA (vpA (N, e0)))
  rw [he]
  exact e1
theorem r_newI {N : Nat} (hd : decode cc pc = .ok (.newarray .int, 2)) (harr : Cond.arrayClass .int ∈ lw_tbl) (hN : N < 100000) (k : (∀ a e, S.1 a = some e → a < S.2) → PW g cc X (pc + 2) L (.ref S.2 :: st) (ps_new S (cI N (fun _ => 0))) kc ks Q) : PW g cc X pc L (vi (N : Int) :: st) S (kc + 1) (ks + N) Q :=
  r_newa (t := 0) (e0 := .inl (fun _ => 0)) hd rfl (fun _ _ h => h) harr (fun _ => rfl) hN (by decide) k
theorem r_newJ {N : Nat} (hd : decode cc pc = .ok (.newarray .long, 2)) (harr : Cond.arrayClass .long ∈ lw_tbl) (hN : N < 100000) (k : (∀ a e, S.1 a = some e → a < S.2) → PW g cc X (pc + 2) L (.ref S.2 :: st) (ps_new S (cJ N (fun _ => 0))) kc ks Q) : PW g cc X pc L (vi (N : Int) :: st) S (kc + 1) (ks + N) Q :=
  r_newa (t := 1) (e0 := .inr (.inl (fun _ => 0))) hd rfl (fun _ _ h => h) harr (fun _ => rfl) hN (by decide) k
theorem r_newB {N : Nat} (hd : decode cc pc = .ok (.newarray .byte, 2)) (harr : Cond.arrayClass .byte ∈ lw_tbl) (hN : N < 100000) (k : (∀ a e, S.1 a = some e → a < S.2) → PW g cc X (pc + 2) L (.ref S.2 :: st) (ps_new S (cB N (fun _ => 0))) kc ks Q) : PW g cc X pc L (vi (N : Int) :: st) S (kc + 1) (ks + N) Q :=
  r_newa (t := 2) (e0 := .inl (fun _ => 0)) hd rfl (fun _ _ h => h) harr (fun _ => rfl) hN (by decide) k
theorem r_newZ {N : Nat} (hd : decode cc pc = .ok (.newarray .boolean, 2)) (harr : Cond.arrayClass .boolean ∈ lw_tbl) (hN : N < 100000) (k : (∀ a e, S.1 a = some e → a < S.2) → PW g cc X (pc + 2) L (.ref S.2 :: st) (ps_new S (cZ N (fun _ => 0))) kc ks Q) : PW g cc X pc L (vi (N : Int) :: st) S (kc + 1) (ks + N) Q :=
  r_newa (t := 3) (e0 := .inl (fun _ => 0)) hd rfl (fun _ _ h => h) harr (fun _ => rfl) hN (by decide) k
theorem r_newq {idx N t : Nat} {Cn : String} (hd : decode cc pc = .ok (.anewarray idx, 3)) (ht : tyOf t = .object Cn) (w1 : Cond.classLink X.own idx Cn ∈ lw_tbl) (w2 : Cond.arrayOver (.object Cn) ∈ lw_tbl) (hN : N < 100000) (k : (∀ a e, S.1 a = some e → a < S.2) → PW g cc X (pc + 3) L (.ref S.2 :: st) (ps_new S (cR t N (fun _ => none))) kc ks Q) : PW g cc X pc L (vi (N : Int) :: st) S (kc + 1) (ks + N) Q := by
  intro p e s m args below meth c H locs ls cells slots C hP hz hlo hL h1 h2
  obtain ⟨c1, c2⟩ := q_cl (N := N) (by omega)
  have hAO : va_AO Cn s := va_AO.moved C.warm.alike (C.base.2.2.2.2.2.2.1 _ w2)
  refine W.anew C.1 C.2.1 C.own (C.word w1 rfl) (va_AO.use hAO) rfl hd rfl c1 (by rw [c2]; omega) (by show cells + 1 ≤ X.mc; omega) (by rw [c2]; show slots + N ≤ X.ms; omega) fun cA kA comp f1 f2 f3 f4 => ?_
  generalize hH1 : H.push ({ cls := cA, slots := Array.replicate (Int32.ofInt (N : Int)).toNatClampNeg .null, vm := .none } : Cell) = H1
  rw [c2] at hH1 ⊢
  have z1 : H1.size = H.size + 1 := by rw [← hH1, Array.size_push]
  have e1 : H1[H.size]? = some (arrV cA N (fun _ => .null)) := by rw [← hH1, Array.getElem?_push_size, ← arrV_new]
  have o1 : ∀ q : Nat, q < H.size → H1[q]? = H[q]? := fun q hq => by rw [← hH1, Array.getElem?_push, if_neg (Nat.ne_of_lt hq)]
  have hAr : ArrOfT s cA (.object Cn) := fun N z => ⟨(fun k h => by cases h), kA, f2, comp, f3⟩
  obtain ⟨g1, g2⟩ := RA_back C.warm hAr ⟨kA, comp, f2, f3, f4, f1⟩
  have kk := k (fun a e h => hP.lt h) p e s m args below meth c H1 locs ls (cells + 1) (slots + N) C (hP.new z1 o1 ⟨cA, by rw [ht]; exact g1, by rw [ht]; exact g2, by show H1[S.2]? = some (arrV cA N (fun _ => .null)); rw [← hP.1]; exact e1⟩) (by rw [z1]; omega) hlo hL (by omega) (by omega)
  rw [hP.1]
  exact kk
end PROWS2

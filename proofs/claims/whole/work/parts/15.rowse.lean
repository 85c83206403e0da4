/-- words that hold as long as the tables are alike: good ones, and two kinds beside -/
def wk2 : Cond → Bool
  | .castable _ _ => true
  | .declares _ => true
  | _ => false
def wkB (w : Cond) : Bool := goodWord w || wk2 w
theorem wk_at {g : GT} {s : State} {args : Array Value} {w : Cond} (hB : Base g) (hW : g.K.WarmedH s.vm) (h1 : w ∈ lw_tbl) (h2 : wkB w = true) : w.before args s = true := by
  unfold wkB at h2
  cases hg : goodWord w with
  | true => exact hB.word h1 hg hW
  | false =>
    rw [hg] at h2
    cases w <;> first | exact va_Nw.use rfl (va_Nw.warmC hW (hB.2.1 _ h1 (Or.inl rfl))) | exact va_Nw.use rfl (va_Nw.warmD hW (hB.2.1 _ h1 (Or.inl rfl))) | cases h2
theorem wk_ot {w : Cond} (h2 : wkB w = true) : vx_ot w = true := by
  unfold wkB at h2
  cases hg : goodWord w with
  | true => unfold vx_ot; rw [hg]; simp
  | false =>
    rw [hg] at h2
    cases w <;> first | rfl | cases h2
/-- new X(text), thrown -/
def TH (own cls : String) (ik ic : Nat) (names : List String) : Prop := Bundle.fit cls = true ∧ (∀ n ∈ names, Bundle.fit n = true) ∧ Cond.classLink own ik cls ∈ lw_tbl ∧ Cond.initialized cls ∈ lw_tbl ∧ ∀ w ∈ vx_atS own ic cls names, w ∈ lw_tbl ∧ wkB w = true
section PROWS5
variable {g : GT} {cc : ByteArray} {X : MI} {pc : Nat} {L : List (Nat × Option Value)} {st : List Value} {S : PS} {kc ks : Nat} {Q : PO → PS → Prop}
theorem zq_of {C n d : String} {s : State} (h : vx_Zq C n d (gA g) g.K g.K.heap) (hW : g.K.WarmedH s.vm) (hq : ∀ q : Nat, q < g.b → s.heap[q]? = g.K.heap[q]?) : vx_Zq C n d (gA g) s s.heap :=
  (h.moved hW.alike).kept (fun a ha _ => hq a ha)
theorem r_throwS {cls text : String} {names : List String} {ik is ic : Nat} (h : TH X.own cls ik ic names) (hs : (X.own, is, text) ∈ strL) (hh : X.hh = [])
    (d0 : decode cc pc = .ok (.new ik, 3)) (d3 : decode cc (pc + 3) = .ok (.dup, 1)) (d4 : decode cc (pc + 4) = .ok (.ldc is, 2)) (d6 : decode cc (pc + 6) = .ok (.invokespecial ic, 3)) (d9 : decode cc (pc + 9) = .ok (.athrow, 1))
    (hf : names.length + 3 < X.fr) (hlo' : (st.map fun v => v.category).sum + (13 * (names.length + 1) + 43) ≤ X.lo) (hk : 1 ≤ kc) (hk2 : 6 ≤ ks) (hq : ∀ z, S.2 ≤ z → Q (.inr cls) (S.1, z)) : PW g cc X pc L st S kc ks Q := by
  intro p e s m args below meth c H locs ls cells slots C hP hz hlo hL h1 h2
  obtain ⟨t1, t2, t3, t4, t5⟩ := h
  obtain ⟨sa, hsa⟩ := C.base.2.2.2.2.2.1 _ hs
  refine vx_throwS C.1 C.2.1 C.base.2.2.2.2.1 C.own t1 t2 (C.word t3 rfl) (C.word t4 rfl) (hsa.warm C.warm) (fun w hw => wk_at C.base C.warm (t5 w hw).1 (t5 w hw).2) (fun w hw => ?_) (zq_of C.base.2.2.1 C.warm C.2.2.2.2.2.2.2.2.2.2.2) (zq_of C.base.2.2.2.1 C.warm C.2.2.2.2.2.2.2.2.2.2.2) (⟨hz, fun q g1 g2 => ?_, hlo⟩ : va_S (gA g) s.heap H locs) (hL.1.trans C.2.2.1.symm) d0 d3 d4 d6 d9 (by rw [C.2.2.2.2.2.2.2.1, hh]; intro x hx; cases hx) hf hlo' (by show cells + 1 ≤ X.mc; omega) (by show slots + 6 ≤ X.ms; omega) C.2.2.2.2.2.1 (fun t g1 g2 g3 => ⟨⟨(S.1, t.heap.size), hq _ (by rw [← hP.1]; exact g2), hP.grow g2 g3⟩, Nat.le_trans hz g2, fun q k1 k2 => ?_⟩) hlo (by omega) (by omega)
  · rcases List.mem_cons.mp hw with rfl | hw
    · rfl
    · rcases List.mem_cons.mp hw with rfl | hw
      · rfl
      · exact wk_ot (t5 w hw).2
  · rw [hP.2.2.1 q (Nat.not_le.mp g2)]
    exact (C.2.2.2.2.2.2.2.2.2.2.2 q (Nat.not_le.mp g2)).symm
  · rw [g3 q (Nat.lt_of_lt_of_le k1 hz), hP.2.2.1 q (Nat.not_le.mp k2)]
    exact (C.2.2.2.2.2.2.2.2.2.2.2 q (Nat.not_le.mp k2)).symm
theorem px_catch {E : String} (pre : List (Nat × Nat × Nat × Nat)) (x : Nat × Nat × Nat × Nat) (suf : List (Nat × Nat × Nat × Nat)) (hh : X.hh = pre ++ x :: suf) (hpre : ∀ z ∈ pre, z.2.2.2 ≠ 0 ∧ ∃ nm : String, Cond.classLink X.own z.2.2.2 nm ∈ lw_tbl ∧ (E, nm) ∈ excL) (hx : covers ⟨x.1, x.2.1, x.2.2.1, x.2.2.2⟩ pc = true) (h0 : x.2.2.2 ≠ 0) (hl : Cond.classLink X.own x.2.2.2 E ∈ lw_tbl) (hc : Cond.castable E E ∈ lw_tbl) (k : ∀ q, PW g cc X x.2.2.1 L [.ref q] S kc ks Q) : PX g cc X pc L S kc ks Q E := by
  intro p e s m args below meth c H locs ls cells slots rest q ce C hP hz hlo hL h1 h2 hce hcv hcl
  refine vx_catch C.own (pre.map fun q => ⟨q.1, q.2.1, q.2.2.1, q.2.2.2⟩) ⟨x.1, x.2.1, x.2.2.1, x.2.2.2⟩ (suf.map fun q => ⟨q.1, q.2.1, q.2.2.1, q.2.2.2⟩) (by rw [C.2.2.2.2.2.2.2.1, hh]; unfold tableOf; rw [List.map_append]; rfl) (fun z hz' => ?_) hx h0 (C.word hl rfl) (va_Nw.use rfl (va_Nw.warmC C.warm (C.base.2.1 _ hc (Or.inl rfl)))) hce hcv hcl (k q p e s m args below meth c H locs ls cells slots C hP hz hlo hL h1 h2)
  obtain ⟨w, hw, rfl⟩ := List.mem_map.mp hz'
  obtain ⟨g0, nm, g1, g2⟩ := hpre w hw
  exact Or.inr ⟨g0, nm, C.word g1 rfl, (C.base.2.2.2.2.2.2.2 _ g2).moved C.warm.alike⟩
theorem r_objInit {q idx : Nat} (hd : decode cc pc = .ok (.invokespecial idx, 3)) (w1 : Cond.methodLink X.own idx Lib.objectInit ∈ lw_tbl) (w2 : Cond.instanceMethod Lib.objectInit ∈ lw_tbl) (w3 : Cond.code Lib.objectInit ⟨#[0xb1]⟩ 1 none ∈ lw_tbl) (hf : 1 ≤ X.fr) (hlo' : (st.map fun v => v.category).sum + 12 ≤ X.lo) (k : PW g cc X (pc + 3) L st S kc ks Q) : PW g cc X pc L (.ref q :: st) S kc ks Q := by
  intro p e s m args below meth c H locs ls cells slots C hP hz hlo hL h1 h2
  refine W.objInit C.1 C.2.1 C.own (C.word w1 rfl) (C.word w2 rfl) (C.word w3 rfl) rfl (hL.1.trans C.2.2.1.symm) rfl hd hf (by show 2 * 0 + _ + 12 ≤ X.lo; omega) ?_
  exact k p e s m args below meth c H locs ls cells slots C hP hz hlo hL h1 h2
/-- whole numbers of the pool -/
def CST (own : String) (idx : Nat) (z : Int) : Prop := ∃ v : Int32, Cond.constant own idx v ∈ lw_tbl ∧ v = Int32.ofInt z
def CSJ (own : String) (idx : Nat) (z : Int) : Prop := ∃ v : Int64, Cond.constantLong own idx v ∈ lw_tbl ∧ v = Int64.ofInt z
theorem r_ldc {idx : Nat} {z : Int} (hd : decode cc pc = .ok (.ldc idx, 2)) (h : CST X.own idx z) (k : PW g cc X (pc + 2) L (vi z :: st) S kc ks Q) : PW g cc X pc L st S kc ks Q := by
  intro p e s m args below meth c H locs ls cells slots C hP hz hlo hL h1 h2
  obtain ⟨v, w, rfl⟩ := h
  exact lv_ldc C.1 C.2.1 C.own (C.word w rfl) hd (k p e s m args below meth c H locs ls cells slots C hP hz hlo hL h1 h2)
theorem r_ldcw {idx : Nat} {z : Int} (hd : decode cc pc = .ok (.ldc_w idx, 3)) (h : CST X.own idx z) (k : PW g cc X (pc + 3) L (vi z :: st) S kc ks Q) : PW g cc X pc L st S kc ks Q := by
  intro p e s m args below meth c H locs ls cells slots C hP hz hlo hL h1 h2
  obtain ⟨v, w, rfl⟩ := h
  exact lv_ldcw C.1 C.2.1 C.own (C.word w rfl) hd (k p e s m args below meth c H locs ls cells slots C hP hz hlo hL h1 h2)
theorem r_ldc2 {idx : Nat} {z : Int} (hd : decode cc pc = .ok (.ldc2_w idx, 3)) (h : CSJ X.own idx z) (k : PW g cc X (pc + 3) L (vl z :: st) S kc ks Q) : PW g cc X pc L st S kc ks Q := by
  intro p e s m args below meth c H locs ls cells slots C hP hz hlo hL h1 h2
  obtain ⟨v, w, rfl⟩ := h
  exact lv_ldc2 C.1 C.2.1 C.own (C.word w rfl) hd (k p e s m args below meth c H locs ls cells slots C hP hz hlo hL h1 h2)
/-- a literal: its object is the one that K has for it -/
theorem r_ldcS {idx : Nat} {text : String} (hd : decode cc pc = .ok (.ldc idx, 2)) (hs : (X.own, idx, text) ∈ strL) (k : ∀ a, vk_R X.own idx text a g.K → PW g cc X (pc + 2) L (.ref a :: st) S kc ks Q) : PW g cc X pc L st S kc ks Q := by
  intro p e s m args below meth c H locs ls cells slots C hP hz hlo hL h1 h2
  obtain ⟨sa, hsa⟩ := C.base.2.2.2.2.2.1 _ hs
  exact va_ldcS C.1 C.2.1 C.own (hsa.warm C.warm) hd (k sa hsa p e s m args below meth c H locs ls cells slots C hP hz hlo hL h1 h2)
def MathW (own : String) (idx : Nat) (y : MethodName) (bytes : ByteArray) (n : Nat) (ret : Option FieldType) : Prop := Cond.methodLink own idx y ∈ lw_tbl ∧ Cond.static y ∈ lw_tbl ∧ Cond.initialized "java/lang/Math" ∈ lw_tbl ∧ Cond.code y bytes n ret ∈ lw_tbl
theorem r_mmin {idx : Nat} {a b : Int} (hd : decode cc pc = .ok (.invokestatic idx, 3)) (w : MathW X.own idx Lib.Math.min.name Lib.Math.min.code 2 (some .int)) (ha : RI a) (hb : RI b) (hf : 1 ≤ X.fr) (hlo' : (st.map fun v => v.category).sum + 13 ≤ X.lo) (k : PW g cc X (pc + 3) L (vi (min a b) :: st) S kc ks Q) : PW g cc X pc L (vi b :: vi a :: st) S kc ks Q := by
  intro p e s m args below meth c H locs ls cells slots C hP hz hlo hL h1 h2
  refine va_mmin C.1 C.2.1 (C.2.2.1.trans hL.1.symm) C.own (C.word w.1 rfl) (C.word w.2.1 rfl) (C.word w.2.2.1 rfl) (C.word w.2.2.2 rfl) hf hlo' (by show cells ≤ X.mc; omega) (by show slots ≤ X.ms; omega) hd ?_
  have kk := k p e s m args below meth c H locs ls cells slots C hP hz hlo hL h1 h2
  have e : (if Int32.ofInt a < Int32.ofInt b then Int32.ofInt a else Int32.ofInt b) = Int32.ofInt (min a b) := by
    by_cases h : a < b
    · rw [if_pos ((q_ltI ha hb).mpr h), Int.min_eq_left (by omega)]
    · rw [if_neg (mt (q_ltI ha hb).mp h), Int.min_eq_right (by omega)]
  first | (rw [e]; exact kk) | (rw [show (if Int32.ofInt b < Int32.ofInt a then Int32.ofInt b else Int32.ofInt a) = Int32.ofInt (min a b) from by
    by_cases h : b < a
    · rw [if_pos ((q_ltI hb ha).mpr h), Int.min_eq_right (by omega)]
    · rw [if_neg (mt (q_ltI hb ha).mp h), Int.min_eq_left (by omega)]]; exact kk)
theorem r_mmax {idx : Nat} {a b : Int} (hd : decode cc pc = .ok (.invokestatic idx, 3)) (w : MathW X.own idx Lib.Math.max.name Lib.Math.max.code 2 (some .int)) (ha : RI a) (hb : RI b) (hf : 1 ≤ X.fr) (hlo' : (st.map fun v => v.category).sum + 13 ≤ X.lo) (k : PW g cc X (pc + 3) L (vi (max a b) :: st) S kc ks Q) : PW g cc X pc L (vi b :: vi a :: st) S kc ks Q := by
  intro p e s m args below meth c H locs ls cells slots C hP hz hlo hL h1 h2
  refine va_mmax C.1 C.2.1 (C.2.2.1.trans hL.1.symm) C.own (C.word w.1 rfl) (C.word w.2.1 rfl) (C.word w.2.2.1 rfl) (C.word w.2.2.2 rfl) hf hlo' (by show cells ≤ X.mc; omega) (by show slots ≤ X.ms; omega) hd ?_
  have kk := k p e s m args below meth c H locs ls cells slots C hP hz hlo hL h1 h2
  have e : (if Int32.ofInt a < Int32.ofInt b then Int32.ofInt b else Int32.ofInt a) = Int32.ofInt (max a b) := by
    by_cases h : a < b
    · rw [if_pos ((q_ltI ha hb).mpr h), Int.max_eq_right (by omega)]
    · rw [if_neg (mt (q_ltI ha hb).mp h), Int.max_eq_left (by omega)]
  rw [e]
  exact kk
theorem r_mabs {idx : Nat} {a : Int} (hd : decode cc pc = .ok (.invokestatic idx, 3)) (w : MathW X.own idx Lib.Math.abs.name Lib.Math.abs.code 1 (some .int)) (ha : RI a) (hf : 1 ≤ X.fr) (hlo' : (st.map fun v => v.category).sum + 13 ≤ X.lo) (k : PW g cc X (pc + 3) L (vi (if 0 ≤ a then a else -a) :: st) S kc ks Q) : PW g cc X pc L (vi a :: st) S kc ks Q := by
  intro p e s m args below meth c H locs ls cells slots C hP hz hlo hL h1 h2
  refine va_mabs C.1 C.2.1 (C.2.2.1.trans hL.1.symm) C.own (C.word w.1 rfl) (C.word w.2.1 rfl) (C.word w.2.2.1 rfl) (C.word w.2.2.2 rfl) hf hlo' (by show cells ≤ X.mc; omega) (by show slots ≤ X.ms; omega) hd ?_
  have kk := k p e s m args below meth c H locs ls cells slots C hP hz hlo hL h1 h2
  have e : (if (0 : Int32) ≤ Int32.ofInt a then Int32.ofInt a else 0 - Int32.ofInt a) = Int32.ofInt (if 0 ≤ a then a else -a) := by
    rw [show (0 : Int32) = Int32.ofInt 0 from rfl, q_subI]
    by_cases h : 0 ≤ a
    · rw [if_pos ((q_leI (by omega) ha).mpr h), if_pos h]
    · rw [if_neg (mt (q_leI (by omega) ha).mp h), if_neg h, Int.zero_sub]
  rw [e]
  exact kk
theorem r_mabsl {idx : Nat} {a : Int} (hd : decode cc pc = .ok (.invokestatic idx, 3)) (w : MathW X.own idx Lib.MathLoose.abs_long.x Lib.MathLoose.abs_long.code 2 (some .long)) (ha : RJ a) (hf : 1 ≤ X.fr) (hlo' : (st.map fun v => v.category).sum + 13 ≤ X.lo) (k : PW g cc X (pc + 3) L (vl (if 0 < a then a else -a) :: st) S kc ks Q) : PW g cc X pc L (vl a :: st) S kc ks Q := by
  intro p e s m args below meth c H locs ls cells slots C hP hz hlo hL h1 h2
  refine va_mabs_long C.1 C.2.1 (C.2.2.1.trans hL.1.symm) C.own (C.word w.1 rfl) (C.word w.2.1 rfl) (C.word w.2.2.1 rfl) (C.word w.2.2.2 rfl) hf hlo' (by show cells ≤ X.mc; omega) (by show slots ≤ X.ms; omega) hd ?_
  have kk := k p e s m args below meth c H locs ls cells slots C hP hz hlo hL h1 h2
  have e : (if (0 : Int64) < Int64.ofInt a then Int64.ofInt a else - Int64.ofInt a) = Int64.ofInt (if 0 < a then a else -a) := by
    rw [show (0 : Int64) = Int64.ofInt 0 from rfl, q_negJ]
    by_cases h : 0 < a
    · rw [if_pos ((q_ltJ (by omega) ha).mpr h), if_pos h]
    · rw [if_neg (mt (q_ltJ (by omega) ha).mp h), if_neg h]
  rw [e]
  exact kk
/-- the law's script -/
theorem r_sld {b n : Nat} {xs : Nat → Int32} {i : Int} (hX : va_X b n xs g.K g.K.heap) (hb : b < g.b) (hd : decode cc pc = .ok (.iaload, 1)) (h0 : 0 ≤ i) (hi : i < n) (hn : n < 2147483648) (k : PW g cc X (pc + 1) L (.int (xs i.toNat) :: st) S kc ks Q) : PW g cc X pc L (vi i :: .ref b :: st) S kc ks Q := by
  intro p e s m args below meth c H locs ls cells slots C hP hz hlo hL h1 h2
  obtain ⟨hin, hcl⟩ := q_ix h0 hi hn
  have kk := k p e s m args below meth c H locs ls cells slots C hP hz hlo hL h1 h2
  refine va_sld (A := gA g) (H0 := s.heap) C.1 C.2.1 ((hX.moved C.warm.alike).kept (C.2.2.2.2.2.2.2.2.2.2.2 b hb)) (Nat.lt_of_lt_of_le hb C.2.2.2.2.2.2.2.2.2.2.1) (Nat.not_le.mpr hb) ⟨hz, fun q g1 g2 => ?_, hlo⟩ hin hd ?_
  · rw [hP.2.2.1 q (Nat.not_le.mp g2)]
    exact (C.2.2.2.2.2.2.2.2.2.2.2 q (Nat.not_le.mp g2)).symm
  · rw [hcl]
    exact kk
theorem r_slen {b n : Nat} {xs : Nat → Int32} (hX : va_X b n xs g.K g.K.heap) (hb : b < g.b) (hd : decode cc pc = .ok (.arraylength, 1)) (hn : n < 2147483648) (k : PW g cc X (pc + 1) L (vi (n : Int) :: st) S kc ks Q) : PW g cc X pc L (.ref b :: st) S kc ks Q := by
  intro p e s m args below meth c H locs ls cells slots C hP hz hlo hL h1 h2
  have kk := k p e s m args below meth c H locs ls cells slots C hP hz hlo hL h1 h2
  refine va_slen (A := gA g) (H0 := s.heap) C.1 C.2.1 ((hX.moved C.warm.alike).kept (C.2.2.2.2.2.2.2.2.2.2.2 b hb)) (Nat.lt_of_lt_of_le hb C.2.2.2.2.2.2.2.2.2.2.1) (Nat.not_le.mpr hb) ⟨hz, fun q g1 g2 => ?_, hlo⟩ hd ?_
  · rw [hP.2.2.1 q (Nat.not_le.mp g2)]
    exact (C.2.2.2.2.2.2.2.2.2.2.2 q (Nat.not_le.mp g2)).symm
  · exact kk
theorem r_tableIn {dflt lo hi : Int} {offs : Array Int} {len : Nat} {z off : Int} (tgt : Nat) (hd : decode cc pc = .ok (.tableswitch dflt lo hi offs, len)) (hz : RI z) (h1 : lo ≤ z) (h2 : z ≤ hi) (ho : offs[(z - lo).toNat]? = some off) (ht : (pc : Int) + off = (tgt : Int)) (k : PW g cc X tgt L st S kc ks Q) : PW g cc X pc L (vi z :: st) S kc ks Q := by
  intro p e_ s m args below meth c H locs ls cells slots C hP hz' hlo hL g1 g2
  have e : (Int32.ofInt z).toInt = z := q_tI hz.1 hz.2
  exact lv_tableIn C.1 C.2.1 hd (by rw [e]; omega) (by rw [e]; omega) (by rw [e]; exact ho) ht (k p e_ s m args below meth c H locs ls cells slots C hP hz' hlo hL g1 g2)
theorem r_tableOut {dflt lo hi : Int} {offs : Array Int} {len : Nat} {z : Int} (tgt : Nat) (hd : decode cc pc = .ok (.tableswitch dflt lo hi offs, len)) (hz : RI z) (h1 : z < lo ∨ hi < z) (ht : (pc : Int) + dflt = (tgt : Int)) (k : PW g cc X tgt L st S kc ks Q) : PW g cc X pc L (vi z :: st) S kc ks Q := by
  intro p e_ s m args below meth c H locs ls cells slots C hP hz' hlo hL g1 g2
  have e : (Int32.ofInt z).toInt = z := q_tI hz.1 hz.2
  exact lv_tableOut C.1 C.2.1 hd (by rw [e]; exact h1) ht (k p e_ s m args below meth c H locs ls cells slots C hP hz' hlo hL g1 g2)
theorem r_lookup {dflt : Int} {ps : Array (Int × Int)} {len : Nat} {z off : Int} (tgt : Nat) (hd : decode cc pc = .ok (.lookupswitch dflt ps, len)) (hz : RI z) (hp : (ps.toList.zip (ps.toList.drop 1)).all (fun (a, next) => a.1 < next.1) = true) (ho : Op.lookupswitch.offset ps.toList dflt z = off) (ht : (pc : Int) + off = (tgt : Int)) (k : PW g cc X tgt L st S kc ks Q) : PW g cc X pc L (vi z :: st) S kc ks Q := by
  intro p e_ s m args below meth c H locs ls cells slots C hP hz' hlo hL g1 g2
  have e : (Int32.ofInt z).toInt = z := q_tI hz.1 hz.2
  exact lv_lookup C.1 C.2.1 hd hp (by rw [e]; exact ho) ht (k p e_ s m args below meth c H locs ls cells slots C hP hz' hlo hL g1 g2)
end PROWS5

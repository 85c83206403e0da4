def CpW (own : String) (idx : Nat) : Prop := Cond.methodLink own idx arraycopyName ∈ lw_tbl ∧ Cond.native arraycopyName ∈ lw_tbl ∧ Cond.static arraycopyName ∈ lw_tbl ∧ Cond.initialized "java/lang/System" ∈ lw_tbl
theorem arrV_cong {c : ClassId} {n : Nat} {f h : Nat → Value} (e : ∀ j, j < n → f j = h j) : arrV c n f = arrV c n h := by
  unfold arrV
  congr 1
  exact congrArg (fun F : Fin n → Value => Array.ofFn F) (funext fun j => e j.val j.isLt)
theorem va_cpy0 {α : Type} (f h : Nat → α) {n j : Nat} (hj : j < n) : va_cpy f h 0 0 n j = f j := by
  unfold va_cpy
  rw [if_pos ⟨Nat.zero_le _, by omega⟩]
  congr 1
  omega
section PROWS6
variable {g : GT} {cc : ByteArray} {X : MI} {pc : Nat} {L : List (Nat × Option Value)} {st : List Value} {S : PS} {kc ks : Nat} {Q : PO → PS → Prop}
theorem r_copyI {q0 q1 N idx : Nat} {f h : Int → Int} (hd : decode cc pc = .ok (.invokestatic idx, 3)) (w : CpW X.own idx) (hq0 : S.1 q0 = some (cI N f)) (hq1 : S.1 q1 = some (cI N h)) (hN : N < 100000) (hf : 1 ≤ X.fr) (hlo' : (st.map fun v => v.category).sum + (nativeFrameWords "java/lang/System" "arraycopy" 5 + 11) ≤ X.lo) (k : PW g cc X (pc + 3) L st (ps_put S q1 (cI N f)) kc ks Q) : PW g cc X pc L (vi (N : Int) :: vi 0 :: .ref q1 :: vi 0 :: .ref q0 :: st) S kc ks Q := by
  intro p e s m args below meth c H locs ls cells slots C hP hz hlo hL h1 h2 T hT Xs
  obtain ⟨-, c0, v1, v2, v3⟩ := hP.2.2.2 q0 _ hq0
  obtain ⟨hb, c1, w1, w2, w3⟩ := hP.2.2.2 q1 _ hq1
  obtain ⟨q1', q2⟩ := q_cl (N := N) (by omega)
  have z1 : ¬ Int32.ofInt 0 < 0 := by decide
  have z2 : (Int32.ofInt 0).toNatClampNeg = 0 := by decide
  have z3 : (Int32.ofInt 0).toInt = 0 := by decide
  have q3 : (Int32.ofInt (N : Int)).toInt = N := q_tI (by omega) (by omega)
  obtain ⟨-, k0, hk0, cm0, hkk0⟩ := ((C.arr v1 v2).2 0 _ rfl).1 N (fun j => .int (Int32.ofInt (f j)))
  obtain ⟨-, k1, hk1, cm1, hkk1⟩ := ((C.arr w1 w2).2 0 _ rfl).1 N (fun j => .int (Int32.ofInt (h j)))
  obtain ⟨vm', X', step⟩ := Xs.arraycopy C.1 C.own (C.word w.1 rfl) (C.word w.2.1 rfl) (C.word w.2.2.1 rfl) (C.word w.2.2.2 rfl) (src := q0) (dst := q1) (cs := vp_cell c0 (vpA (N, .inl f))) (cd := vp_cell c1 (vpA (N, .inl h))) (srcPos := Int32.ofInt 0) (destPos := Int32.ofInt 0) (n := Int32.ofInt (N : Int)) (by rw [hT]; exact v3) (by rw [hT]; exact w3)
    (fun _ h => by cases h) (fun _ h => by cases h) (fun h => by cases h) (fun h => by cases h) hk0 hk1 hkk0 hkk1 (by simp [refKind, tyOf]) z1 z1 q1'
    (by rw [z3, q3]; show ¬ _ > ((arrV c0 N (fun j => .int (Int32.ofInt (f j)))).slots.size : Int); rw [arrV_size]; omega)
    (by rw [z3, q3]; show ¬ _ > ((arrV c1 N (fun j => .int (Int32.ofInt (h j)))).slots.size : Int); rw [arrV_size]; omega)
    (fun vm₁ _ i hi => by
      rw [q2] at hi
      have e : (vp_cell c0 (vpA (N, .inl f))).slots.getD ((Int32.ofInt 0).toNatClampNeg + i) .null = .int (Int32.ofInt (f i)) := by
        show (arrV c0 N (fun j => .int (Int32.ofInt (f j)))).slots.getD _ _ = _
        rw [z2, Nat.zero_add, Array.getD_eq_getD_getElem?, arrV_read _ _ (by omega)]
        rfl
      rw [e]
      exact ⟨rfl, trivial⟩)
    (g := F0 m pc ls (vi (N : Int) :: vi 0 :: .ref q1 :: vi 0 :: .ref q0 :: st)) rfl (hL.1.trans C.2.2.1.symm) (rest := st) rfl (by rw [C.2.1]; exact hd) hf (by show 2 * 0 + _ + _ ≤ X.lo; omega)
  have e1 : copied (vp_cell c0 (vpA (N, .inl f))) (vp_cell c1 (vpA (N, .inl h))) (Int32.ofInt 0) (Int32.ofInt 0) (Int32.ofInt (N : Int)) = vp_cell c1 (vpA (N, .inl f)) := by
    have e2 : (Int32.ofInt 0).toNatClampNeg + (Int32.ofInt (N : Int)).toNatClampNeg ≤ N := by rw [z2, q2]; omega
    refine (va_copied (fun z => z) c0 c1 (fun j : Nat => .int (Int32.ofInt (f j))) (fun j : Nat => .int (Int32.ofInt (h j))) e2).trans ?_
    rw [z2, q2]
    exact arrV_cong (fun j hj => va_cpy0 _ _ hj)
  rw [e1] at X' step
  have hl : q1 < H.size := (Array.getElem?_eq_some_iff.mp w3).1
  have hheap : ((T.setVm vm').setCell q1 (vp_cell c1 (vpA (N, .inl f)))).heap = H.setIfInBounds q1 (vp_cell c1 (vpA (N, .inl f))) := by rw [← hT]; rfl
  have oq : ∀ x : Nat, x ≠ q1 → (H.setIfInBounds q1 (vp_cell c1 (vpA (N, .inl f))))[x]? = H[x]? := fun x hx => by simp [Array.getElem?_setIfInBounds, Ne.symm hx]
  obtain ⟨t, a1, b1⟩ := k p e s m args below meth c _ _ ls cells slots C (hP.put hq1 (by simp) oq ⟨c1, w1, w2, by simp [Array.getElem?_setIfInBounds, hl]⟩) (by simpa using hz) (locs_app hlo (fun l hl => by
      obtain ⟨z, -, hz⟩ := List.mem_map.mp hl
      rw [← hz]
      exact hb)) hL h1 h2 _ hheap X'
  exact ⟨t, step t a1, b1⟩
theorem r_copyJ {q0 q1 N idx : Nat} {f h : Int → Int} (hd : decode cc pc = .ok (.invokestatic idx, 3)) (w : CpW X.own idx) (hq0 : S.1 q0 = some (cJ N f)) (hq1 : S.1 q1 = some (cJ N h)) (hN : N < 100000) (hf : 1 ≤ X.fr) (hlo' : (st.map fun v => v.category).sum + (nativeFrameWords "java/lang/System" "arraycopy" 5 + 11) ≤ X.lo) (k : PW g cc X (pc + 3) L st (ps_put S q1 (cJ N f)) kc ks Q) : PW g cc X pc L (vi (N : Int) :: vi 0 :: .ref q1 :: vi 0 :: .ref q0 :: st) S kc ks Q := by
  intro p e s m args below meth c H locs ls cells slots C hP hz hlo hL h1 h2 T hT Xs
  obtain ⟨-, c0, v1, v2, v3⟩ := hP.2.2.2 q0 _ hq0
  obtain ⟨hb, c1, w1, w2, w3⟩ := hP.2.2.2 q1 _ hq1
  obtain ⟨q1', q2⟩ := q_cl (N := N) (by omega)
  have z1 : ¬ Int32.ofInt 0 < 0 := by decide
  have z2 : (Int32.ofInt 0).toNatClampNeg = 0 := by decide
  have z3 : (Int32.ofInt 0).toInt = 0 := by decide
  have q3 : (Int32.ofInt (N : Int)).toInt = N := q_tI (by omega) (by omega)
  obtain ⟨-, k0, hk0, cm0, hkk0⟩ := ((C.arr v1 v2).2 0 _ rfl).1 N (fun j => .long (Int64.ofInt (f j)))
  obtain ⟨-, k1, hk1, cm1, hkk1⟩ := ((C.arr w1 w2).2 0 _ rfl).1 N (fun j => .long (Int64.ofInt (h j)))
  obtain ⟨vm', X', step⟩ := Xs.arraycopy C.1 C.own (C.word w.1 rfl) (C.word w.2.1 rfl) (C.word w.2.2.1 rfl) (C.word w.2.2.2 rfl) (src := q0) (dst := q1) (cs := vp_cell c0 (vpA (N, .inr (.inl f)))) (cd := vp_cell c1 (vpA (N, .inr (.inl h)))) (srcPos := Int32.ofInt 0) (destPos := Int32.ofInt 0) (n := Int32.ofInt (N : Int)) (by rw [hT]; exact v3) (by rw [hT]; exact w3)
    (fun _ h => by cases h) (fun _ h => by cases h) (fun h => by cases h) (fun h => by cases h) hk0 hk1 hkk0 hkk1 (by simp [refKind, tyOf]) z1 z1 q1'
    (by rw [z3, q3]; show ¬ _ > ((arrV c0 N (fun j => .long (Int64.ofInt (f j)))).slots.size : Int); rw [arrV_size]; omega)
    (by rw [z3, q3]; show ¬ _ > ((arrV c1 N (fun j => .long (Int64.ofInt (h j)))).slots.size : Int); rw [arrV_size]; omega)
    (fun vm₁ _ i hi => by
      rw [q2] at hi
      have e : (vp_cell c0 (vpA (N, .inr (.inl f)))).slots.getD ((Int32.ofInt 0).toNatClampNeg + i) .null = .long (Int64.ofInt (f i)) := by
        show (arrV c0 N (fun j => .long (Int64.ofInt (f j)))).slots.getD _ _ = _
        rw [z2, Nat.zero_add, Array.getD_eq_getD_getElem?, arrV_read _ _ (by omega)]
        rfl
      rw [e]
      exact ⟨rfl, trivial⟩)
    (g := F0 m pc ls (vi (N : Int) :: vi 0 :: .ref q1 :: vi 0 :: .ref q0 :: st)) rfl (hL.1.trans C.2.2.1.symm) (rest := st) rfl (by rw [C.2.1]; exact hd) hf (by show 2 * 0 + _ + _ ≤ X.lo; omega)
  have e1 : copied (vp_cell c0 (vpA (N, .inr (.inl f)))) (vp_cell c1 (vpA (N, .inr (.inl h)))) (Int32.ofInt 0) (Int32.ofInt 0) (Int32.ofInt (N : Int)) = vp_cell c1 (vpA (N, .inr (.inl f))) := by
    have e2 : (Int32.ofInt 0).toNatClampNeg + (Int32.ofInt (N : Int)).toNatClampNeg ≤ N := by rw [z2, q2]; omega
    refine (va_copied (fun z => z) c0 c1 (fun j : Nat => .long (Int64.ofInt (f j))) (fun j : Nat => .long (Int64.ofInt (h j))) e2).trans ?_
    rw [z2, q2]
    exact arrV_cong (fun j hj => va_cpy0 _ _ hj)
  rw [e1] at X' step
  have hl : q1 < H.size := (Array.getElem?_eq_some_iff.mp w3).1
  have hheap : ((T.setVm vm').setCell q1 (vp_cell c1 (vpA (N, .inr (.inl f))))).heap = H.setIfInBounds q1 (vp_cell c1 (vpA (N, .inr (.inl f)))) := by rw [← hT]; rfl
  have oq : ∀ x : Nat, x ≠ q1 → (H.setIfInBounds q1 (vp_cell c1 (vpA (N, .inr (.inl f)))))[x]? = H[x]? := fun x hx => by simp [Array.getElem?_setIfInBounds, Ne.symm hx]
  obtain ⟨t, a1, b1⟩ := k p e s m args below meth c _ _ ls cells slots C (hP.put hq1 (by simp) oq ⟨c1, w1, w2, by simp [Array.getElem?_setIfInBounds, hl]⟩) (by simpa using hz) (locs_app hlo (fun l hl => by
      obtain ⟨z, -, hz⟩ := List.mem_map.mp hl
      rw [← hz]
      exact hb)) hL h1 h2 _ hheap X'
  exact ⟨t, step t a1, b1⟩
theorem r_copyR {q0 q1 N idx : Nat} {f h : Int → Option Nat} {t ci NF : Nat} {Cn : String} {T0 : u_T} (hd : decode cc pc = .ok (.invokestatic idx, 3)) (w : CpW X.own idx) (hq0 : S.1 q0 = some (cR t N f)) (hq1 : S.1 q1 = some (cR t N h)) (hN : N < 100000) (hel : ∀ i : Nat, i < N → ∀ y : Nat, f i = some y → ∃ fs, S.1 y = some (cO ci fs)) (ht : tyOf t = .object Cn) (hcl : vwCl[ci]? = some (Cn, T0, NF)) (hf : 1 ≤ X.fr) (hlo' : (st.map fun v => v.category).sum + (nativeFrameWords "java/lang/System" "arraycopy" 5 + 11) ≤ X.lo) (k : PW g cc X (pc + 3) L st (ps_put S q1 (cR t N f)) kc ks Q) : PW g cc X pc L (vi (N : Int) :: vi 0 :: .ref q1 :: vi 0 :: .ref q0 :: st) S kc ks Q := by
  intro p e s m args below meth c H locs ls cells slots C hP hz hlo hL h1 h2 T hT Xs
  obtain ⟨-, c0, v1, v2, v3⟩ := hP.2.2.2 q0 _ hq0
  obtain ⟨hb, c1, w1, w2, w3⟩ := hP.2.2.2 q1 _ hq1
  obtain ⟨q1', q2⟩ := q_cl (N := N) (by omega)
  have z1 : ¬ Int32.ofInt 0 < 0 := by decide
  have z2 : (Int32.ofInt 0).toNatClampNeg = 0 := by decide
  have z3 : (Int32.ofInt 0).toInt = 0 := by decide
  have q3 : (Int32.ofInt (N : Int)).toInt = N := q_tI (by omega) (by omega)
  have b1 : ArrOfT g.K c1 (tyOf t) := w1
  have b2 : va_RA g.K c1 (tyOf t) := w2
  have b3 : ArrOfT g.K c0 (tyOf t) := v1
  have b4 : va_RA g.K c0 (tyOf t) := v2
  rw [ht] at b1 b2 b3 b4
  obtain ⟨-, k0, hk0, cm0, hkk0⟩ := ((C.arr b3 b4).2 0 _ rfl).1 N (fun j => va_rf (f j))
  obtain ⟨-, k1, hk1, cm1, hkk1⟩ := ((C.arr b1 b2).2 0 _ rfl).1 N (fun j => va_rf (h j))
  obtain ⟨vm', X', step⟩ := Xs.arraycopy C.1 C.own (C.word w.1 rfl) (C.word w.2.1 rfl) (C.word w.2.2.1 rfl) (C.word w.2.2.2 rfl) (src := q0) (dst := q1) (cs := vp_cell c0 (vpA (N, .inr (.inr f)))) (cd := vp_cell c1 (vpA (N, .inr (.inr h)))) (srcPos := Int32.ofInt 0) (destPos := Int32.ofInt 0) (n := Int32.ofInt (N : Int)) (by rw [hT]; exact v3) (by rw [hT]; exact w3)
    (fun _ h => by cases h) (fun _ h => by cases h) (fun h => by cases h) (fun h => by cases h) hk0 hk1 hkk0 hkk1 rfl z1 z1 q1'
    (by rw [z3, q3]; show ¬ _ > ((arrV c0 N (fun j => va_rf (f j))).slots.size : Int); rw [arrV_size]; omega)
    (by rw [z3, q3]; show ¬ _ > ((arrV c1 N (fun j => va_rf (h j))).slots.size : Int); rw [arrV_size]; omega)
    (fun vm₁ hal i hi => by
      rw [q2] at hi
      have e : (vp_cell c0 (vpA (N, .inr (.inr f)))).slots.getD ((Int32.ofInt 0).toNatClampNeg + i) .null = va_rf (f (i : Int)) := by
        show (arrV c0 N (fun j => va_rf (f j))).slots.getD _ _ = _
        rw [z2, Nat.zero_add, Array.getD_eq_getD_getElem?, arrV_read _ _ (by omega)]
        rfl
      rw [e]
      cases hy : f (i : Int) with
      | none => exact ⟨rfl, trivial⟩
      | some y =>
        obtain ⟨fs, hfs⟩ := hel i hi y hy
        obtain ⟨cellV, g1, g2, g3⟩ := va_recv C.va (va_P1 (q := y) (e := .inr (ci, fs)) (hP.2.2.2 y _ hfs).2) (q0 := 0) hcl rfl
        obtain ⟨kA, comp, r1, r2, r3, -⟩ := ((C.arr b1 b2).2 0 _ rfl).2
        cases hk1.symm.trans r1
        cases hkk1.symm.trans r2
        obtain ⟨kC, hkC, -⟩ := Vm.findClass_spec g3
        obtain ⟨kE, hkE, -⟩ := Vm.findClass_spec r3
        obtain ⟨kC', hkC', -⟩ := hal.2.2 _ _ hkC
        obtain ⟨kE', hkE', -⟩ := hal.2.2 _ _ hkE
        have hcls := (C.va.1 ci _ hcl).2
        have hcomp : cm1 = cellV.cls := Option.some.inj (r3.symm.trans g3)
        have hcomp2 : cm1 = g.2.2.1 ci := Option.some.inj (r3.symm.trans hcls.1)
        refine ⟨rfl, cellV, (show T.heap[y]? = some cellV by rw [hT]; exact g1), (fun q h => by rw [h] at g2; cases g2), ⟨kC', hkC'⟩, ⟨kE', hkE'⟩, ?_⟩
        show vm₁.assignable _ _ = true
        rw [hal.assignable, ← hcomp, hcomp2]
        exact va_assign hcls)
    (g := F0 m pc ls (vi (N : Int) :: vi 0 :: .ref q1 :: vi 0 :: .ref q0 :: st)) rfl (hL.1.trans C.2.2.1.symm) (rest := st) rfl (by rw [C.2.1]; exact hd) hf (by show 2 * 0 + _ + _ ≤ X.lo; omega)
  have e1 : copied (vp_cell c0 (vpA (N, .inr (.inr f)))) (vp_cell c1 (vpA (N, .inr (.inr h)))) (Int32.ofInt 0) (Int32.ofInt 0) (Int32.ofInt (N : Int)) = vp_cell c1 (vpA (N, .inr (.inr f))) := by
    have e2 : (Int32.ofInt 0).toNatClampNeg + (Int32.ofInt (N : Int)).toNatClampNeg ≤ N := by rw [z2, q2]; omega
    refine (va_copied (fun z => z) c0 c1 (fun j : Nat => va_rf (f j)) (fun j : Nat => va_rf (h j)) e2).trans ?_
    rw [z2, q2]
    exact arrV_cong (fun j hj => va_cpy0 _ _ hj)
  rw [e1] at X' step
  have hl : q1 < H.size := (Array.getElem?_eq_some_iff.mp w3).1
  have hheap : ((T.setVm vm').setCell q1 (vp_cell c1 (vpA (N, .inr (.inr f))))).heap = H.setIfInBounds q1 (vp_cell c1 (vpA (N, .inr (.inr f)))) := by rw [← hT]; rfl
  have oq : ∀ x : Nat, x ≠ q1 → (H.setIfInBounds q1 (vp_cell c1 (vpA (N, .inr (.inr f)))))[x]? = H[x]? := fun x hx => by simp [Array.getElem?_setIfInBounds, Ne.symm hx]
  obtain ⟨t, a1, b1⟩ := k p e s m args below meth c _ _ ls cells slots C (hP.put hq1 (by simp) oq ⟨c1, w1, w2, by simp [Array.getElem?_setIfInBounds, hl]⟩) (by simpa using hz) (locs_app hlo (fun l hl => by
      obtain ⟨z, -, hz⟩ := List.mem_map.mp hl
      rw [← hz]
      exact hb)) hL h1 h2 _ hheap X'
  exact ⟨t, step t a1, b1⟩
end PROWS6

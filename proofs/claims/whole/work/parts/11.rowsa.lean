theorem q_tJ2 {z : Int} (h : RJ z) : (Int64.ofInt z).toInt = z := q_tJ h.1 h.2
theorem q_cmp_eq {a b : Int} (ha : RJ a) (hb : RJ b) : lg_cmp (Int64.ofInt a) (Int64.ofInt b) = 0 ↔ a = b := by
  unfold lg_cmp
  simp only [gt_iff_lt, Int64.lt_iff_toInt_lt, ← Int64.toInt_inj, q_tJ2 ha, q_tJ2 hb]
  repeat' split
  all_goals (constructor <;> intro hh <;> first | omega | decide | exact absurd hh (by decide))
theorem q_cmp_ne {a b : Int} (ha : RJ a) (hb : RJ b) : ¬ lg_cmp (Int64.ofInt a) (Int64.ofInt b) = 0 ↔ a ≠ b := by
  unfold lg_cmp
  simp only [gt_iff_lt, Int64.lt_iff_toInt_lt, ← Int64.toInt_inj, q_tJ2 ha, q_tJ2 hb]
  repeat' split
  all_goals (constructor <;> intro hh <;> first | omega | decide | exact absurd hh (by decide))
theorem q_cmp_lt {a b : Int} (ha : RJ a) (hb : RJ b) : lg_cmp (Int64.ofInt a) (Int64.ofInt b) < 0 ↔ a < b := by
  unfold lg_cmp
  simp only [gt_iff_lt, Int64.lt_iff_toInt_lt, ← Int64.toInt_inj, q_tJ2 ha, q_tJ2 hb]
  repeat' split
  all_goals (constructor <;> intro hh <;> first | omega | decide | exact absurd hh (by decide))
theorem q_cmp_ge {a b : Int} (ha : RJ a) (hb : RJ b) : 0 ≤ lg_cmp (Int64.ofInt a) (Int64.ofInt b) ↔ b ≤ a := by
  unfold lg_cmp
  simp only [gt_iff_lt, Int64.lt_iff_toInt_lt, ← Int64.toInt_inj, q_tJ2 ha, q_tJ2 hb]
  repeat' split
  all_goals (constructor <;> intro hh <;> first | omega | decide | exact absurd hh (by decide))
theorem q_cmp_gt {a b : Int} (ha : RJ a) (hb : RJ b) : 0 < lg_cmp (Int64.ofInt a) (Int64.ofInt b) ↔ b < a := by
  unfold lg_cmp
  simp only [gt_iff_lt, Int64.lt_iff_toInt_lt, ← Int64.toInt_inj, q_tJ2 ha, q_tJ2 hb]
  repeat' split
  all_goals (constructor <;> intro hh <;> first | omega | decide | exact absurd hh (by decide))
theorem q_cmp_le {a b : Int} (ha : RJ a) (hb : RJ b) : lg_cmp (Int64.ofInt a) (Int64.ofInt b) ≤ 0 ↔ a ≤ b := by
  unfold lg_cmp
  simp only [gt_iff_lt, Int64.lt_iff_toInt_lt, ← Int64.toInt_inj, q_tJ2 ha, q_tJ2 hb]
  repeat' split
  all_goals (constructor <;> intro hh <;> first | omega | decide | exact absurd hh (by decide))
section PROWS1
variable {g : GT} {cc : ByteArray} {X : MI} {pc : Nat} {L : List (Nat × Option Value)} {st : List Value} {S : PS} {kc ks : Nat} {Q : PO → PS → Prop}
theorem r_iconst {n : Int} (hd : decode cc pc = .ok (.iconst n, 1)) (k : PW g cc X (pc + 1) L (vi n :: st) S kc ks Q) : PW g cc X pc L (st) S kc ks Q :=
  fun p e s m args below meth c H locs ls cells slots C hP hz hlo hL h1 h2 => lv_iconst C.1 C.2.1 hd rfl (k p e s m args below meth c H locs ls cells slots C hP hz hlo hL h1 h2)
theorem r_bipush {n : Int} (hd : decode cc pc = .ok (.bipush n, 2)) (hv : (Int8.ofInt n).toInt32 = Int32.ofInt n) (k : PW g cc X (pc + 2) L (vi n :: st) S kc ks Q) : PW g cc X pc L (st) S kc ks Q :=
  fun p e s m args below meth c H locs ls cells slots C hP hz hlo hL h1 h2 => lv_bipush C.1 C.2.1 hd hv (k p e s m args below meth c H locs ls cells slots C hP hz hlo hL h1 h2)
theorem r_sipush {n : Int} (hd : decode cc pc = .ok (.sipush n, 3)) (hv : (Int16.ofInt n).toInt32 = Int32.ofInt n) (k : PW g cc X (pc + 3) L (vi n :: st) S kc ks Q) : PW g cc X pc L (st) S kc ks Q :=
  fun p e s m args below meth c H locs ls cells slots C hP hz hlo hL h1 h2 => lv_sipush C.1 C.2.1 hd hv (k p e s m args below meth c H locs ls cells slots C hP hz hlo hL h1 h2)
theorem r_lconst {n : Fin 2} {z : Int} (hd : decode cc pc = .ok (.lconst n, 1)) (hv : Int64.ofNat (n : Nat) = Int64.ofInt z) (k : PW g cc X (pc + 1) L (vl z :: st) S kc ks Q) : PW g cc X pc L (st) S kc ks Q :=
  fun p e s m args below meth c H locs ls cells slots C hP hz hlo hL h1 h2 => lv_lconst C.1 C.2.1 hd hv (k p e s m args below meth c H locs ls cells slots C hP hz hlo hL h1 h2)
theorem r_iload_n {k0 : Fin 4} {i : Nat} {x : Int32} (hd : decode cc pc = .ok (.iload_n k0, 1)) (hi : (k0 : Nat) = i) (hv : lk L i = some (.int x)) (k : PW g cc X (pc + 1) L (.int x :: st) S kc ks Q) : PW g cc X pc L (st) S kc ks Q :=
  fun p e s m args below meth c H locs ls cells slots C hP hz hlo hL h1 h2 => lv_iload_n C.1 C.2.1 hd hi (lk_get hL hv) (k p e s m args below meth c H locs ls cells slots C hP hz hlo hL h1 h2)
theorem r_iload {i : Nat} {x : Int32} (hd : decode cc pc = .ok (.iload i, 2)) (hv : lk L i = some (.int x)) (k : PW g cc X (pc + 2) L (.int x :: st) S kc ks Q) : PW g cc X pc L (st) S kc ks Q :=
  fun p e s m args below meth c H locs ls cells slots C hP hz hlo hL h1 h2 => lv_iload C.1 C.2.1 hd (lk_get hL hv) (k p e s m args below meth c H locs ls cells slots C hP hz hlo hL h1 h2)
theorem r_istore_n {k0 : Fin 4} {i : Nat} {x : Int32} (hd : decode cc pc = .ok (.istore_n k0, 1)) (hi : (k0 : Nat) = i) (hn : nl L i = true) (hlt : i < X.nL) (k : PW g cc X (pc + 1) ((i, some (.int x)) :: L) st S kc ks Q) : PW g cc X pc L (.int x :: st) S kc ks Q :=
  fun p e s m args below meth c H locs ls cells slots C hP hz hlo hL h1 h2 => lv_istore_n C.1 C.2.1 hd hi (lk_store1 hL) hlt rfl (fun ls' hl' => k p e s m args below meth c H locs ls' cells slots C hP hz hlo (hL.store1 hn hl') h1 h2)
theorem r_istore {i : Nat} {x : Int32} (hd : decode cc pc = .ok (.istore i, 2)) (hn : nl L i = true) (hlt : i < X.nL) (k : PW g cc X (pc + 2) ((i, some (.int x)) :: L) st S kc ks Q) : PW g cc X pc L (.int x :: st) S kc ks Q :=
  fun p e s m args below meth c H locs ls cells slots C hP hz hlo hL h1 h2 => lv_istore C.1 C.2.1 hd (lk_store1 hL) hlt rfl (fun ls' hl' => k p e s m args below meth c H locs ls' cells slots C hP hz hlo (hL.store1 hn hl') h1 h2)
theorem r_lload_n {k0 : Fin 4} {i : Nat} {x : Int64} (hd : decode cc pc = .ok (.lload_n k0, 1)) (hi : (k0 : Nat) = i) (hv : lk L i = some (.long x)) (k : PW g cc X (pc + 1) L (.long x :: st) S kc ks Q) : PW g cc X pc L (st) S kc ks Q :=
  fun p e s m args below meth c H locs ls cells slots C hP hz hlo hL h1 h2 => lv_lload_n C.1 C.2.1 hd hi (lk_get hL hv) (k p e s m args below meth c H locs ls cells slots C hP hz hlo hL h1 h2)
theorem r_lload {i : Nat} {x : Int64} (hd : decode cc pc = .ok (.lload i, 2)) (hv : lk L i = some (.long x)) (k : PW g cc X (pc + 2) L (.long x :: st) S kc ks Q) : PW g cc X pc L (st) S kc ks Q :=
  fun p e s m args below meth c H locs ls cells slots C hP hz hlo hL h1 h2 => lv_lload C.1 C.2.1 hd (lk_get hL hv) (k p e s m args below meth c H locs ls cells slots C hP hz hlo hL h1 h2)
theorem r_lstore_n {k0 : Fin 4} {i : Nat} {x : Int64} (hd : decode cc pc = .ok (.lstore_n k0, 1)) (hi : (k0 : Nat) = i) (hn : nl L i = true) (hlt : i + 1 < X.nL) (k : PW g cc X (pc + 1) ((i, some (.long x)) :: (i + 1, none) :: L) st S kc ks Q) : PW g cc X pc L (.long x :: st) S kc ks Q :=
  fun p e s m args below meth c H locs ls cells slots C hP hz hlo hL h1 h2 => lv_lstore_n C.1 C.2.1 hd hi (lk_store1 hL) hlt rfl (fun ls' hl' => k p e s m args below meth c H locs ls' cells slots C hP hz hlo (hL.store2 hn hl') h1 h2)
theorem r_lstore {i : Nat} {x : Int64} (hd : decode cc pc = .ok (.lstore i, 2)) (hn : nl L i = true) (hlt : i + 1 < X.nL) (k : PW g cc X (pc + 2) ((i, some (.long x)) :: (i + 1, none) :: L) st S kc ks Q) : PW g cc X pc L (.long x :: st) S kc ks Q :=
  fun p e s m args below meth c H locs ls cells slots C hP hz hlo hL h1 h2 => lv_lstore C.1 C.2.1 hd (lk_store1 hL) hlt rfl (fun ls' hl' => k p e s m args below meth c H locs ls' cells slots C hP hz hlo (hL.store2 hn hl') h1 h2)
theorem r_aload_n {k0 : Fin 4} {i : Nat} {x : Nat} (hd : decode cc pc = .ok (.aload_n k0, 1)) (hi : (k0 : Nat) = i) (hv : lk L i = some (.ref x)) (k : PW g cc X (pc + 1) L (.ref x :: st) S kc ks Q) : PW g cc X pc L (st) S kc ks Q :=
  fun p e s m args below meth c H locs ls cells slots C hP hz hlo hL h1 h2 => lv_aload_n C.1 C.2.1 hd hi (lk_get hL hv) (k p e s m args below meth c H locs ls cells slots C hP hz hlo hL h1 h2)
theorem r_aload {i : Nat} {x : Nat} (hd : decode cc pc = .ok (.aload i, 2)) (hv : lk L i = some (.ref x)) (k : PW g cc X (pc + 2) L (.ref x :: st) S kc ks Q) : PW g cc X pc L (st) S kc ks Q :=
  fun p e s m args below meth c H locs ls cells slots C hP hz hlo hL h1 h2 => lv_aload C.1 C.2.1 hd (lk_get hL hv) (k p e s m args below meth c H locs ls cells slots C hP hz hlo hL h1 h2)
theorem r_astore_n {k0 : Fin 4} {i : Nat} {x : Nat} (hd : decode cc pc = .ok (.astore_n k0, 1)) (hi : (k0 : Nat) = i) (hn : nl L i = true) (hlt : i < X.nL) (k : PW g cc X (pc + 1) ((i, some (.ref x)) :: L) st S kc ks Q) : PW g cc X pc L (.ref x :: st) S kc ks Q :=
  fun p e s m args below meth c H locs ls cells slots C hP hz hlo hL h1 h2 => lv_astore_n C.1 C.2.1 hd hi (lk_store1 hL) hlt rfl (fun ls' hl' => k p e s m args below meth c H locs ls' cells slots C hP hz hlo (hL.store1 hn hl') h1 h2)
theorem r_astore {i : Nat} {x : Nat} (hd : decode cc pc = .ok (.astore i, 2)) (hn : nl L i = true) (hlt : i < X.nL) (k : PW g cc X (pc + 2) ((i, some (.ref x)) :: L) st S kc ks Q) : PW g cc X pc L (.ref x :: st) S kc ks Q :=
  fun p e s m args below meth c H locs ls cells slots C hP hz hlo hL h1 h2 => lv_astore C.1 C.2.1 hd (lk_store1 hL) hlt rfl (fun ls' hl' => k p e s m args below meth c H locs ls' cells slots C hP hz hlo (hL.store1 hn hl') h1 h2)
theorem r_iinc {i : Nat} {n z : Int} (hd : decode cc pc = .ok (.iinc i n, 3)) (hv : lk L i = some (vi z)) (hn : nl L i = true) (k : PW g cc X (pc + 3) ((i, some (vi (z + n))) :: L) st S kc ks Q) : PW g cc X pc L st S kc ks Q := by
  intro p e s m args below meth c H locs ls cells slots C hP hz hlo hL h1 h2
  have hm : (i, vi z) ∈ (List.range X.nL).filterMap (fun j => (lk L j).map (fun v => (j, v))) := List.mem_filterMap.mpr ⟨i, List.mem_range.mpr (lk_lt hL hv), by rw [hv]; rfl⟩
  obtain ⟨k0, hk0⟩ := List.getElem?_of_mem hm
  exact lv_iinc C.1 C.2.1 hd (lk_store1 hL) hk0 (q_addI z n) (lk_lt hL hv) rfl (fun ls' hl' => k p e s m args below meth c H locs ls' cells slots C hP hz hlo (hL.store1 hn hl') h1 h2)
theorem r_iadd {a b : Int} (hd : decode cc pc = .ok (.iadd, 1)) (k : PW g cc X (pc + 1) L (vi (a + b) :: st) S kc ks Q) : PW g cc X pc L (vi b :: vi a :: st) S kc ks Q :=
  fun p e s m args below meth c H locs ls cells slots C hP hz hlo hL h1 h2 => lv_iadd C.1 C.2.1 hd ((q_addI a b).symm ▸ k p e s m args below meth c H locs ls cells slots C hP hz hlo hL h1 h2)
theorem r_isub {a b : Int} (hd : decode cc pc = .ok (.isub, 1)) (k : PW g cc X (pc + 1) L (vi (a - b) :: st) S kc ks Q) : PW g cc X pc L (vi b :: vi a :: st) S kc ks Q :=
  fun p e s m args below meth c H locs ls cells slots C hP hz hlo hL h1 h2 => lv_isub C.1 C.2.1 hd ((q_subI a b).symm ▸ k p e s m args below meth c H locs ls cells slots C hP hz hlo hL h1 h2)
theorem r_imul {a b : Int} (hd : decode cc pc = .ok (.imul, 1)) (k : PW g cc X (pc + 1) L (vi (a * b) :: st) S kc ks Q) : PW g cc X pc L (vi b :: vi a :: st) S kc ks Q :=
  fun p e s m args below meth c H locs ls cells slots C hP hz hlo hL h1 h2 => lv_imul C.1 C.2.1 hd ((q_mulI a b).symm ▸ k p e s m args below meth c H locs ls cells slots C hP hz hlo hL h1 h2)
theorem r_ineg {a : Int} (hd : decode cc pc = .ok (.ineg, 1)) (k : PW g cc X (pc + 1) L (vi (-a) :: st) S kc ks Q) : PW g cc X pc L (vi a :: st) S kc ks Q :=
  fun p e s m args below meth c H locs ls cells slots C hP hz hlo hL h1 h2 => lv_ineg C.1 C.2.1 hd ((q_negI a).symm ▸ k p e s m args below meth c H locs ls cells slots C hP hz hlo hL h1 h2)
theorem r_ladd {a b : Int} (hd : decode cc pc = .ok (.ladd, 1)) (k : PW g cc X (pc + 1) L (vl (a + b) :: st) S kc ks Q) : PW g cc X pc L (vl b :: vl a :: st) S kc ks Q :=
  fun p e s m args below meth c H locs ls cells slots C hP hz hlo hL h1 h2 => lv_ladd C.1 C.2.1 hd ((q_addJ a b).symm ▸ k p e s m args below meth c H locs ls cells slots C hP hz hlo hL h1 h2)
theorem r_lsub {a b : Int} (hd : decode cc pc = .ok (.lsub, 1)) (k : PW g cc X (pc + 1) L (vl (a - b) :: st) S kc ks Q) : PW g cc X pc L (vl b :: vl a :: st) S kc ks Q :=
  fun p e s m args below meth c H locs ls cells slots C hP hz hlo hL h1 h2 => lv_lsub C.1 C.2.1 hd ((q_subJ a b).symm ▸ k p e s m args below meth c H locs ls cells slots C hP hz hlo hL h1 h2)
theorem r_lmul {a b : Int} (hd : decode cc pc = .ok (.lmul, 1)) (k : PW g cc X (pc + 1) L (vl (a * b) :: st) S kc ks Q) : PW g cc X pc L (vl b :: vl a :: st) S kc ks Q :=
  fun p e s m args below meth c H locs ls cells slots C hP hz hlo hL h1 h2 => lv_lmul C.1 C.2.1 hd ((q_mulJ a b).symm ▸ k p e s m args below meth c H locs ls cells slots C hP hz hlo hL h1 h2)
theorem r_lneg {a : Int} (hd : decode cc pc = .ok (.lneg, 1)) (k : PW g cc X (pc + 1) L (vl (-a) :: st) S kc ks Q) : PW g cc X pc L (vl a :: st) S kc ks Q :=
  fun p e s m args below meth c H locs ls cells slots C hP hz hlo hL h1 h2 => lv_lneg C.1 C.2.1 hd ((q_negJ a).symm ▸ k p e s m args below meth c H locs ls cells slots C hP hz hlo hL h1 h2)
theorem r_idiv {a b : Int} (hd : decode cc pc = .ok (.idiv, 1)) (ha : RI a) (hb : RI b) (hne : b ≠ 0) (k : PW g cc X (pc + 1) L (vi (Int.tdiv a b) :: st) S kc ks Q) : PW g cc X pc L (vi b :: vi a :: st) S kc ks Q :=
  fun p e s m args below meth c H locs ls cells slots C hP hz hlo hL h1 h2 => lv_idiv C.1 C.2.1 hd (by rw [show (0 : Int32) = Int32.ofInt 0 from rfl, q_eqI hb (by omega)]; exact hne) ((q_divI ha hb).symm ▸ k p e s m args below meth c H locs ls cells slots C hP hz hlo hL h1 h2)
theorem r_irem {a b : Int} (hd : decode cc pc = .ok (.irem, 1)) (ha : RI a) (hb : RI b) (hne : b ≠ 0) (k : PW g cc X (pc + 1) L (vi (Int.tmod a b) :: st) S kc ks Q) : PW g cc X pc L (vi b :: vi a :: st) S kc ks Q :=
  fun p e s m args below meth c H locs ls cells slots C hP hz hlo hL h1 h2 => lv_irem C.1 C.2.1 hd (by rw [show (0 : Int32) = Int32.ofInt 0 from rfl, q_eqI hb (by omega)]; exact hne) ((q_remI ha hb).symm ▸ k p e s m args below meth c H locs ls cells slots C hP hz hlo hL h1 h2)
theorem r_ldiv {a b : Int} (hd : decode cc pc = .ok (.ldiv, 1)) (ha : RJ a) (hb : RJ b) (hne : b ≠ 0) (k : PW g cc X (pc + 1) L (vl (Int.tdiv a b) :: st) S kc ks Q) : PW g cc X pc L (vl b :: vl a :: st) S kc ks Q :=
  fun p e s m args below meth c H locs ls cells slots C hP hz hlo hL h1 h2 => lv_ldiv C.1 C.2.1 hd (by rw [show (0 : Int64) = Int64.ofInt 0 from rfl, q_eqJ hb (by omega)]; exact hne) ((q_divJ ha hb).symm ▸ k p e s m args below meth c H locs ls cells slots C hP hz hlo hL h1 h2)
theorem r_lrem {a b : Int} (hd : decode cc pc = .ok (.lrem, 1)) (ha : RJ a) (hb : RJ b) (hne : b ≠ 0) (k : PW g cc X (pc + 1) L (vl (Int.tmod a b) :: st) S kc ks Q) : PW g cc X pc L (vl b :: vl a :: st) S kc ks Q :=
  fun p e s m args below meth c H locs ls cells slots C hP hz hlo hL h1 h2 => lv_lrem C.1 C.2.1 hd (by rw [show (0 : Int64) = Int64.ofInt 0 from rfl, q_eqJ hb (by omega)]; exact hne) ((q_remJ ha hb).symm ▸ k p e s m args below meth c H locs ls cells slots C hP hz hlo hL h1 h2)
theorem r_idivN {a b : Int} (hd : decode cc pc = .ok (.idiv, 1)) (ha : RI a) (hb : RI b) (h0 : 0 ≤ a) (hp : 0 < b) (k : PW g cc X (pc + 1) L (vi (a / b) :: st) S kc ks Q) : PW g cc X pc L (vi b :: vi a :: st) S kc ks Q :=
  r_idiv hd ha hb (by omega) (by rw [Int.tdiv_eq_ediv_of_nonneg h0]; exact k)
theorem r_iremN {a b : Int} (hd : decode cc pc = .ok (.irem, 1)) (ha : RI a) (hb : RI b) (h0 : 0 ≤ a) (hp : 0 < b) (k : PW g cc X (pc + 1) L (vi (a % b) :: st) S kc ks Q) : PW g cc X pc L (vi b :: vi a :: st) S kc ks Q :=
  r_irem hd ha hb (by omega) (by rw [Int.tmod_eq_emod_of_nonneg h0]; exact k)
theorem r_ldivN {a b : Int} (hd : decode cc pc = .ok (.ldiv, 1)) (ha : RJ a) (hb : RJ b) (h0 : 0 ≤ a) (hp : 0 < b) (k : PW g cc X (pc + 1) L (vl (a / b) :: st) S kc ks Q) : PW g cc X pc L (vl b :: vl a :: st) S kc ks Q :=
  r_ldiv hd ha hb (by omega) (by rw [Int.tdiv_eq_ediv_of_nonneg h0]; exact k)
theorem r_lremN {a b : Int} (hd : decode cc pc = .ok (.lrem, 1)) (ha : RJ a) (hb : RJ b) (h0 : 0 ≤ a) (hp : 0 < b) (k : PW g cc X (pc + 1) L (vl (a % b) :: st) S kc ks Q) : PW g cc X pc L (vl b :: vl a :: st) S kc ks Q :=
  r_lrem hd ha hb (by omega) (by rw [Int.tmod_eq_emod_of_nonneg h0]; exact k)
theorem r_iand {x y : Int32} (z : Int) (hd : decode cc pc = .ok (.iand, 1)) (hv : x &&& y = Int32.ofInt z) (k : PW g cc X (pc + 1) L (vi z :: st) S kc ks Q) : PW g cc X pc L (.int y :: .int x :: st) S kc ks Q :=
  fun p e s m args below meth c H locs ls cells slots C hP hz hlo hL h1 h2 => lv_iand C.1 C.2.1 hd (hv ▸ k p e s m args below meth c H locs ls cells slots C hP hz hlo hL h1 h2)
theorem r_ior {x y : Int32} (z : Int) (hd : decode cc pc = .ok (.ior, 1)) (hv : x ||| y = Int32.ofInt z) (k : PW g cc X (pc + 1) L (vi z :: st) S kc ks Q) : PW g cc X pc L (.int y :: .int x :: st) S kc ks Q :=
  fun p e s m args below meth c H locs ls cells slots C hP hz hlo hL h1 h2 => lv_ior C.1 C.2.1 hd (hv ▸ k p e s m args below meth c H locs ls cells slots C hP hz hlo hL h1 h2)
theorem r_ixor {x y : Int32} (z : Int) (hd : decode cc pc = .ok (.ixor, 1)) (hv : x ^^^ y = Int32.ofInt z) (k : PW g cc X (pc + 1) L (vi z :: st) S kc ks Q) : PW g cc X pc L (.int y :: .int x :: st) S kc ks Q :=
  fun p e s m args below meth c H locs ls cells slots C hP hz hlo hL h1 h2 => lv_ixor C.1 C.2.1 hd (hv ▸ k p e s m args below meth c H locs ls cells slots C hP hz hlo hL h1 h2)
theorem r_land {x y : Int64} (z : Int) (hd : decode cc pc = .ok (.land, 1)) (hv : x &&& y = Int64.ofInt z) (k : PW g cc X (pc + 1) L (vl z :: st) S kc ks Q) : PW g cc X pc L (.long y :: .long x :: st) S kc ks Q :=
  fun p e s m args below meth c H locs ls cells slots C hP hz hlo hL h1 h2 => lv_land C.1 C.2.1 hd (hv ▸ k p e s m args below meth c H locs ls cells slots C hP hz hlo hL h1 h2)
theorem r_lxor {x y : Int64} (z : Int) (hd : decode cc pc = .ok (.lxor, 1)) (hv : x ^^^ y = Int64.ofInt z) (k : PW g cc X (pc + 1) L (vl z :: st) S kc ks Q) : PW g cc X pc L (.long y :: .long x :: st) S kc ks Q :=
  fun p e s m args below meth c H locs ls cells slots C hP hz hlo hL h1 h2 => lv_lxor C.1 C.2.1 hd (hv ▸ k p e s m args below meth c H locs ls cells slots C hP hz hlo hL h1 h2)
theorem r_ishl {x y : Int32} (z : Int) (hd : decode cc pc = .ok (.ishl, 1)) (hv : x <<< (y &&& 31) = Int32.ofInt z) (k : PW g cc X (pc + 1) L (vi z :: st) S kc ks Q) : PW g cc X pc L (.int y :: .int x :: st) S kc ks Q :=
  fun p e s m args below meth c H locs ls cells slots C hP hz hlo hL h1 h2 => lv_ishl C.1 C.2.1 hd (hv ▸ k p e s m args below meth c H locs ls cells slots C hP hz hlo hL h1 h2)
theorem r_ishr {x y : Int32} (z : Int) (hd : decode cc pc = .ok (.ishr, 1)) (hv : x >>> (y &&& 31) = Int32.ofInt z) (k : PW g cc X (pc + 1) L (vi z :: st) S kc ks Q) : PW g cc X pc L (.int y :: .int x :: st) S kc ks Q :=
  fun p e s m args below meth c H locs ls cells slots C hP hz hlo hL h1 h2 => lv_ishr C.1 C.2.1 hd (hv ▸ k p e s m args below meth c H locs ls cells slots C hP hz hlo hL h1 h2)
theorem r_lshl {x : Int64} {y : Int32} (z : Int) (hd : decode cc pc = .ok (.lshl, 1)) (hv : x <<< (y.toInt64 &&& 63) = Int64.ofInt z) (k : PW g cc X (pc + 1) L (vl z :: st) S kc ks Q) : PW g cc X pc L (.int y :: .long x :: st) S kc ks Q :=
  fun p e s m args below meth c H locs ls cells slots C hP hz hlo hL h1 h2 => lv_lshl C.1 C.2.1 hd hv (k p e s m args below meth c H locs ls cells slots C hP hz hlo hL h1 h2)
theorem r_lshr {x : Int64} {y : Int32} (z : Int) (hd : decode cc pc = .ok (.lshr, 1)) (hv : x >>> (y.toInt64 &&& 63) = Int64.ofInt z) (k : PW g cc X (pc + 1) L (vl z :: st) S kc ks Q) : PW g cc X pc L (.int y :: .long x :: st) S kc ks Q :=
  fun p e s m args below meth c H locs ls cells slots C hP hz hlo hL h1 h2 => lv_lshr C.1 C.2.1 hd hv (k p e s m args below meth c H locs ls cells slots C hP hz hlo hL h1 h2)
theorem r_i2l {a : Int} (hd : decode cc pc = .ok (.i2l, 1)) (ha : RI a) (k : PW g cc X (pc + 1) L (vl a :: st) S kc ks Q) : PW g cc X pc L (vi a :: st) S kc ks Q :=
  fun p e s m args below meth c H locs ls cells slots C hP hz hlo hL h1 h2 => lv_i2l C.1 C.2.1 hd (q_i2l ha) (k p e s m args below meth c H locs ls cells slots C hP hz hlo hL h1 h2)
theorem r_l2i {a : Int} (hd : decode cc pc = .ok (.l2i, 1)) (k : PW g cc X (pc + 1) L (vi a :: st) S kc ks Q) : PW g cc X pc L (vl a :: st) S kc ks Q :=
  fun p e s m args below meth c H locs ls cells slots C hP hz hlo hL h1 h2 => lv_l2i C.1 C.2.1 hd (q_l2i a) (k p e s m args below meth c H locs ls cells slots C hP hz hlo hL h1 h2)
theorem r_i2b {x : Int32} (z : Int) (hd : decode cc pc = .ok (.i2b, 1)) (hv : x.toInt8.toInt32 = Int32.ofInt z) (k : PW g cc X (pc + 1) L (vi z :: st) S kc ks Q) : PW g cc X pc L (.int x :: st) S kc ks Q :=
  fun p e s m args below meth c H locs ls cells slots C hP hz hlo hL h1 h2 => lv_i2b C.1 C.2.1 hd hv (k p e s m args below meth c H locs ls cells slots C hP hz hlo hL h1 h2)
theorem r_i2c {x : Int32} (z : Int) (hd : decode cc pc = .ok (.i2c, 1)) (hv : (x.toUInt32 % 65536).toInt32 = Int32.ofInt z) (k : PW g cc X (pc + 1) L (vi z :: st) S kc ks Q) : PW g cc X pc L (.int x :: st) S kc ks Q :=
  fun p e s m args below meth c H locs ls cells slots C hP hz hlo hL h1 h2 => lv_i2c C.1 C.2.1 hd hv (k p e s m args below meth c H locs ls cells slots C hP hz hlo hL h1 h2)
theorem r_dup {v : Value} (hd : decode cc pc = .ok (.dup, 1)) (hc : v.category = 1) (k : PW g cc X (pc + 1) L (v :: v :: st) S kc ks Q) : PW g cc X pc L (v :: st) S kc ks Q :=
  fun p e s m args below meth c H locs ls cells slots C hP hz hlo hL h1 h2 => lv_dup C.1 C.2.1 hd hc (k p e s m args below meth c H locs ls cells slots C hP hz hlo hL h1 h2)
theorem r_pop {v : Value} (hd : decode cc pc = .ok (.pop, 1)) (hc : v.category = 1) (k : PW g cc X (pc + 1) L (st) S kc ks Q) : PW g cc X pc L (v :: st) S kc ks Q :=
  fun p e s m args below meth c H locs ls cells slots C hP hz hlo hL h1 h2 => lv_pop C.1 C.2.1 hd hc (k p e s m args below meth c H locs ls cells slots C hP hz hlo hL h1 h2)
theorem r_dup_x1 {v w : Value} (hd : decode cc pc = .ok (.dup_x1, 1)) (hc : v.category = 1) (hc2 : w.category = 1) (k : PW g cc X (pc + 1) L (v :: w :: v :: st) S kc ks Q) : PW g cc X pc L (v :: w :: st) S kc ks Q :=
  fun p e s m args below meth c H locs ls cells slots C hP hz hlo hL h1 h2 => lv_dup_x1 C.1 C.2.1 hd hc hc2 (k p e s m args below meth c H locs ls cells slots C hP hz hlo hL h1 h2)
theorem r_dup2_11 {v w : Value} (hd : decode cc pc = .ok (.dup2, 1)) (hc : v.category = 1) (hc2 : w.category = 1) (k : PW g cc X (pc + 1) L (v :: w :: v :: w :: st) S kc ks Q) : PW g cc X pc L (v :: w :: st) S kc ks Q :=
  fun p e s m args below meth c H locs ls cells slots C hP hz hlo hL h1 h2 => lv_dup2_11 C.1 C.2.1 hd hc hc2 (k p e s m args below meth c H locs ls cells slots C hP hz hlo hL h1 h2)
theorem r_dup2_2 {v : Value} (hd : decode cc pc = .ok (.dup2, 1)) (hc : v.category = 2) (k : PW g cc X (pc + 1) L (v :: v :: st) S kc ks Q) : PW g cc X pc L (v :: st) S kc ks Q :=
  fun p e s m args below meth c H locs ls cells slots C hP hz hlo hL h1 h2 => lv_dup2_2 C.1 C.2.1 hd hc (k p e s m args below meth c H locs ls cells slots C hP hz hlo hL h1 h2)
theorem r_goto {off : Int} (tgt : Nat) (hd : decode cc pc = .ok (.goto off, 3)) (ht : (pc : Int) + off = (tgt : Int)) (k : PW g cc X tgt L st S kc ks Q) : PW g cc X pc L st S kc ks Q :=
  fun p e s m args below meth c H locs ls cells slots C hP hz hlo hL h1 h2 => lv_goto C.1 C.2.1 hd ht (k p e s m args below meth c H locs ls cells slots C hP hz hlo hL h1 h2)
theorem r_icmp_eq {a b : Int} {off : Int} (tgt : Nat) (hd : decode cc pc = .ok (.if_icmp .eq off, 3)) (ht : (pc : Int) + off = (tgt : Int)) (ha : RI a) (hb : RI b) (kt : a = b → PW g cc X tgt L st S kc ks Q) (kf : a ≠ b → PW g cc X (pc + 3) L st S kc ks Q) : PW g cc X pc L (vi b :: vi a :: st) S kc ks Q := by
  intro p e s m args below meth c H locs ls cells slots C hP hz hlo hL h1 h2
  have kt := fun h => kt h p e s m args below meth c H locs ls cells slots C hP hz hlo hL h1 h2
  have kf := fun h => kf h p e s m args below meth c H locs ls cells slots C hP hz hlo hL h1 h2
  exact lv_icmp_eq C.1 C.2.1 hd ht (fun h => kt ((q_eqI ha hb).mp h)) (fun h => kf (mt (q_eqI ha hb).mpr h))
theorem r_if_eq {a : Int} {off : Int} (tgt : Nat) (hd : decode cc pc = .ok (.ifCond .eq off, 3)) (ht : (pc : Int) + off = (tgt : Int)) (ha : RI a) (kt : a = 0 → PW g cc X tgt L st S kc ks Q) (kf : a ≠ 0 → PW g cc X (pc + 3) L st S kc ks Q) : PW g cc X pc L (vi a :: st) S kc ks Q := by
  intro p e s m args below meth c H locs ls cells slots C hP hz hlo hL h1 h2
  have kt := fun h => kt h p e s m args below meth c H locs ls cells slots C hP hz hlo hL h1 h2
  have kf := fun h => kf h p e s m args below meth c H locs ls cells slots C hP hz hlo hL h1 h2
  have hb : RI 0 := by omega
  exact lv_if_eq C.1 C.2.1 hd ht (fun h => kt ((q_eqI ha hb).mp h)) (fun h => kf (mt (q_eqI ha hb).mpr h))
theorem r_lcmp_eq {a b : Int} {off : Int} (tgt : Nat) (hd : decode cc pc = .ok (.lcmp, 1)) (hd2 : decode cc (pc + 1) = .ok (.ifCond .eq off, 3)) (ht : ((pc + 1 : Nat) : Int) + off = (tgt : Int)) (ha : RJ a) (hb : RJ b) (kt : a = b → PW g cc X tgt L st S kc ks Q) (kf : a ≠ b → PW g cc X (pc + 4) L st S kc ks Q) : PW g cc X pc L (vl b :: vl a :: st) S kc ks Q := by
  intro p e s m args below meth c H locs ls cells slots C hP hz hlo hL h1 h2
  have kt := fun h => kt h p e s m args below meth c H locs ls cells slots C hP hz hlo hL h1 h2
  have kf := fun h => kf h p e s m args below meth c H locs ls cells slots C hP hz hlo hL h1 h2
  have e := q_cmp_eq ha hb
  refine W.lcmp C.1 C.2.1 hd (lv_if_eq C.1 C.2.1 hd2 ht (fun h => kt (e.mp h)) (fun h => kf ?_))
  have h3 := mt e.mpr h
  omega
theorem r_icmp_ne {a b : Int} {off : Int} (tgt : Nat) (hd : decode cc pc = .ok (.if_icmp .ne off, 3)) (ht : (pc : Int) + off = (tgt : Int)) (ha : RI a) (hb : RI b) (kt : a ≠ b → PW g cc X tgt L st S kc ks Q) (kf : a = b → PW g cc X (pc + 3) L st S kc ks Q) : PW g cc X pc L (vi b :: vi a :: st) S kc ks Q := by
  intro p e s m args below meth c H locs ls cells slots C hP hz hlo hL h1 h2
  have kt := fun h => kt h p e s m args below meth c H locs ls cells slots C hP hz hlo hL h1 h2
  have kf := fun h => kf h p e s m args below meth c H locs ls cells slots C hP hz hlo hL h1 h2
  exact lv_icmp_ne C.1 C.2.1 hd ht (fun h => kt ((not_congr (q_eqI ha hb)).mp h)) (fun h => kf ((q_eqI ha hb).mp h))
theorem r_if_ne {a : Int} {off : Int} (tgt : Nat) (hd : decode cc pc = .ok (.ifCond .ne off, 3)) (ht : (pc : Int) + off = (tgt : Int)) (ha : RI a) (kt : a ≠ 0 → PW g cc X tgt L st S kc ks Q) (kf : a = 0 → PW g cc X (pc + 3) L st S kc ks Q) : PW g cc X pc L (vi a :: st) S kc ks Q := by
  intro p e s m args below meth c H locs ls cells slots C hP hz hlo hL h1 h2
  have kt := fun h => kt h p e s m args below meth c H locs ls cells slots C hP hz hlo hL h1 h2
  have kf := fun h => kf h p e s m args below meth c H locs ls cells slots C hP hz hlo hL h1 h2
  have hb : RI 0 := by omega
  exact lv_if_ne C.1 C.2.1 hd ht (fun h => kt ((not_congr (q_eqI ha hb)).mp h)) (fun h => kf ((q_eqI ha hb).mp h))
theorem r_lcmp_ne {a b : Int} {off : Int} (tgt : Nat) (hd : decode cc pc = .ok (.lcmp, 1)) (hd2 : decode cc (pc + 1) = .ok (.ifCond .ne off, 3)) (ht : ((pc + 1 : Nat) : Int) + off = (tgt : Int)) (ha : RJ a) (hb : RJ b) (kt : a ≠ b → PW g cc X tgt L st S kc ks Q) (kf : a = b → PW g cc X (pc + 4) L st S kc ks Q) : PW g cc X pc L (vl b :: vl a :: st) S kc ks Q := by
  intro p e s m args below meth c H locs ls cells slots C hP hz hlo hL h1 h2
  have kt := fun h => kt h p e s m args below meth c H locs ls cells slots C hP hz hlo hL h1 h2
  have kf := fun h => kf h p e s m args below meth c H locs ls cells slots C hP hz hlo hL h1 h2
  have e := q_cmp_ne ha hb
  refine W.lcmp C.1 C.2.1 hd (lv_if_ne C.1 C.2.1 hd2 ht (fun h => kt (e.mp h)) (fun h => kf ?_))
  exact (q_cmp_eq ha hb).mp h
theorem r_icmp_lt {a b : Int} {off : Int} (tgt : Nat) (hd : decode cc pc = .ok (.if_icmp .lt off, 3)) (ht : (pc : Int) + off = (tgt : Int)) (ha : RI a) (hb : RI b) (kt : a < b → PW g cc X tgt L st S kc ks Q) (kf : b ≤ a → PW g cc X (pc + 3) L st S kc ks Q) : PW g cc X pc L (vi b :: vi a :: st) S kc ks Q := by
  intro p e s m args below meth c H locs ls cells slots C hP hz hlo hL h1 h2
  have kt := fun h => kt h p e s m args below meth c H locs ls cells slots C hP hz hlo hL h1 h2
  have kf := fun h => kf h p e s m args below meth c H locs ls cells slots C hP hz hlo hL h1 h2
  exact lv_icmp_lt C.1 C.2.1 hd ht (fun h => kt ((q_ltI ha hb).mp h)) (fun h => kf (Int.not_lt.mp (mt (q_ltI ha hb).mpr h)))
theorem r_if_lt {a : Int} {off : Int} (tgt : Nat) (hd : decode cc pc = .ok (.ifCond .lt off, 3)) (ht : (pc : Int) + off = (tgt : Int)) (ha : RI a) (kt : a < 0 → PW g cc X tgt L st S kc ks Q) (kf : 0 ≤ a → PW g cc X (pc + 3) L st S kc ks Q) : PW g cc X pc L (vi a :: st) S kc ks Q := by
  intro p e s m args below meth c H locs ls cells slots C hP hz hlo hL h1 h2
  have kt := fun h => kt h p e s m args below meth c H locs ls cells slots C hP hz hlo hL h1 h2
  have kf := fun h => kf h p e s m args below meth c H locs ls cells slots C hP hz hlo hL h1 h2
  have hb : RI 0 := by omega
  exact lv_if_lt C.1 C.2.1 hd ht (fun h => kt ((q_ltI ha hb).mp h)) (fun h => kf (Int.not_lt.mp (mt (q_ltI ha hb).mpr h)))
theorem r_lcmp_lt {a b : Int} {off : Int} (tgt : Nat) (hd : decode cc pc = .ok (.lcmp, 1)) (hd2 : decode cc (pc + 1) = .ok (.ifCond .lt off, 3)) (ht : ((pc + 1 : Nat) : Int) + off = (tgt : Int)) (ha : RJ a) (hb : RJ b) (kt : a < b → PW g cc X tgt L st S kc ks Q) (kf : b ≤ a → PW g cc X (pc + 4) L st S kc ks Q) : PW g cc X pc L (vl b :: vl a :: st) S kc ks Q := by
  intro p e s m args below meth c H locs ls cells slots C hP hz hlo hL h1 h2
  have kt := fun h => kt h p e s m args below meth c H locs ls cells slots C hP hz hlo hL h1 h2
  have kf := fun h => kf h p e s m args below meth c H locs ls cells slots C hP hz hlo hL h1 h2
  have e := q_cmp_lt ha hb
  refine W.lcmp C.1 C.2.1 hd (lv_if_lt C.1 C.2.1 hd2 ht (fun h => kt (e.mp h)) (fun h => kf ?_))
  have h3 := mt e.mpr h
  omega
theorem r_icmp_ge {a b : Int} {off : Int} (tgt : Nat) (hd : decode cc pc = .ok (.if_icmp .ge off, 3)) (ht : (pc : Int) + off = (tgt : Int)) (ha : RI a) (hb : RI b) (kt : b ≤ a → PW g cc X tgt L st S kc ks Q) (kf : a < b → PW g cc X (pc + 3) L st S kc ks Q) : PW g cc X pc L (vi b :: vi a :: st) S kc ks Q := by
  intro p e s m args below meth c H locs ls cells slots C hP hz hlo hL h1 h2
  have kt := fun h => kt h p e s m args below meth c H locs ls cells slots C hP hz hlo hL h1 h2
  have kf := fun h => kf h p e s m args below meth c H locs ls cells slots C hP hz hlo hL h1 h2
  exact lv_icmp_ge C.1 C.2.1 hd ht (fun h => kt ((q_leI hb ha).mp h)) (fun h => kf (Int.not_le.mp (mt (q_leI hb ha).mpr h)))
theorem r_if_ge {a : Int} {off : Int} (tgt : Nat) (hd : decode cc pc = .ok (.ifCond .ge off, 3)) (ht : (pc : Int) + off = (tgt : Int)) (ha : RI a) (kt : 0 ≤ a → PW g cc X tgt L st S kc ks Q) (kf : a < 0 → PW g cc X (pc + 3) L st S kc ks Q) : PW g cc X pc L (vi a :: st) S kc ks Q := by
  intro p e s m args below meth c H locs ls cells slots C hP hz hlo hL h1 h2
  have kt := fun h => kt h p e s m args below meth c H locs ls cells slots C hP hz hlo hL h1 h2
  have kf := fun h => kf h p e s m args below meth c H locs ls cells slots C hP hz hlo hL h1 h2
  have hb : RI 0 := by omega
  exact lv_if_ge C.1 C.2.1 hd ht (fun h => kt ((q_leI hb ha).mp h)) (fun h => kf (Int.not_le.mp (mt (q_leI hb ha).mpr h)))
theorem r_lcmp_ge {a b : Int} {off : Int} (tgt : Nat) (hd : decode cc pc = .ok (.lcmp, 1)) (hd2 : decode cc (pc + 1) = .ok (.ifCond .ge off, 3)) (ht : ((pc + 1 : Nat) : Int) + off = (tgt : Int)) (ha : RJ a) (hb : RJ b) (kt : b ≤ a → PW g cc X tgt L st S kc ks Q) (kf : a < b → PW g cc X (pc + 4) L st S kc ks Q) : PW g cc X pc L (vl b :: vl a :: st) S kc ks Q := by
  intro p e s m args below meth c H locs ls cells slots C hP hz hlo hL h1 h2
  have kt := fun h => kt h p e s m args below meth c H locs ls cells slots C hP hz hlo hL h1 h2
  have kf := fun h => kf h p e s m args below meth c H locs ls cells slots C hP hz hlo hL h1 h2
  have e := q_cmp_ge ha hb
  refine W.lcmp C.1 C.2.1 hd (lv_if_ge C.1 C.2.1 hd2 ht (fun h => kt (e.mp h)) (fun h => kf ?_))
  have h3 := mt e.mpr h
  omega
theorem r_icmp_gt {a b : Int} {off : Int} (tgt : Nat) (hd : decode cc pc = .ok (.if_icmp .gt off, 3)) (ht : (pc : Int) + off = (tgt : Int)) (ha : RI a) (hb : RI b) (kt : b < a → PW g cc X tgt L st S kc ks Q) (kf : a ≤ b → PW g cc X (pc + 3) L st S kc ks Q) : PW g cc X pc L (vi b :: vi a :: st) S kc ks Q := by
  intro p e s m args below meth c H locs ls cells slots C hP hz hlo hL h1 h2
  have kt := fun h => kt h p e s m args below meth c H locs ls cells slots C hP hz hlo hL h1 h2
  have kf := fun h => kf h p e s m args below meth c H locs ls cells slots C hP hz hlo hL h1 h2
  exact lv_icmp_gt C.1 C.2.1 hd ht (fun h => kt ((q_ltI hb ha).mp h)) (fun h => kf (Int.not_lt.mp (mt (q_ltI hb ha).mpr h)))
theorem r_if_gt {a : Int} {off : Int} (tgt : Nat) (hd : decode cc pc = .ok (.ifCond .gt off, 3)) (ht : (pc : Int) + off = (tgt : Int)) (ha : RI a) (kt : 0 < a → PW g cc X tgt L st S kc ks Q) (kf : a ≤ 0 → PW g cc X (pc + 3) L st S kc ks Q) : PW g cc X pc L (vi a :: st) S kc ks Q := by
  intro p e s m args below meth c H locs ls cells slots C hP hz hlo hL h1 h2
  have kt := fun h => kt h p e s m args below meth c H locs ls cells slots C hP hz hlo hL h1 h2
  have kf := fun h => kf h p e s m args below meth c H locs ls cells slots C hP hz hlo hL h1 h2
  have hb : RI 0 := by omega
  exact lv_if_gt C.1 C.2.1 hd ht (fun h => kt ((q_ltI hb ha).mp h)) (fun h => kf (Int.not_lt.mp (mt (q_ltI hb ha).mpr h)))
theorem r_lcmp_gt {a b : Int} {off : Int} (tgt : Nat) (hd : decode cc pc = .ok (.lcmp, 1)) (hd2 : decode cc (pc + 1) = .ok (.ifCond .gt off, 3)) (ht : ((pc + 1 : Nat) : Int) + off = (tgt : Int)) (ha : RJ a) (hb : RJ b) (kt : b < a → PW g cc X tgt L st S kc ks Q) (kf : a ≤ b → PW g cc X (pc + 4) L st S kc ks Q) : PW g cc X pc L (vl b :: vl a :: st) S kc ks Q := by
  intro p e s m args below meth c H locs ls cells slots C hP hz hlo hL h1 h2
  have kt := fun h => kt h p e s m args below meth c H locs ls cells slots C hP hz hlo hL h1 h2
  have kf := fun h => kf h p e s m args below meth c H locs ls cells slots C hP hz hlo hL h1 h2
  have e := q_cmp_gt ha hb
  refine W.lcmp C.1 C.2.1 hd (lv_if_gt C.1 C.2.1 hd2 ht (fun h => kt (e.mp h)) (fun h => kf ?_))
  have h3 := mt e.mpr h
  omega
theorem r_icmp_le {a b : Int} {off : Int} (tgt : Nat) (hd : decode cc pc = .ok (.if_icmp .le off, 3)) (ht : (pc : Int) + off = (tgt : Int)) (ha : RI a) (hb : RI b) (kt : a ≤ b → PW g cc X tgt L st S kc ks Q) (kf : b < a → PW g cc X (pc + 3) L st S kc ks Q) : PW g cc X pc L (vi b :: vi a :: st) S kc ks Q := by
  intro p e s m args below meth c H locs ls cells slots C hP hz hlo hL h1 h2
  have kt := fun h => kt h p e s m args below meth c H locs ls cells slots C hP hz hlo hL h1 h2
  have kf := fun h => kf h p e s m args below meth c H locs ls cells slots C hP hz hlo hL h1 h2
  exact lv_icmp_le C.1 C.2.1 hd ht (fun h => kt ((q_leI ha hb).mp h)) (fun h => kf (Int.not_le.mp (mt (q_leI ha hb).mpr h)))
theorem r_if_le {a : Int} {off : Int} (tgt : Nat) (hd : decode cc pc = .ok (.ifCond .le off, 3)) (ht : (pc : Int) + off = (tgt : Int)) (ha : RI a) (kt : a ≤ 0 → PW g cc X tgt L st S kc ks Q) (kf : 0 < a → PW g cc X (pc + 3) L st S kc ks Q) : PW g cc X pc L (vi a :: st) S kc ks Q := by
  intro p e s m args below meth c H locs ls cells slots C hP hz hlo hL h1 h2
  have kt := fun h => kt h p e s m args below meth c H locs ls cells slots C hP hz hlo hL h1 h2
  have kf := fun h => kf h p e s m args below meth c H locs ls cells slots C hP hz hlo hL h1 h2
  have hb : RI 0 := by omega
  exact lv_if_le C.1 C.2.1 hd ht (fun h => kt ((q_leI ha hb).mp h)) (fun h => kf (Int.not_le.mp (mt (q_leI ha hb).mpr h)))
theorem r_lcmp_le {a b : Int} {off : Int} (tgt : Nat) (hd : decode cc pc = .ok (.lcmp, 1)) (hd2 : decode cc (pc + 1) = .ok (.ifCond .le off, 3)) (ht : ((pc + 1 : Nat) : Int) + off = (tgt : Int)) (ha : RJ a) (hb : RJ b) (kt : a ≤ b → PW g cc X tgt L st S kc ks Q) (kf : b < a → PW g cc X (pc + 4) L st S kc ks Q) : PW g cc X pc L (vl b :: vl a :: st) S kc ks Q := by
  intro p e s m args below meth c H locs ls cells slots C hP hz hlo hL h1 h2
  have kt := fun h => kt h p e s m args below meth c H locs ls cells slots C hP hz hlo hL h1 h2
  have kf := fun h => kf h p e s m args below meth c H locs ls cells slots C hP hz hlo hL h1 h2
  have e := q_cmp_le ha hb
  refine W.lcmp C.1 C.2.1 hd (lv_if_le C.1 C.2.1 hd2 ht (fun h => kt (e.mp h)) (fun h => kf ?_))
  have h3 := mt e.mpr h
  omega
end PROWS1

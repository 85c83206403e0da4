/-! THE PURE LAYER: a heap is a function from addresses to cells of whole numbers; PW is the walk of a method's body over it; PC a method's contract over it. -/
theorem q_tI {z : Int} (h1 : -2147483648 ≤ z) (h2 : z < 2147483648) : (Int32.ofInt z).toInt = z := by
  rw [Int32.toInt_ofInt]
  show z.bmod 4294967296 = z
  exact Int.bmod_eq_of_le (by omega) (by omega)
theorem q_tJ {z : Int} (h1 : -9223372036854775808 ≤ z) (h2 : z < 9223372036854775808) : (Int64.ofInt z).toInt = z := by
  rw [Int64.toInt_ofInt]
  show z.bmod 18446744073709551616 = z
  exact Int.bmod_eq_of_le (by omega) (by omega)
abbrev vi (z : Int) : Value := Value.int (Int32.ofInt z)
abbrev vl (z : Int) : Value := Value.long (Int64.ofInt z)
theorem q_addI (a b : Int) : Int32.ofInt a + Int32.ofInt b = Int32.ofInt (a + b) := (Int32.ofInt_add a b).symm
theorem q_subI (a b : Int) : Int32.ofInt a - Int32.ofInt b = Int32.ofInt (a - b) := (Int32.ofInt_sub a b).symm
theorem q_mulI (a b : Int) : Int32.ofInt a * Int32.ofInt b = Int32.ofInt (a * b) := (Int32.ofInt_mul a b).symm
theorem q_negI (a : Int) : - Int32.ofInt a = Int32.ofInt (-a) := (Int32.ofInt_neg a).symm
theorem q_addJ (a b : Int) : Int64.ofInt a + Int64.ofInt b = Int64.ofInt (a + b) := (Int64.ofInt_add a b).symm
theorem q_subJ (a b : Int) : Int64.ofInt a - Int64.ofInt b = Int64.ofInt (a - b) := (Int64.ofInt_sub a b).symm
theorem q_mulJ (a b : Int) : Int64.ofInt a * Int64.ofInt b = Int64.ofInt (a * b) := (Int64.ofInt_mul a b).symm
theorem q_negJ (a : Int) : - Int64.ofInt a = Int64.ofInt (-a) := (Int64.ofInt_neg a).symm
abbrev RI (z : Int) : Prop := -2147483648 ≤ z ∧ z < 2147483648
abbrev RJ (z : Int) : Prop := -9223372036854775808 ≤ z ∧ z < 9223372036854775808
theorem q_ltI {a b : Int} (ha : RI a) (hb : RI b) : Int32.ofInt a < Int32.ofInt b ↔ a < b := by
  rw [Int32.lt_iff_toInt_lt, q_tI ha.1 ha.2, q_tI hb.1 hb.2]
theorem q_leI {a b : Int} (ha : RI a) (hb : RI b) : Int32.ofInt a ≤ Int32.ofInt b ↔ a ≤ b := by
  rw [Int32.le_iff_toInt_le, q_tI ha.1 ha.2, q_tI hb.1 hb.2]
theorem q_eqI {a b : Int} (ha : RI a) (hb : RI b) : Int32.ofInt a = Int32.ofInt b ↔ a = b := by
  rw [← Int32.toInt_inj, q_tI ha.1 ha.2, q_tI hb.1 hb.2]
theorem q_ltJ {a b : Int} (ha : RJ a) (hb : RJ b) : Int64.ofInt a < Int64.ofInt b ↔ a < b := by
  rw [Int64.lt_iff_toInt_lt, q_tJ ha.1 ha.2, q_tJ hb.1 hb.2]
theorem q_eqJ {a b : Int} (ha : RJ a) (hb : RJ b) : Int64.ofInt a = Int64.ofInt b ↔ a = b := by
  rw [← Int64.toInt_inj, q_tJ ha.1 ha.2, q_tJ hb.1 hb.2]
theorem q_i2l {a : Int} (ha : RI a) : (Int32.ofInt a).toInt64 = Int64.ofInt a := by
  apply Int64.toInt_inj.mp
  rw [Int32.toInt_toInt64, q_tI ha.1 ha.2, q_tJ (by omega) (by omega)]
theorem q_l2i (a : Int) : (Int64.ofInt a).toInt32 = Int32.ofInt a := by
  apply Int32.toInt_inj.mp
  rw [Int64.toInt_toInt32, Int64.toInt_ofInt, Int32.toInt_ofInt]
  exact Int.bmod_bmod_of_dvd (by decide)
theorem q_asI (x : Int32) : Int32.ofInt x.toInt = x := Int32.ofInt_toInt x
theorem q_asJ (x : Int64) : Int64.ofInt x.toInt = x := Int64.ofInt_toInt x
theorem q_rI (x : Int32) : RI x.toInt := ⟨Int32.le_toInt x, Int32.toInt_lt x⟩
theorem q_divI {a b : Int} (ha : RI a) (hb : RI b) : Int32.ofInt a / Int32.ofInt b = Int32.ofInt (Int.tdiv a b) := by
  apply Int32.toInt_inj.mp
  rw [Int32.toInt_div, q_tI ha.1 ha.2, q_tI hb.1 hb.2, Int32.toInt_ofInt]
theorem q_remI {a b : Int} (ha : RI a) (hb : RI b) : Int32.ofInt a - Int32.ofInt a / Int32.ofInt b * Int32.ofInt b = Int32.ofInt (Int.tmod a b) := by
  rw [q_divI ha hb, q_mulI, q_subI]
  congr 1
  have := Int.tmod_add_mul_tdiv a b
  have h2 : b * a.tdiv b = a.tdiv b * b := Int.mul_comm _ _
  omega
theorem q_divJ {a b : Int} (ha : RJ a) (hb : RJ b) : Int64.ofInt a / Int64.ofInt b = Int64.ofInt (Int.tdiv a b) := by
  apply Int64.toInt_inj.mp
  rw [Int64.toInt_div, q_tJ ha.1 ha.2, q_tJ hb.1 hb.2, Int64.toInt_ofInt]
theorem q_remJ {a b : Int} (ha : RJ a) (hb : RJ b) : Int64.ofInt a - Int64.ofInt a / Int64.ofInt b * Int64.ofInt b = Int64.ofInt (Int.tmod a b) := by
  rw [q_divJ ha hb, q_mulJ, q_subJ]
  congr 1
  have := Int.tmod_add_mul_tdiv a b
  have h2 : b * a.tdiv b = a.tdiv b * b := Int.mul_comm _ _
  omega
theorem q_ix {i : Int} {n : Nat} (h0 : 0 ≤ i) (h1 : i < n) (hn : n < 2147483648) : vp_in (Int32.ofInt i) n ∧ (Int32.ofInt i).toNatClampNeg = i.toNat := by
  have e : (Int32.ofInt i).toInt = i := q_tI (by omega) (by omega)
  have e2 : (Int32.ofInt i).toNatClampNeg = i.toNat := by
    show (Int32.ofInt i).toInt.toNat = i.toNat
    rw [e]
  refine ⟨vp_in_iff.mpr ⟨by rw [e]; exact h0, by rw [e]; exact h1⟩, e2⟩
/-- cells: an object (number of its class, its fields); an array (its kind, its length, its numbers, or its references) -/
abbrev PE : Type := (Nat × List Value) ⊕ (Nat × Nat × ((Int → Int) ⊕ (Int → Int) ⊕ (Int → Option Nat)))
/-- the cells by their addresses; how many cells the heap has -/
abbrev PS : Type := (Nat → Option PE) × Nat
abbrev GT : Type := Launch × State × va_G
abbrev GT.K (g : GT) : State := g.2.1
abbrev GT.b (g : GT) : Nat := g.2.1.heap.size
abbrev cO (ci : Nat) (fs : List Value) : PE := .inl (ci, fs)
abbrev cI (n : Nat) (f : Int → Int) : PE := .inr (0, n, .inl f)
abbrev cJ (n : Nat) (f : Int → Int) : PE := .inr (1, n, .inr (.inl f))
abbrev cB (n : Nat) (f : Int → Int) : PE := .inr (2, n, .inl f)
abbrev cZ (n : Nat) (f : Int → Int) : PE := .inr (3, n, .inl f)
abbrev cR (t n : Nat) (f : Int → Option Nat) : PE := .inr (t, n, .inr (.inr f))
def tyOf : Nat → FieldType
  | 0 => .int
  | 1 => .long
  | 2 => .byte
  | 3 => .boolean
  | 4 => .object RX0
  | 5 => .object RX7
  | _ => .object RX1
def upI (f : Int → Int) (k : Int) (x : Int) : Int → Int := fun j => if j = k then x else f j
def upR (f : Int → Option Nat) (k : Int) (x : Option Nat) : Int → Option Nat := fun j => if j = k then x else f j
def vpA (e : Nat × ((Int → Int) ⊕ (Int → Int) ⊕ (Int → Option Nat))) : vp_A := match e.2 with
  | .inl f => (e.1, .inl (fun j => Int32.ofInt (f j)))
  | .inr (.inl f) => (e.1, .inr (.inl (fun j => Int64.ofInt (f j))))
  | .inr (.inr f) => (e.1, .inr (.inr (.inr (.inr (fun j => f j)))))
def pat (D : va_G) (K : State) (q : Nat) (e : PE) (H : Heap) : Prop := match e with
  | .inl o => va_at D vwCl (q, .inr o) H
  | .inr a => ∃ cA, ArrOfT K cA (tyOf a.1) ∧ va_RA K cA (tyOf a.1) ∧ H[q]? = some (vp_cell cA (vpA a.2))
theorem pat.kept {D : va_G} {K : State} {q : Nat} {e : PE} {H H1 : Heap} (h : pat D K q e H) (hq : H1[q]? = H[q]?) : pat D K q e H1 := by
  cases e with
  | inl o => exact va_at.kept (q := (q, .inr o)) h hq
  | inr a =>
    obtain ⟨cA, h1, h2, h3⟩ := h
    exact ⟨cA, h1, h2, hq.trans h3⟩
theorem pat.lt {D : va_G} {K : State} {q : Nat} {e : PE} {H : Heap} (h : pat D K q e H) : q < H.size := by
  cases e with
  | inl o => exact va_at.lt (q := (q, .inr o)) h
  | inr a =>
    obtain ⟨cA, h1, h2, h3⟩ := h
    exact (Array.getElem?_eq_some_iff.mp h3).1
def ps_put (S : PS) (q : Nat) (e : PE) : PS := (fun a => if a = q then some e else S.1 a, S.2)
def ps_new (S : PS) (e : PE) : PS := (fun a => if a = S.2 then some e else S.1 a, S.2 + 1)
def PHp (g : GT) (S : PS) (H : Heap) : Prop := H.size = S.2 ∧ g.b ≤ H.size ∧ (∀ q : Nat, q < g.b → H[q]? = g.K.heap[q]?) ∧ ∀ (q : Nat) (e : PE), S.1 q = some e → g.b ≤ q ∧ pat g.2.2 g.K q e H
theorem PHp.put {g : GT} {S : PS} {H H1 : Heap} (h : PHp g S H) {q : Nat} {e0 e : PE} (hq : S.1 q = some e0) (z : H1.size = H.size) (oq : ∀ x : Nat, x ≠ q → H1[x]? = H[x]?) (hp : pat g.2.2 g.K q e H1) : PHp g (ps_put S q e) H1 := by
  obtain ⟨h1, h2, h3, h4⟩ := h
  have hb := (h4 q e0 hq).1
  refine ⟨z.trans h1, by rw [z]; exact h2, fun x hx => ?_, fun x e' hx => ?_⟩
  · rw [oq x (by omega)]
    exact h3 x hx
  · by_cases e1 : x = q
    · subst e1
      have : e = e' := by simpa [ps_put] using hx
      subst this
      exact ⟨hb, hp⟩
    · have : S.1 x = some e' := by simpa [ps_put, e1] using hx
      exact ⟨(h4 x e' this).1, (h4 x e' this).2.kept (oq x e1)⟩
theorem PHp.new {g : GT} {S : PS} {H H1 : Heap} (h : PHp g S H) {e : PE} (z : H1.size = H.size + 1) (oq : ∀ x : Nat, x < H.size → H1[x]? = H[x]?) (hp : pat g.2.2 g.K S.2 e H1) : PHp g (ps_new S e) H1 := by
  obtain ⟨h1, h2, h3, h4⟩ := h
  refine ⟨by rw [z, h1]; rfl, by omega, fun x hx => ?_, fun x e' hx => ?_⟩
  · rw [oq x (by omega)]
    exact h3 x hx
  · by_cases e1 : x = S.2
    · subst e1
      have : e = e' := by simpa [ps_new] using hx
      subst this
      exact ⟨by omega, hp⟩
    · have : S.1 x = some e' := by simpa [ps_new, e1] using hx
      exact ⟨(h4 x e' this).1, (h4 x e' this).2.kept (oq x (h4 x e' this).2.lt)⟩
theorem PHp.grow {g : GT} {S : PS} {H H1 : Heap} (h : PHp g S H) (z : H.size ≤ H1.size) (oq : ∀ x : Nat, x < H.size → H1[x]? = H[x]?) : PHp g (S.1, H1.size) H1 := by
  obtain ⟨h1, h2, h3, h4⟩ := h
  refine ⟨rfl, by omega, fun x hx => ?_, fun x e' hx => ?_⟩
  · rw [oq x (by omega)]
    exact h3 x hx
  · exact ⟨(h4 x e' hx).1, (h4 x e' hx).2.kept (oq x (h4 x e' hx).2.lt)⟩
theorem PHp.lt {g : GT} {S : PS} {H : Heap} (h : PHp g S H) {q : Nat} {e : PE} (hq : S.1 q = some e) : q < S.2 := by
  obtain ⟨h1, h2, h3, h4⟩ := h
  rw [← h1]
  exact (h4 q e hq).2.lt
-- ===== what is known of the launch's start =====
abbrev gA (g : GT) : Nat → Prop := fun q => g.b ≤ q
/-- the words of the tables, good or not, hold at K; the class tables; Throwable's statics; no traces; the literals -/
def strL : List (String × Nat × String) := [("ConvolutionBench", 57, "the text would be too long"), ("ConvolutionBench", 348, "an argument cannot be"), ("ConvolutionBench", 98, "there are too many primes"), ("ConvolutionBench", 165, "there is no such prime"), ("ConvolutionBench", 360, "there is no root of this order"), ("ConvolutionBench", 377, "the number is a multiple of the prime"), ("ConvolutionBench", 353, "there is no such slot"), ("ConvolutionBench", 188, "there is no such term"), ("ConvolutionBench", 214, "the sequence is full"), ("ConvolutionBench", 351, "the set has a prime that does not exist"), ("ConvolutionBench", 355, "a sequence is empty"), ("ConvolutionBench", 274, "there is no plan with transforms"), ("ConvolutionBench", 281, "a prime has no transform of this length"), ("ConvolutionBench", 375, "there is no product"), ("ConvolutionBench", 362, "there is no such coefficient"), ("ConvolutionBench", 321, "there is no such digit"), ("ConvolutionBench", 338, "the product is no sequence"), ("ConvolutionBench", 341, "there is no change to undo"), ("ConvolutionBench$TextReader", 50, "prime"), ("ConvolutionBench$TextReader", 60, "sequence"), ("ConvolutionBenchModel", 105, "prime"), ("ConvolutionBenchModel", 126, "sequence")]
def excL : List (String × String) := [("java/lang/IllegalArgumentException", "java/lang/IllegalStateException"), ("java/lang/IllegalArgumentException", "java/lang/IndexOutOfBoundsException"), ("java/lang/IllegalArgumentException", "java/util/NoSuchElementException"), ("java/lang/IllegalStateException", "java/lang/IllegalArgumentException"), ("java/lang/IllegalStateException", "java/lang/IndexOutOfBoundsException"), ("java/lang/IllegalStateException", "java/util/NoSuchElementException"), ("java/lang/IndexOutOfBoundsException", "java/lang/IllegalArgumentException"), ("java/lang/IndexOutOfBoundsException", "java/lang/IllegalStateException"), ("java/lang/IndexOutOfBoundsException", "java/util/NoSuchElementException"), ("java/util/NoSuchElementException", "java/lang/IllegalArgumentException"), ("java/util/NoSuchElementException", "java/lang/IllegalStateException"), ("java/util/NoSuchElementException", "java/lang/IndexOutOfBoundsException")]
def Base (g : GT) : Prop :=
  va_K g.2.2 vwCl [] g.K ∧
  (∀ w ∈ lw_tbl, (w.onTables = true ∨ goodWord w = true) → w.before #[] g.K = true) ∧
  vx_Zq Bundle.tN "UNASSIGNED_STACK" Bundle.steD (gA g) g.K g.K.heap ∧
  vx_Zq Bundle.tN "SUPPRESSED_SENTINEL" Bundle.listD (gA g) g.K g.K.heap ∧
  g.1.stackTraces = false ∧
  (∀ q ∈ strL, ∃ a, vk_R q.1 q.2.1 q.2.2 a g.K) ∧
  (∀ C : String, Cond.arrayOver (.object C) ∈ lw_tbl → va_AO C g.K) ∧
  (∀ q ∈ excL, va_Nc q.1 q.2 g.K)
/-- the state U has the heap S -/
def PR (g : GT) (S : PS) (U : State) : Prop := Base g ∧ g.K.WarmedH U.vm ∧ PHp g S U.heap
theorem PR.blind {g : GT} {S : PS} {U : State} {fr : JFrame} {mk : MethodId} {a : Array Value} (h : PR g S U) : PR g S (U.calling fr mk a) := h
/-- a method: its class, its locals, its answer's type, its name; the frames and words that it needs; the cells and slots that it may make; its exception table -/
abbrev MI : Type := String × Nat × Option FieldType × String × Nat × Nat × Nat × Nat × List (Nat × Nat × Nat × Nat)
abbrev MI.own (X : MI) : String := X.1
abbrev MI.nL (X : MI) : Nat := X.2.1
abbrev MI.ret (X : MI) : Option FieldType := X.2.2.1
abbrev MI.name (X : MI) : String := X.2.2.2.1
abbrev MI.fr (X : MI) : Nat := X.2.2.2.2.1
abbrev MI.lo (X : MI) : Nat := X.2.2.2.2.2.1
abbrev MI.mc (X : MI) : Nat := X.2.2.2.2.2.2.1
abbrev MI.ms (X : MI) : Nat := X.2.2.2.2.2.2.2.1
abbrev MI.hh (X : MI) : List (Nat × Nat × Nat × Nat) := X.2.2.2.2.2.2.2.2
abbrev roomOf (X : MI) : Room := ({ frames := X.fr, cells := X.mc, slots := X.ms, locals := X.lo } : Room)
abbrev PO : Type := Option Value ⊕ String
def qC (g : GT) (Q : PO → PS → Prop) : Array Value → State → Outcome → State → Prop := fun _ st o t => (∃ (v : Option Value) (S' : PS), o = .returned v ∧ Q (.inl v) S' ∧ PR g S' t) ∧ va_F (gA g) st t
def qX (g : GT) (Q : PO → PS → Prop) : String → State → State → Prop := fun E st t => (∃ S' : PS, Q (.inr E) S' ∧ PHp g S' t.heap) ∧ va_F (gA g) st t
def WD (y : MethodName) (cc : ByteArray) (X : MI) : List Cond := [if X.hh = [] then .code y cc X.nL X.ret else .codeWith y cc X.nL X.ret X.hh]
/-- the contract of a method: from the heap S, with these arguments, it ends by Q -/
def PC (g : GT) (y : MethodName) (cc : ByteArray) (X : MI) (av : List Value) (S : PS) (Q : PO → PS → Prop) : Prop :=
  vx_Met g.1 y (WD y cc X) (roomOf X) (va_Pc av (fun U => PR g S U)) (qC g Q) (qX g Q) X.mc X.ms (gA g)
def PCtx (g : GT) (cc : ByteArray) (X : MI) (p : Program) (s : State) (m : MethodId) (meth : Method) (c : Code) : Prop :=
  p.tables.exec = Jvm.exec ∧ c.code = cc ∧ c.maxLocals = X.nL ∧ s.vm.findClass X.own = some m.cls ∧ meth.sig.returnType = X.ret ∧ meth.locks = false ∧ meth.name = X.name ∧ c.exceptionTable.toList = tableOf X.hh ∧
  Base g ∧ g.K.WarmedH s.vm ∧ g.b ≤ s.heap.size ∧ (∀ q : Nat, q < g.b → s.heap[q]? = g.K.heap[q]?)
def lk : List (Nat × Option Value) → Nat → Option Value
  | [], _ => none
  | (j, v) :: t, i => bif Nat.beq j i then v else lk t i
def LH (ls : Array Slot) (nL : Nat) (L : List (Nat × Option Value)) : Prop := ls.size = nL ∧ lv_wf ls ∧ ∀ (i : Nat) (v : Value), lk L i = some v → ls[i]? = some (.val v)
def PW (g : GT) (cc : ByteArray) (X : MI) (pc : Nat) (L : List (Nat × Option Value)) (st : List Value) (S : PS) (kc ks : Nat) (Q : PO → PS → Prop) : Prop :=
  ∀ (p : Program) (e : Env) (s : State) (m : MethodId) (args : Array Value) (below : List Frame) (meth : Method) (c : Code) (H : Heap) (locs : List Loc) (ls : Array Slot) (cells slots : Nat),
    PCtx g cc X p s m meth c → PHp g S H → s.heap.size ≤ H.size → (∀ l ∈ locs, gA g l.base) → LH ls X.nL L → cells + kc ≤ X.mc → slots + ks ≤ X.ms →
    W p g.1 e (roomOf X) s m args below meth c H locs cells slots (vx_MQ below (qC g Q) (qX g Q) args s X.mc X.ms (gA g)) (F0 m pc ls st)
/-- the same with an exception of the class E on its way at pc -/
def PX (g : GT) (cc : ByteArray) (X : MI) (pc : Nat) (L : List (Nat × Option Value)) (S : PS) (kc ks : Nat) (Q : PO → PS → Prop) (E : String) : Prop :=
  ∀ (p : Program) (e : Env) (s : State) (m : MethodId) (args : Array Value) (below : List Frame) (meth : Method) (c : Code) (H : Heap) (locs : List Loc) (ls : Array Slot) (cells slots : Nat) (rest : List Value) (q : Addr) (ce : Cell),
    PCtx g cc X p s m meth c → PHp g S H → s.heap.size ≤ H.size → (∀ l ∈ locs, gA g l.base) → LH ls X.nL L → cells + kc ≤ X.mc → slots + ks ≤ X.ms →
    H[q]? = some ce → ce.vm = .none → s.vm.findClass E = some ce.cls →
    vx_W p g.1 e (roomOf X) s m args below meth c H locs cells slots (vx_MQ below (qC g Q) (qX g Q) args s X.mc X.ms (gA g)) (F0 m pc ls rest) q
theorem Base.word {g : GT} (h : Base g) {w : Cond} (hw : w ∈ lw_tbl) (hg : goodWord w = true) {s : State} (hK : g.K.WarmedH s.vm) {args : Array Value} : w.before args s = true :=
  word_at hK (good_of_word hg) (h.2.1 w hw (Or.inr hg))
theorem Base.va {g : GT} (h : Base g) {s : State} (hK : g.K.WarmedH s.vm) : va_K g.2.2 vwCl [] s := h.1.moved hK.alike
theorem lk_store1 {ls : Array Slot} {nL : Nat} {L : List (Nat × Option Value)} (h : LH ls nL L) : lv_has ls nL ((List.range nL).filterMap (fun j => (lk L j).map (fun v => (j, v)))) := by
  refine ⟨h.1, h.2.1, fun q hq => ?_⟩
  obtain ⟨j, hj, e⟩ := List.mem_filterMap.mp hq
  cases hv : lk L j with
  | none => rw [hv] at e; cases e
  | some v =>
    rw [hv] at e
    cases e
    exact h.2.2 j v hv
/-- no long begins in the slot before -/
def nl : List (Nat × Option Value) → Nat → Bool
  | _, 0 => true
  | L, i + 1 => match lk L i with
    | some (.long _) => false
    | some (.double _) => false
    | _ => true
theorem lk_get {ls : Array Slot} {nL : Nat} {L : List (Nat × Option Value)} (h : LH ls nL L) {i : Nat} {v : Value} (hv : lk L i = some v) : ls[i]? = some (.val v) := h.2.2 i v hv
theorem lk_lt {ls : Array Slot} {nL : Nat} {L : List (Nat × Option Value)} (h : LH ls nL L) {i : Nat} {v : Value} (hv : lk L i = some v) : i < nL := by
  rw [← h.1]
  exact (Array.getElem?_eq_some_iff.mp (h.2.2 i v hv)).1
theorem lk_cat {L : List (Nat × Option Value)} {i : Nat} (h : nl L i = true) : ∀ (j : Nat) (v : Value), lk L j = some v → ¬ (j + 1 = i ∧ v.category = 2) := by
  intro j v hv hc
  obtain ⟨e, hc⟩ := hc
  subst e
  cases v <;> simp_all [nl, Value.category]
theorem LH.store1 {ls ls' : Array Slot} {nL : Nat} {L : List (Nat × Option Value)} {i : Nat} {x : Value} (h : LH ls nL L) (hn : nl L i = true)
    (h' : lv_has ls' nL ((i, x) :: ((List.range nL).filterMap (fun j => (lk L j).map (fun v => (j, v)))).filter (fun q => !(q.1 == i) && !(q.1 + 1 == i && q.2.category == 2)))) : LH ls' nL ((i, some x) :: L) := by
  refine ⟨h'.1, h'.2.1, fun j v hv => ?_⟩
  by_cases e : i = j
  · subst e
    have : x = v := by simpa [lk] using hv
    subst this
    exact h'.2.2 (i, x) List.mem_cons_self
  · have hv' : lk L j = some v := by
      have e2 : Nat.beq i j = false := by
        cases hb : Nat.beq i j with
        | false => rfl
        | true => exact absurd (Nat.eq_of_beq_eq_true hb) e
      simpa [lk, e2] using hv
    refine h'.2.2 (j, v) (List.mem_cons_of_mem _ (List.mem_filter.mpr ⟨List.mem_filterMap.mpr ⟨j, List.mem_range.mpr (lk_lt h hv'), by rw [hv']; rfl⟩, ?_⟩))
    have h3 := lk_cat hn j v hv'
    simp only [Bool.and_eq_true, Bool.not_eq_true', beq_eq_false_iff_ne, ne_eq, Bool.and_eq_false_iff]
    refine ⟨fun h => e h.symm, ?_⟩
    by_cases e3 : j + 1 = i
    · exact Or.inr (fun h => h3 ⟨e3, h⟩)
    · exact Or.inl e3
theorem LH.store2 {ls ls' : Array Slot} {nL : Nat} {L : List (Nat × Option Value)} {i : Nat} {x : Value} (h : LH ls nL L) (hn : nl L i = true)
    (h' : lv_has ls' nL ((i, x) :: ((List.range nL).filterMap (fun j => (lk L j).map (fun v => (j, v)))).filter (fun q => !(q.1 == i) && (!(q.1 == i + 1) && !(q.1 + 1 == i && q.2.category == 2))))) : LH ls' nL ((i, some x) :: (i + 1, none) :: L) := by
  refine ⟨h'.1, h'.2.1, fun j v hv => ?_⟩
  by_cases e : i = j
  · subst e
    have : x = v := by simpa [lk] using hv
    subst this
    exact h'.2.2 (i, x) List.mem_cons_self
  · have e2 : Nat.beq i j = false := by
      cases hb : Nat.beq i j with
      | false => rfl
      | true => exact absurd (Nat.eq_of_beq_eq_true hb) e
    by_cases e5 : i + 1 = j
    · subst e5
      exfalso
      have e7 : Nat.beq (i + 1) (i + 1) = true := Nat.beq_refl _
      simp [lk, e2, e7] at hv
    · have e6 : Nat.beq (i + 1) j = false := by
        cases hb : Nat.beq (i + 1) j with
        | false => rfl
        | true => exact absurd (Nat.eq_of_beq_eq_true hb) e5
      have hv' : lk L j = some v := by
        simpa [lk, e2, e6] using hv
      refine h'.2.2 (j, v) (List.mem_cons_of_mem _ (List.mem_filter.mpr ⟨List.mem_filterMap.mpr ⟨j, List.mem_range.mpr (lk_lt h hv'), by rw [hv']; rfl⟩, ?_⟩))
      have h3 := lk_cat hn j v hv'
      simp only [Bool.and_eq_true, Bool.not_eq_true', beq_eq_false_iff_ne, ne_eq, Bool.and_eq_false_iff]
      refine ⟨fun h => e h.symm, fun h => e5 h.symm, ?_⟩
      by_cases e3 : j + 1 = i
      · exact Or.inr (fun h => h3 ⟨e3, h⟩)
      · exact Or.inl e3

/-! rows for arrays of references with empty places; a nest-mate's static method without an answer -/
section PROWS8
variable {g : GT} {cc : ByteArray} {X : MI} {pc : Nat} {L : List (Nat × Option Value)} {st : List Value} {S S1 : PS} {kc ks : Nat} {Q : PO → PS → Prop} {y : MethodName} {cc' : ByteArray} {X' : MI} {n idx : Nat} {As rest : List Value} {host : String}
theorem c_snN (hd : decode cc pc = .ok (.invokestatic idx, 3)) (hc : PC g y cc' X' As S (Rt none S1)) (h0 : X'.mc = 0) (h00 : X'.ms = 0) (hm : MQs y cc' X' n) (hl : Cond.methodLinkNest X.own idx y host ∈ lw_tbl) (hr : RM X X') (hst : st = As.reverse ++ rest) (hn : As.length = n) (hcat : (rest.map fun v => v.category).sum ≤ 8) (k : PW g cc X (pc + 3) L rest S1 kc ks Q) : PW g cc X pc L st S kc ks Q :=
  r_invSN hd hc Rt_nx hm hl hr hst hn hcat (kc' := kc) (ks' := ks) (by omega) (by omega) (fun v' S' h => by obtain ⟨h1, rfl⟩ := h; cases h1; exact k)
theorem r_aaldR {t n q : Nat} {Cn : String} {f : Int → Option Nat} {i : Int} (hd : decode cc pc = .ok (.aaload, 1)) (hq : S.1 q = some (cR t n f)) (ht : tyOf t = .object Cn) (h0 : 0 ≤ i) (hi : i < n) (hn : n < 2147483648) (k : PW g cc X (pc + 1) L (va_rf (f i) :: st) S kc ks Q) : PW g cc X pc L (vi i :: .ref q :: st) S kc ks Q := by
  intro p e s m args below meth c H locs ls cells slots C hP hz hlo hL h1 h2
  obtain ⟨hin, hcl⟩ := q_ix h0 hi hn
  obtain ⟨cA, a1, a2, a3⟩ := (hP.2.2.2 q _ hq).2
  have kk := k p e s m args below meth c H locs ls cells slots C hP hz hlo hL h1 h2
  have a1 : ArrOfT g.K cA (tyOf t) := a1
  have a2 : va_RA g.K cA (tyOf t) := a2
  rw [ht] at a1 a2
  refine va_aldq C.1 C.2.1 (C.arr a1 a2) (va_P1 (q := q) (e := .inl (cA, n, .inr (.inr (.inr (.inr (fun j => f j)))))) a3) 0 0 rfl rfl hin hd ?_
  rw [hcl]
  show W _ _ _ _ _ _ _ _ _ _ _ _ _ _ _ (F0 m (pc + 1) ls (va_rf (f ((i.toNat : Nat) : Int)) :: st))
  rw [q_nat h0]
  exact kk
theorem r_aastN {t n q : Nat} {Cn : String} {f : Int → Option Nat} {i : Int} (hd : decode cc pc = .ok (.aastore, 1)) (hq : S.1 q = some (cR t n f)) (ht : tyOf t = .object Cn) (h0 : 0 ≤ i) (hi : i < n) (hn : n < 2147483648) (k : PW g cc X (pc + 1) L st (ps_put S q (cR t n (upR f i none))) kc ks Q) : PW g cc X pc L (.null :: vi i :: .ref q :: st) S kc ks Q := by
  intro p e s m args below meth c H locs ls cells slots C hP hz hlo hL h1 h2
  obtain ⟨hin, hcl⟩ := q_ix h0 hi hn
  obtain ⟨hb, cA, a1, a2, a3⟩ := hP.2.2.2 q _ hq
  have b1 : ArrOfT g.K cA (tyOf t) := a1
  have b2 : va_RA g.K cA (tyOf t) := a2
  rw [ht] at b1 b2
  refine va_WaastN (C := Cn) C.1 C.2.1 a3 ((C.arr b1 b2).2 0 _ rfl |>.1 n (fun j => va_rf (f j))) (fun h => by cases h) (by show ¬ (_ ∨ (arrV _ _ _).slots.size ≤ _); rw [arrV_size]; exact hin) rfl rfl hd fun H' e1 e2 e3 => ?_
  refine k p e s m args below meth c H' _ ls cells slots C (hP.put hq e2 e3 ⟨cA, a1, a2, ?_⟩) (by rw [e2]; exact hz) (locs_add hlo hb) hL h1 h2
  rw [e1]
  congr 1
  show (arrV cA n (fun j => va_rf (f j))).setSlot _ _ = arrV cA n (fun j => va_rf (upR f i none j))
  rw [arrV_store, hcl]
  congr 1
  funext j
  have h9 : upR f i none (j : Int) = if j = i.toNat then none else f (j : Int) := congrFun (upR_nat (f := f) (x := none) h0) j
  rw [h9]
  by_cases e : j = i.toNat <;> simp [updV, e, va_rf]
/-- what an array holds, an object or nothing, into an array -/
theorem r_aastR {t n q ci : Nat} {Cn : String} {T : u_T} {N : Nat} {f : Int → Option Nat} {i : Int} {r : Option Nat} (hd : decode cc pc = .ok (.aastore, 1)) (hq : S.1 q = some (cR t n f)) (ht : tyOf t = .object Cn) (hc : vwCl[ci]? = some (Cn, T, N)) (hv : ∀ v : Nat, r = some v → ∃ vs, S.1 v = some (cO ci vs)) (h0 : 0 ≤ i) (hi : i < n) (hn : n < 2147483648) (k : PW g cc X (pc + 1) L st (ps_put S q (cR t n (upR f i r))) kc ks Q) : PW g cc X pc L (va_rf r :: vi i :: .ref q :: st) S kc ks Q := by
  cases r with
  | none => exact r_aastN hd hq ht h0 hi hn k
  | some v =>
    obtain ⟨vs, hvs⟩ := hv v rfl
    exact r_aast hd hq ht hc hvs h0 hi hn k
end PROWS8
theorem pat_R {D : va_G} {K : State} {q : Nat} {H : Heap} {t n : Nat} {f f' : Int → Option Nat} (h : ∀ i : Int, 0 ≤ i → i < n → f' i = f i) (hp : pat D K q (cR t n f) H) : pat D K q (cR t n f') H := by
  obtain ⟨cA, h1, h2, h3⟩ := hp
  refine ⟨cA, h1, h2, h3.trans ?_⟩
  show some (arrV cA n (fun j => va_rf (f j))) = some (arrV cA n (fun j => va_rf (f' j)))
  unfold arrV
  congr 3
  funext j
  have hj := j.isLt
  show va_rf (f ((j : Nat) : Int)) = va_rf (f' ((j : Nat) : Int))
  rw [h ((j : Nat) : Int) (by omega) (by omega)]
section ROWR
variable {g : GT} {cc : ByteArray} {X : MI} {pc : Nat} {L : List (Nat × Option Value)} {st : List Value} {S : PS} {kc ks : Nat} {Q : PO → PS → Prop}
/-- an array of references: what lies behind its length does not matter -/
theorem r_R {q t n : Nat} {f f' : Int → Option Nat} (hq : S.1 q = some (cR t n f)) (h : ∀ i : Int, 0 ≤ i → i < n → f' i = f i) (k : PW g cc X pc L st (ps_put S q (cR t n f')) kc ks Q) : PW g cc X pc L st S kc ks Q := by
  intro p e s m args below meth c H locs ls cells slots C hP hz hlo hL h1 h2
  refine k p e s m args below meth c H locs ls cells slots C ⟨hP.1, hP.2.1, hP.2.2.1, fun x e' hx => ?_⟩ hz hlo hL h1 h2
  by_cases ex : x = q
  · subst ex
    have e0 : (ps_put S x (cR t n f')).1 x = some (cR t n f') := if_pos rfl
    rw [e0] at hx
    cases hx
    exact ⟨(hP.2.2.2 x _ hq).1, pat_R h (hP.2.2.2 x _ hq).2⟩
  · have e0 : (ps_put S q (cR t n f')).1 x = S.1 x := if_neg ex
    rw [e0] at hx
    exact hP.2.2.2 x e' hx
end ROWR

/-! the law: a call of the class through its wrapper, a call of the model -/
/-- behind a wrapper: its number k; long[0] is v if k = 0; the class is anew if k = 0 -/
def CW (x : Nat) (k v : Int) (a' : Int → Int) (H' : Int → Int → Int) (nx' ct' fd' ea' : Int) (tx' : Int → Int) (a : Int → Int) (H : Int → Int → Int) (nx ct fd ea th : Int) (tx kp bf : Int → Int) : PO → PS → Prop := fun o S' => o = .inl (some (vi k)) ∧ (0 ≤ k ∧ k ≤ 9) ∧ MJ S' x a ct th fd ea kp bf ∧ x + 159 ≤ S'.2 ∧ (k = 0 → CX S' x (x + 159) a' H' nx' ct' fd' ea' tx' ∧ ∃ o1 : Int → Int, S'.1 (x + 158) = some (cJ 1 o1) ∧ o1 0 = v) ∧ (k ≠ 0 → CX S' x (x + 159) a H nx ct fd ea tx)
theorem xs1 {A E : String} {Z : Int → Prop} (h : ∃ i : Nat, [A][i]? = some E ∧ Z ((i : Int) + 1)) : E = A ∧ Z 1 := by
  obtain ⟨i, h1, h2⟩ := h
  match i, h1, h2 with
  | 0, h1, h2 => cases h1; exact ⟨rfl, h2⟩
theorem xs2 {A B E : String} {Z : Int → Prop} (h : ∃ i : Nat, [A, B][i]? = some E ∧ Z ((i : Int) + 1)) : (E = A ∧ Z 1) ∨ (E = B ∧ Z 2) := by
  obtain ⟨i, h1, h2⟩ := h
  match i, h1, h2 with
  | 0, h1, h2 => cases h1; exact Or.inl ⟨rfl, h2⟩
  | 1, h1, h2 => cases h1; exact Or.inr ⟨rfl, h2⟩
theorem xs3 {A B C E : String} {Z : Int → Prop} (h : ∃ i : Nat, [A, B, C][i]? = some E ∧ Z ((i : Int) + 1)) : (E = A ∧ Z 1) ∨ (E = B ∧ Z 2) ∨ (E = C ∧ Z 3) := by
  obtain ⟨i, h1, h2⟩ := h
  match i, h1, h2 with
  | 0, h1, h2 => cases h1; exact Or.inl ⟨rfl, h2⟩
  | 1, h1, h2 => cases h1; exact Or.inr (Or.inl ⟨rfl, h2⟩)
  | 2, h1, h2 => cases h1; exact Or.inr (Or.inr ⟨rfl, h2⟩)
theorem xs4 {A B C D E : String} {Z : Int → Prop} (h : ∃ i : Nat, [A, B, C, D][i]? = some E ∧ Z ((i : Int) + 1)) : (E = A ∧ Z 1) ∨ (E = B ∧ Z 2) ∨ (E = C ∧ Z 3) ∨ (E = D ∧ Z 4) := by
  obtain ⟨i, h1, h2⟩ := h
  match i, h1, h2 with
  | 0, h1, h2 => cases h1; exact Or.inl ⟨rfl, h2⟩
  | 1, h1, h2 => cases h1; exact Or.inr (Or.inl ⟨rfl, h2⟩)
  | 2, h1, h2 => cases h1; exact Or.inr (Or.inr (Or.inl ⟨rfl, h2⟩))
  | 3, h1, h2 => cases h1; exact Or.inr (Or.inr (Or.inr ⟨rfl, h2⟩))
section LAWC
variable {S : PS} {x : Nat} {k v : Int} {a' a : Int → Int} {H' H : Int → Int → Int} {nx' ct' fd' ea' nx ct fd ea th : Int} {tx' tx kp bf : Int → Int} {codes : List String} {P : PS → Prop}
theorem MJ.out {S : PS} {o2 : Int → Int} (h : MJ S x a ct th fd ea kp bf) : MJ (ps_put S (x + 158) (cJ 1 o2)) x a ct th fd ea kp bf := by
  obtain ⟨⟨sz, at', be, ki, wr, wa, nu, bs, bw, bt', h1⟩, h2, ⟨fr, h3⟩, h4, h5, o1, h6⟩ := h
  exact ⟨⟨sz, at', be, ki, wr, wa, nu, bs, bw, bt', ps_ne (by omega) h1⟩, ps_ne (by omega) h2, ⟨fr, ps_ne (by omega) h3⟩, ps_ne (by omega) h4, ps_ne (by omega) h5, o2, ps_same⟩
theorem CX.out {S : PS} {o2 : Int → Int} (h : CX S x (x + 159) a H nx ct fd ea tx) : CX (ps_put S (x + 158) (cJ 1 o2)) x (x + 159) a H nx ct fd ea tx :=
  h.frame (fun z hz c hc => ps_ne (by omega) hc) (fun z z1 z2 => ps_ne (by omega) rfl)
/-- the answer's way, for an answer w (a Value) of the number v -/
theorem cw_n {w : Value} {o1 : Int → Int} {B : Prop} (hJ : MJ S x a ct th fd ea kp bf) (hF : x + 159 ≤ S.2) (ho : S.1 (x + 158) = some (cJ 1 o1)) (hB : k = 0 → B) (hP : ∀ S1, P S1 → CX S1 x (x + 159) a' H' nx' ct' fd' ea' tx' ∧ FrC x S S1) : ∀ o S1, Out codes k w S P (.inl o) S1 → o = some w ∧ B ∧ S1.1 (x + 158) = some (cJ 1 o1) ∧ CW x k v a' H' nx' ct' fd' ea' tx' a H nx ct fd ea th tx kp bf (.inl (some (vi 0))) (ps_put S1 (x + 158) (cJ 1 (upI o1 0 v))) := fun o S1 h => by
  rcases h with ⟨h1, h2, h3⟩ | ⟨h1, E, h2, h3, h4⟩
  · obtain ⟨p1, p2⟩ := hP S1 h3
    cases h2
    refine ⟨rfl, hB h1, p2.1 _ _ (by omega) ho, by rw [h1], by omega, (hJ.fr p2).out, ?_, fun _ => ⟨p1.out, _, ps_same, upI_eq⟩, fun z => absurd h1 z⟩
    show x + 159 ≤ S1.2
    have := p2.2
    omega
  · cases h3
/-- an exception's way -/
theorem cw_x {w : Value} (hC : CX S x (x + 159) a H nx ct fd ea tx) (hJ : MJ S x a ct th fd ea kp bf) (hF : x + 159 ≤ S.2) (hk : k ≤ 9) : ∀ E S1, Out codes k w S P (.inr E) S1 → ∃ i : Nat, codes[i]? = some E ∧ CW x k v a' H' nx' ct' fd' ea' tx' a H nx ct fd ea th tx kp bf (.inl (some (vi ((i : Int) + 1)))) S1 := fun E S1 h => by
  rcases h with ⟨h1, h2, h3⟩ | ⟨h1, E', h2, h3, h4, h5⟩
  · cases h2
  · cases h3
    refine ⟨(k - 1).toNat, h2, by rw [show (((k - 1).toNat : Nat) : Int) + 1 = k by omega], by omega, hJ.fr (FrC.thr h4 h5), by omega, fun z => absurd z (by omega), fun _ => ?_⟩
    exact hC.frame (fun z hz c hc => by rw [h4]; exact hc) (fun z z1 z2 => by rw [h4])
end LAWC

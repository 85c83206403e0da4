/-! the model's face: multiply -/
theorem cfJ_cg {kd n k x i : Int} {h h' : Int → Int} : ∀ j : Nat, (∀ q : Int, 0 ≤ q → q < j → h q = h' q) → cfJ kd n k x h i j = cfJ kd n k x h' i j
  | 0, _ => rfl
  | j + 1, e => by
    show cfJ kd n k x h i j + wgt kd n (i + j - k) * (x * h j) = cfJ kd n k x h' i j + wgt kd n (i + j - k) * (x * h' j)
    rw [cfJ_cg j (fun q q1 q2 => e q q1 (by omega)), e j (by omega) (by omega)]
theorem cfI_cg {kd n k : Int} {f f' h h' : Int → Int} {lb : Nat} (eh : ∀ q : Int, 0 ≤ q → q < lb → h q = h' q) : ∀ i : Nat, (∀ q : Int, 0 ≤ q → q < i → f q = f' q) → cfI kd n k f h lb i = cfI kd n k f' h' lb i
  | 0, _ => rfl
  | i + 1, e => by
    show cfI kd n k f h lb i + cfJ kd n k (f i) h i lb = cfI kd n k f' h' lb i + cfJ kd n k (f' i) h' i lb
    rw [cfI_cg eh i (fun q q1 q2 => e q q1 (by omega)), e i (by omega) (by omega), cfJ_cg lb eh]
def Lo (a a' : Int → Int) : Prop := ∀ i : Int, 0 ≤ i → i < 139 → a' i = a i
theorem Lo.ml {a a' : Int → Int} (h : Lo a a') (hl : ML a) : ML a' := by
  refine ⟨fun s s1 s2 => ?_, fun s k s1 s2 k1 k2 => ?_⟩
  · rw [h (7 + s) (by omega) (by omega)]
    exact hl.1 s s1 s2
  · rw [h (11 + 32 * s + k) (by omega) (by omega)]
    exact hl.2 s k s1 s2 k1 k2
theorem Lo.cf {a a' : Int → Int} (h : Lo a a') (hl : ML a) {kd n k s t : Int} (hs : 0 ≤ s ∧ s ≤ 3) (ht : 0 ≤ t ∧ t ≤ 3) : cfI kd n k (tmF a' s) (tmF a' t) (a' (7 + t)).toNat (a' (7 + s)).toNat = cfI kd n k (tmF a s) (tmF a t) (a (7 + t)).toNat (a (7 + s)).toNat := by
  have b1 := hl.1 s hs.1 (by omega)
  have b2 := hl.1 t ht.1 (by omega)
  rw [h (7 + s) (by omega) (by omega), h (7 + t) (by omega) (by omega)]
  exact cfI_cg (fun q q1 q2 => h (11 + 32 * t + q) (by omega) (by omega)) _ (fun q q1 q2 => h (11 + 32 * s + q) (by omega) (by omega))
theorem tmod_fix {v W : Int} (hW : 0 < W) : (if Int.tmod v W < 0 then Int.tmod v W + W else Int.tmod v W) = v % W := by
  have h1 := tmod_bd v hW
  have h2 := tmod_emod v W
  have h3 := Int.emod_nonneg v (show W ≠ 0 by omega)
  have h4 := Int.emod_lt_of_pos v hW
  split
  · rw [← h2, ← Int.add_emod_right, Int.emod_eq_of_lt (by omega) (by omega)]
  · rw [← h2, Int.emod_eq_of_lt (by omega) (by omega)]
/-- the remainder nearest to 0 -/
def ctr (v W : Int) : Int := if W / 2 < v % W then v % W - W else v % W
noncomputable def muV (a : Int → Int) (kd s t len set : Int) : Int → Int := fun x => ctr (cfI kd len (x - 151) (tmF a s) (tmF a t) (a (7 + t)).toNat (a (7 + s)).toNat) (prC a set)
noncomputable def mu2 (a : Int → Int) (kd s t len set : Int) : Int → Int := mix 151 (151 + sizI a kd s t len) (muV a kd s t len set) (mix 145 215 (fun _ => 0) a)
noncomputable def muB (a : Int → Int) (kd s t len set : Int) : Nat → Int → Int
  | 0 => upI (mu2 a kd s t len set) 144 0
  | k + 1 => if b2c (bt set (k : Int)) = 1 then upI (upI (muB a kd s t len set k) (145 + muB a kd s t len set k 144) (a (1 + (k : Int)))) 144 (muB a kd s t len set k 144 + 1) else muB a kd s t len set k
noncomputable def muA (a : Int → Int) (kd s t len set : Int) : Int → Int := upI (upI (upI (upI (upI (muB a kd s t len set (a 0).toNat) 139 1) 140 kd) 141 len) 142 set) 143 (sizI a kd s t len)
theorem muB_bd {a : Int → Int} {kd s t len set : Int} : ∀ k : Nat, 0 ≤ muB a kd s t len set k 144 ∧ muB a kd s t len set k 144 ≤ k
  | 0 => by
    show 0 ≤ upI _ 144 0 144 ∧ upI _ 144 0 144 ≤ ((0 : Nat) : Int)
    rw [upI_eq]
    omega
  | k + 1 => by
    have ih := muB_bd (a := a) (kd := kd) (s := s) (t := t) (len := len) (set := set) k
    have e : muB a kd s t len set (k + 1) = if b2c (bt set (k : Int)) = 1 then upI (upI (muB a kd s t len set k) (145 + muB a kd s t len set k 144) (a (1 + (k : Int)))) 144 (muB a kd s t len set k 144 + 1) else muB a kd s t len set k := rfl
    rw [e]
    split
    · rw [upI_eq]
      omega
    · omega
theorem muB_lo {a : Int → Int} {kd s t len set : Int} (i : Int) (h0 : 0 ≤ i) (h1 : i < 139) : ∀ k : Nat, muB a kd s t len set k i = a i
  | 0 => by
    show upI (mu2 a kd s t len set) 144 0 i = a i
    rw [upI_ne (by omega)]
    unfold mu2
    rw [mix_out (by omega), mix_out (by omega)]
  | k + 1 => by
    have hb := muB_bd (a := a) (kd := kd) (s := s) (t := t) (len := len) (set := set) k
    have ih := muB_lo (a := a) (kd := kd) (s := s) (t := t) (len := len) (set := set) i h0 h1 k
    have e : muB a kd s t len set (k + 1) = if b2c (bt set (k : Int)) = 1 then upI (upI (muB a kd s t len set k) (145 + muB a kd s t len set k 144) (a (1 + (k : Int)))) 144 (muB a kd s t len set k 144 + 1) else muB a kd s t len set k := rfl
    rw [e]
    split
    · rw [upI_ne (by omega), upI_ne (by omega)]
      exact ih
    · exact ih
def canMul (a : Int → Int) (kd s t len set : Int) (W : Int) : Prop := ((0 ≤ kd ∧ kd ≤ 2) ∧ 1 ≤ len ∧ len ≤ 64) ∧ (set ≠ 0 ∧ W ≤ 4000000000000000000) ∧ ((kd = 0 ∧ a (7 + s) + a (7 + t) - 1 ≤ len) ∨ (kd ≠ 0 ∧ a (7 + s) ≤ len ∧ a (7 + t) ≤ len))
noncomputable def kMul (a : Int → Int) (kd s t len set : Int) : Int := if 0 ≤ set ∧ set ≤ 2 ^ (a 0).toNat - 1 then (if lacksI a s t = 0 then (if b2c (canMul a kd s t len set (prC a set)) = 1 then (if b2c (HaveAll a set (if kd = 2 then 2 * len else len)) = 1 then 0 else 4) else 3) else lacksI a s t) else 1
section MMUL
variable {g : GT} {S : PS} {mc ms : Nat} {Q : PO → PS → Prop} {kc ks : Nat} {m : Nat} {a kp : Int → Int} {fs : List Value} {km th bu sz at' be ki wr wa ea nu bs bw bt' : Int}
theorem l_mz {kd s t len set n W : Int} (h : S.1 m = some (cO 10 (.ref (m + 1) :: fs)))
    (hk : PW g cX10_multiply (iX10_multiply mc ms) 143 [(0, some (.ref m)), (1, some (vi kd)), (2, some (vi s)), (3, some (vi t)), (4, some (vi len)), (5, some (vi set)), (6, some (vi n)), (7, some (vl W))] [] (ps_put S (m + 1) (cJ 215 (mix 145 215 (fun _ => 0) a))) kc ks Q) : ∀ (r i : Nat), i + r = 215 → 145 ≤ i →
    PW g cX10_multiply (iX10_multiply mc ms) 121 [(0, some (.ref m)), (1, some (vi kd)), (2, some (vi s)), (3, some (vi t)), (4, some (vi len)), (5, some (vi set)), (6, some (vi n)), (7, some (vl W)), (9, some (vi (i : Int)))] [] (ps_put S (m + 1) (cJ 215 (mix 145 (i : Int) (fun _ => 0) a))) kc ks Q := by
  intro r
  induction r with
  | zero =>
    intro i hi _
    have e : i = 215 := by omega
    subst e
    refine r_iload dX10_multiply_121 rfl (r_sipush dX10_multiply_123 (by decide) ?_)
    refine r_icmp_ge 143 dX10_multiply_126 (by decide) (by omega) (by omega) (fun c1 => ?_) (fun c1 => ?_)
    · exact r_loc [(0, some (.ref m)), (1, some (vi kd)), (2, some (vi s)), (3, some (vi t)), (4, some (vi len)), (5, some (vi set)), (6, some (vi n)), (7, some (vl W))] ⟨Or.inl rfl, Or.inl rfl, Or.inl rfl, Or.inl rfl, Or.inl rfl, Or.inl rfl, Or.inl rfl, Or.inl rfl, trivial⟩ hk
    · omega
  | succ r ih =>
    intro i hi hi2
    have h1 : (ps_put S (m + 1) (cJ 215 (mix 145 (i : Int) (fun _ => 0) a))).1 m = some (cO 10 (.ref (m + 1) :: fs)) := ps_ne (by omega) h
    refine r_iload dX10_multiply_121 rfl (r_sipush dX10_multiply_123 (by decide) ?_)
    refine r_icmp_ge 143 dX10_multiply_126 (by decide) (by omega) (by omega) (fun c1 => ?_) (fun c1 => ?_)
    · omega
    · refine r_aload_n dX10_multiply_129 (i := 0) rfl rfl (r_get dX10_multiply_130 fl_X10_7 h1 rfl (r_iload dX10_multiply_133 rfl (r_lconst (z := 0) dX10_multiply_135 (by decide) (r_last dX10_multiply_136 ps_same (by omega) (by omega) (by omega) ?_))))
      refine r_iinc dX10_multiply_137 rfl rfl (r_goto 121 dX10_multiply_140 (by decide) ?_)
      rw [ps_put_put, mix_up (A := fun _ => 0) (lo := 145) (i := (i : Int)) (B := a) (by omega) rfl]
      exact r_loc [(0, some (.ref m)), (1, some (vi kd)), (2, some (vi s)), (3, some (vi t)), (4, some (vi len)), (5, some (vi set)), (6, some (vi n)), (7, some (vl W)), (9, some (vi ((i + 1 : Nat) : Int)))] ⟨Or.inl rfl, Or.inl rfl, Or.inl rfl, Or.inl rfl, Or.inl rfl, Or.inl rfl, Or.inl rfl, Or.inl rfl, Or.inl rfl, trivial⟩ (ih (i + 1) (by omega) (by omega))
theorem l_mv {kd s t len set n : Int} (h : S.1 m = some (cO 10 (.ref (m + 1) :: fs))) (hp : MP a) (hl : ML a) (hs : 0 ≤ s ∧ s ≤ 3) (ht : 0 ≤ t ∧ t ≤ 3) (hkd : 0 ≤ kd ∧ kd ≤ 2) (hlen : 1 ≤ len ∧ len ≤ 64) (hn : 1 ≤ n ∧ n ≤ 64)
    (hk : PW g cX10_multiply (iX10_multiply mc ms) 227 [(0, some (.ref m)), (1, some (vi kd)), (2, some (vi s)), (3, some (vi t)), (4, some (vi len)), (5, some (vi set)), (6, some (vi n)), (7, some (vl (prC a set)))] [] (ps_put S (m + 1) (cJ 215 (mix 151 (151 + n) (muV a kd s t len set) (mix 145 215 (fun _ => 0) a)))) kc ks Q) : ∀ (r i : Nat), (i : Int) + r = n →
    PW g cX10_multiply (iX10_multiply mc ms) 146 [(0, some (.ref m)), (1, some (vi kd)), (2, some (vi s)), (3, some (vi t)), (4, some (vi len)), (5, some (vi set)), (6, some (vi n)), (7, some (vl (prC a set))), (9, some (vi (i : Int)))] [] (ps_put S (m + 1) (cJ 215 (mix 151 (151 + (i : Int)) (muV a kd s t len set) (mix 145 215 (fun _ => 0) a)))) kc ks Q := by
  intro r
  have hW := prC_bd hp set
  induction r with
  | zero =>
    intro i hi
    refine r_iload dX10_multiply_146 rfl (r_iload dX10_multiply_148 rfl ?_)
    refine r_icmp_ge 227 dX10_multiply_150 (by decide) (by omega) (by omega) (fun c1 => ?_) (fun c1 => ?_)
    · rw [← show (i : Int) = n by omega] at hk ⊢
      exact r_loc [(0, some (.ref m)), (1, some (vi kd)), (2, some (vi s)), (3, some (vi t)), (4, some (vi len)), (5, some (vi set)), (6, some (vi (i : Int))), (7, some (vl (prC a set)))] ⟨Or.inl rfl, Or.inl rfl, Or.inl rfl, Or.inl rfl, Or.inl rfl, Or.inl rfl, Or.inl rfl, Or.inl rfl, trivial⟩ hk
    · omega
  | succ r ih =>
    intro i hi
    have hlo : Lo a (mix 151 (151 + (i : Int)) (muV a kd s t len set) (mix 145 215 (fun _ => 0) a)) := fun x x1 x2 => by rw [mix_out (by omega), mix_out (by omega)]
    have h1 : (ps_put S (m + 1) (cJ 215 (mix 151 (151 + (i : Int)) (muV a kd s t len set) (mix 145 215 (fun _ => 0) a)))).1 m = some (cO 10 (.ref (m + 1) :: fs)) := ps_ne (by omega) h
    have hcf := hlo.cf hl (kd := kd) (n := len) (k := (i : Int)) hs ht
    have hcc := fun th0 => c_X10_coefficientOf (g := g) (mc := th0) (ms := 0) h1 ps_same (hlo.ml hl) hs ht hkd (n := len) (k := (i : Int)) (by omega) ⟨by omega, by omega⟩ (by omega)
    rw [hcf] at hcc
    have b1 := hl.1 s hs.1 (by omega)
    have b2 := hl.1 t ht.1 (by omega)
    have hcb := cfI_bd (kd := kd) (n := len) (k := (i : Int)) (f := tmF a s) (h := tmF a t) (lb := (a (7 + t)).toNat) (by omega) (fun q q1 q2 => tm_ok hl ht b2.2 q q1 (by omega)) (a (7 + s)).toNat (fun q q1 q2 => tm_ok hl hs b1.2 q q1 (by omega))
    have eV : muV a kd s t len set (151 + (i : Int)) = ctr (cfI kd len (i : Int) (tmF a s) (tmF a t) (a (7 + t)).toNat (a (7 + s)).toNat) (prC a set) := by
      unfold muV
      rw [show 151 + (i : Int) - 151 = (i : Int) by omega]
    generalize cfI kd len (i : Int) (tmF a s) (tmF a t) (a (7 + t)).toNat (a (7 + s)).toNat = cv at *
    generalize hWW : prC a set = W at *
    have htm := tmod_bd cv (p := W) (by omega)
    have hfx := tmod_fix (v := cv) (W := W) (by omega)
    have hem := Int.emod_lt_of_pos cv (show 0 < W by omega)
    have hem0 := Int.emod_nonneg cv (show W ≠ 0 by omega)
    have eC : ctr cv W = if W / 2 < cv % W then cv % W - W else cv % W := rfl
    refine r_iload dX10_multiply_146 rfl (r_iload dX10_multiply_148 rfl ?_)
    refine r_icmp_ge 227 dX10_multiply_150 (by decide) (by omega) (by omega) (fun c1 => ?_) (fun c1 => ?_)
    · omega
    · refine r_aload_n dX10_multiply_153 (i := 0) rfl rfl (r_iload_n dX10_multiply_154 (i := 1) rfl rfl (r_iload_n dX10_multiply_155 (i := 2) rfl rfl (r_iload_n dX10_multiply_156 (i := 3) rfl rfl (r_iload dX10_multiply_157 rfl ?_))))
      refine r_iload dX10_multiply_159 rfl (c_vr dX10_multiply_161 (hcc 0) rfl rfl mq_X10_coefficientOf ml_X10_258 ⟨Nat.le_of_ble_eq_true rfl, Nat.le_of_ble_eq_true rfl⟩ h1 rfl rfl rfl (Nat.le_of_ble_eq_true rfl) (r_lload dX10_multiply_164 rfl (r_lrem dX10_multiply_166 (by omega) (by omega) (by omega) (r_lstore dX10_multiply_167 rfl (Nat.le_of_ble_eq_true rfl) ?_))))
      refine r_lload dX10_multiply_169 rfl (r_lconst (z := 0) dX10_multiply_171 (by decide) ?_)
      refine r_lcmp_ge 184 dX10_multiply_172 dX10_multiply_173 (by decide) (by omega) (by omega) (fun c2 => ?_) (fun c2 => ?_)
      · refine r_lload dX10_multiply_184 rfl (r_lstore dX10_multiply_186 rfl (Nat.le_of_ble_eq_true rfl) (r_aload_n dX10_multiply_188 (i := 0) rfl rfl (r_get dX10_multiply_189 fl_X10_7 h1 rfl (r_sipush dX10_multiply_192 (by decide) ?_))))
        refine r_iload dX10_multiply_195 rfl (r_iadd dX10_multiply_197 (r_lload dX10_multiply_198 rfl (r_lload dX10_multiply_200 rfl (r_ldc2 dX10_multiply_202 csj_X10_151 ?_))))
        refine r_ldivN dX10_multiply_205 (by omega) (by omega) (by omega) (by omega) ?_
        refine r_lcmp_le 218 dX10_multiply_206 dX10_multiply_207 (by decide) (by omega) (by omega) (fun c3 => ?_) (fun c3 => ?_)
        · refine r_lload dX10_multiply_218 rfl (r_last dX10_multiply_220 ps_same (by omega) (by omega) (by omega) (r_iinc dX10_multiply_221 rfl rfl (r_goto 146 dX10_multiply_224 (by decide) ?_)))
          rw [ps_put_put, mix_up (A := muV a kd s t len set) (lo := 151) (i := 151 + (i : Int)) (B := mix 145 215 (fun _ => 0) a) (by omega) (by
            rw [eV, eC]
            first
              | rw [if_pos (by omega)] at hfx
              | rw [if_neg (by omega)] at hfx
            first
              | (rw [if_pos (by omega)]; omega)
              | (rw [if_neg (by omega)]; omega)), Int.add_assoc]
          exact r_loc [(0, some (.ref m)), (1, some (vi kd)), (2, some (vi s)), (3, some (vi t)), (4, some (vi len)), (5, some (vi set)), (6, some (vi n)), (7, some (vl W)), (9, some (vi ((i + 1 : Nat) : Int)))] ⟨Or.inl rfl, Or.inl rfl, Or.inl rfl, Or.inl rfl, Or.inl rfl, Or.inl rfl, Or.inl rfl, Or.inl rfl, Or.inl rfl, trivial⟩ (ih (i + 1) (by omega))
        · refine r_lload dX10_multiply_210 rfl (r_lload dX10_multiply_212 rfl (r_lsub dX10_multiply_214 (r_goto 220 dX10_multiply_215 (by decide) (r_last dX10_multiply_220 ps_same (by omega) (by omega) (by omega) ?_))))
          refine r_iinc dX10_multiply_221 rfl rfl (r_goto 146 dX10_multiply_224 (by decide) ?_)
          rw [ps_put_put, mix_up (A := muV a kd s t len set) (lo := 151) (i := 151 + (i : Int)) (B := mix 145 215 (fun _ => 0) a) (by omega) (by
            rw [eV, eC]
            first
              | rw [if_pos (by omega)] at hfx
              | rw [if_neg (by omega)] at hfx
            first
              | (rw [if_pos (by omega)]; omega)
              | (rw [if_neg (by omega)]; omega)), Int.add_assoc]
          exact r_loc [(0, some (.ref m)), (1, some (vi kd)), (2, some (vi s)), (3, some (vi t)), (4, some (vi len)), (5, some (vi set)), (6, some (vi n)), (7, some (vl W)), (9, some (vi ((i + 1 : Nat) : Int)))] ⟨Or.inl rfl, Or.inl rfl, Or.inl rfl, Or.inl rfl, Or.inl rfl, Or.inl rfl, Or.inl rfl, Or.inl rfl, Or.inl rfl, trivial⟩ (ih (i + 1) (by omega))
      · refine r_lload dX10_multiply_176 rfl (r_lload dX10_multiply_178 rfl (r_ladd dX10_multiply_180 (r_goto 186 dX10_multiply_181 (by decide) (r_lstore dX10_multiply_186 rfl (Nat.le_of_ble_eq_true rfl) ?_))))
        refine r_aload_n dX10_multiply_188 (i := 0) rfl rfl (r_get dX10_multiply_189 fl_X10_7 h1 rfl (r_sipush dX10_multiply_192 (by decide) (r_iload dX10_multiply_195 rfl (r_iadd dX10_multiply_197 ?_))))
        refine r_lload dX10_multiply_198 rfl (r_lload dX10_multiply_200 rfl (r_ldc2 dX10_multiply_202 csj_X10_151 (r_ldivN dX10_multiply_205 (by omega) (by omega) (by omega) (by omega) ?_)))
        refine r_lcmp_le 218 dX10_multiply_206 dX10_multiply_207 (by decide) (by omega) (by omega) (fun c4 => ?_) (fun c4 => ?_)
        · refine r_lload dX10_multiply_218 rfl (r_last dX10_multiply_220 ps_same (by omega) (by omega) (by omega) (r_iinc dX10_multiply_221 rfl rfl (r_goto 146 dX10_multiply_224 (by decide) ?_)))
          rw [ps_put_put, mix_up (A := muV a kd s t len set) (lo := 151) (i := 151 + (i : Int)) (B := mix 145 215 (fun _ => 0) a) (by omega) (by
            rw [eV, eC]
            first
              | rw [if_pos (by omega)] at hfx
              | rw [if_neg (by omega)] at hfx
            first
              | (rw [if_pos (by omega)]; omega)
              | (rw [if_neg (by omega)]; omega)), Int.add_assoc]
          exact r_loc [(0, some (.ref m)), (1, some (vi kd)), (2, some (vi s)), (3, some (vi t)), (4, some (vi len)), (5, some (vi set)), (6, some (vi n)), (7, some (vl W)), (9, some (vi ((i + 1 : Nat) : Int)))] ⟨Or.inl rfl, Or.inl rfl, Or.inl rfl, Or.inl rfl, Or.inl rfl, Or.inl rfl, Or.inl rfl, Or.inl rfl, Or.inl rfl, trivial⟩ (ih (i + 1) (by omega))
        · refine r_lload dX10_multiply_210 rfl (r_lload dX10_multiply_212 rfl (r_lsub dX10_multiply_214 (r_goto 220 dX10_multiply_215 (by decide) (r_last dX10_multiply_220 ps_same (by omega) (by omega) (by omega) ?_))))
          refine r_iinc dX10_multiply_221 rfl rfl (r_goto 146 dX10_multiply_224 (by decide) ?_)
          rw [ps_put_put, mix_up (A := muV a kd s t len set) (lo := 151) (i := 151 + (i : Int)) (B := mix 145 215 (fun _ => 0) a) (by omega) (by
            rw [eV, eC]
            first
              | rw [if_pos (by omega)] at hfx
              | rw [if_neg (by omega)] at hfx
            first
              | (rw [if_pos (by omega)]; omega)
              | (rw [if_neg (by omega)]; omega)), Int.add_assoc]
          exact r_loc [(0, some (.ref m)), (1, some (vi kd)), (2, some (vi s)), (3, some (vi t)), (4, some (vi len)), (5, some (vi set)), (6, some (vi n)), (7, some (vl W)), (9, some (vi ((i + 1 : Nat) : Int)))] ⟨Or.inl rfl, Or.inl rfl, Or.inl rfl, Or.inl rfl, Or.inl rfl, Or.inl rfl, Or.inl rfl, Or.inl rfl, Or.inl rfl, trivial⟩ (ih (i + 1) (by omega))
theorem l_mb {kd s t len set n W : Int} (h : S.1 m = some (cO 10 (.ref (m + 1) :: fs))) (hp : MP a) (hset : 0 ≤ set ∧ set ≤ 64)
    (hk : PW g cX10_multiply (iX10_multiply mc ms) 310 [(0, some (.ref m)), (1, some (vi kd)), (2, some (vi s)), (3, some (vi t)), (4, some (vi len)), (5, some (vi set)), (6, some (vi n)), (7, some (vl W))] [] (ps_put S (m + 1) (cJ 215 (muB a kd s t len set (a 0).toNat))) kc ks Q) : ∀ (r k : Nat), (k : Int) + r = a 0 →
    PW g cX10_multiply (iX10_multiply mc ms) 239 [(0, some (.ref m)), (1, some (vi kd)), (2, some (vi s)), (3, some (vi t)), (4, some (vi len)), (5, some (vi set)), (6, some (vi n)), (7, some (vl W)), (9, some (vi (k : Int)))] [] (ps_put S (m + 1) (cJ 215 (muB a kd s t len set k))) kc ks Q := by
  intro r
  have h0 := hp.1
  induction r with
  | zero =>
    intro k hi
    have e1 := muB_lo (a := a) (kd := kd) (s := s) (t := t) (len := len) (set := set) 0 (by omega) (by omega) k
    have h1 : (ps_put S (m + 1) (cJ 215 (muB a kd s t len set k))).1 m = some (cO 10 (.ref (m + 1) :: fs)) := ps_ne (by omega) h
    refine r_iload dX10_multiply_239 rfl (r_i2l dX10_multiply_241 (by omega) (r_aload_n dX10_multiply_242 (i := 0) rfl rfl (r_get dX10_multiply_243 fl_X10_7 h1 rfl (r_iconst dX10_multiply_246 ?_))))
    refine r_lald dX10_multiply_247 ps_same (by omega) (by omega) (by omega) ?_
    rw [e1]
    refine r_lcmp_ge 310 dX10_multiply_248 dX10_multiply_249 (by decide) (by omega) (by omega) (fun c1 => ?_) (fun c1 => ?_)
    · rw [show (a 0).toNat = k by omega] at hk
      exact r_loc [(0, some (.ref m)), (1, some (vi kd)), (2, some (vi s)), (3, some (vi t)), (4, some (vi len)), (5, some (vi set)), (6, some (vi n)), (7, some (vl W))] ⟨Or.inl rfl, Or.inl rfl, Or.inl rfl, Or.inl rfl, Or.inl rfl, Or.inl rfl, Or.inl rfl, Or.inl rfl, trivial⟩ hk
    · omega
  | succ r ih =>
    intro k hi
    have e1 := muB_lo (a := a) (kd := kd) (s := s) (t := t) (len := len) (set := set) 0 (by omega) (by omega) k
    have e2 := muB_lo (a := a) (kd := kd) (s := s) (t := t) (len := len) (set := set) (1 + (k : Int)) (by omega) (by omega) k
    have hb := muB_bd (a := a) (kd := kd) (s := s) (t := t) (len := len) (set := set) k
    have hdb := div_bd hset.1 hset.2 (k : Int)
    have hpk := hp.2 k (by omega) (by omega)
    have eB : muB a kd s t len set (k + 1) = if b2c (bt set (k : Int)) = 1 then upI (upI (muB a kd s t len set k) (145 + muB a kd s t len set k 144) (a (1 + (k : Int)))) 144 (muB a kd s t len set k 144 + 1) else muB a kd s t len set k := rfl
    have ih2 := ih (k + 1) (by omega)
    generalize muB a kd s t len set k = f at *
    have e3 : upI f (145 + f 144) (a (1 + (k : Int))) 144 = f 144 := upI_ne (by omega)
    have h1 : (ps_put S (m + 1) (cJ 215 f)).1 m = some (cO 10 (.ref (m + 1) :: fs)) := ps_ne (by omega) h
    refine r_iload dX10_multiply_239 rfl (r_i2l dX10_multiply_241 (by omega) (r_aload_n dX10_multiply_242 (i := 0) rfl rfl (r_get dX10_multiply_243 fl_X10_7 h1 rfl (r_iconst dX10_multiply_246 ?_))))
    refine r_lald dX10_multiply_247 ps_same (by omega) (by omega) (by omega) ?_
    rw [e1]
    refine r_lcmp_ge 310 dX10_multiply_248 dX10_multiply_249 (by decide) (by omega) (by omega) (fun c1 => ?_) (fun c1 => ?_)
    · omega
    · refine r_iload dX10_multiply_252 rfl (r_iload dX10_multiply_254 rfl ?_)
      refine r_ishr (set / 2 ^ (k : Int).toNat) dX10_multiply_256 (q_shr ⟨by omega, by omega⟩ (by omega)) ?_
      refine r_iconst dX10_multiply_257 ?_
      refine r_iand (set / 2 ^ (k : Int).toNat % 2) dX10_multiply_258 (q_and1 (by omega) (by omega)) ?_
      refine r_if_ne 265 dX10_multiply_259 (by decide) (by omega) (fun c2 => ?_) (fun c2 => ?_)
      · refine r_aload_n dX10_multiply_265 (i := 0) rfl rfl (r_get dX10_multiply_266 fl_X10_7 h1 rfl (r_sipush dX10_multiply_269 (by decide) (r_aload_n dX10_multiply_272 (i := 0) rfl rfl (r_get dX10_multiply_273 fl_X10_7 h1 rfl ?_))))
        refine r_sipush dX10_multiply_276 (by decide) (r_lald dX10_multiply_279 ps_same (by omega) (by omega) (by omega) (r_l2i dX10_multiply_280 (r_iadd dX10_multiply_281 (r_aload_n dX10_multiply_282 (i := 0) rfl rfl ?_))))
        refine r_get dX10_multiply_283 fl_X10_7 h1 rfl (r_iconst dX10_multiply_286 (r_iload dX10_multiply_287 rfl (r_iadd dX10_multiply_289 (r_lald dX10_multiply_290 ps_same (by omega) (by omega) (by omega) ?_))))
        rw [e2]
        refine r_last dX10_multiply_291 ps_same (by omega) (by omega) (by omega) (r_aload_n dX10_multiply_292 (i := 0) rfl rfl (r_get dX10_multiply_293 fl_X10_7 (ps_ne (by omega) h1) rfl (r_sipush dX10_multiply_296 (by decide) ?_)))
        refine r_dup2_11 dX10_multiply_299 rfl rfl ?_
        refine r_lald dX10_multiply_300 ps_same (by omega) (by omega) (by omega) ?_
        rw [e3]
        refine r_lconst (z := 1) dX10_multiply_301 (by decide) (r_ladd dX10_multiply_302 (r_last dX10_multiply_303 ps_same (by omega) (by omega) (by omega) (r_iinc dX10_multiply_304 rfl rfl (r_goto 239 dX10_multiply_307 (by decide) ?_))))
        first
          | (rw [b2c_t (show bt set (k : Int) by show set / 2 ^ (k : Int).toNat % 2 = 1; omega), if_pos rfl] at eB
             rw [eB] at ih2
             rw [ps_put_put, ps_put_put]
             exact r_loc [(0, some (.ref m)), (1, some (vi kd)), (2, some (vi s)), (3, some (vi t)), (4, some (vi len)), (5, some (vi set)), (6, some (vi n)), (7, some (vl W)), (9, some (vi ((k + 1 : Nat) : Int)))] ⟨Or.inl rfl, Or.inl rfl, Or.inl rfl, Or.inl rfl, Or.inl rfl, Or.inl rfl, Or.inl rfl, Or.inl rfl, Or.inl rfl, trivial⟩ ih2)
          | (rw [b2c_f (show ¬ bt set (k : Int) from fun z => by have z2 : set / 2 ^ (k : Int).toNat % 2 = 1 := z; omega), if_neg (by decide)] at eB
             rw [eB] at ih2
             exact r_loc [(0, some (.ref m)), (1, some (vi kd)), (2, some (vi s)), (3, some (vi t)), (4, some (vi len)), (5, some (vi set)), (6, some (vi n)), (7, some (vl W)), (9, some (vi ((k + 1 : Nat) : Int)))] ⟨Or.inl rfl, Or.inl rfl, Or.inl rfl, Or.inl rfl, Or.inl rfl, Or.inl rfl, Or.inl rfl, Or.inl rfl, Or.inl rfl, trivial⟩ ih2)
      · refine r_goto 304 dX10_multiply_262 (by decide) (r_iinc dX10_multiply_304 rfl rfl (r_goto 239 dX10_multiply_307 (by decide) ?_))
        first
          | (rw [b2c_t (show bt set (k : Int) by show set / 2 ^ (k : Int).toNat % 2 = 1; omega), if_pos rfl] at eB
             rw [eB] at ih2
             rw [ps_put_put, ps_put_put]
             exact r_loc [(0, some (.ref m)), (1, some (vi kd)), (2, some (vi s)), (3, some (vi t)), (4, some (vi len)), (5, some (vi set)), (6, some (vi n)), (7, some (vl W)), (9, some (vi ((k + 1 : Nat) : Int)))] ⟨Or.inl rfl, Or.inl rfl, Or.inl rfl, Or.inl rfl, Or.inl rfl, Or.inl rfl, Or.inl rfl, Or.inl rfl, Or.inl rfl, trivial⟩ ih2)
          | (rw [b2c_f (show ¬ bt set (k : Int) from fun z => by have z2 : set / 2 ^ (k : Int).toNat % 2 = 1 := z; omega), if_neg (by decide)] at eB
             rw [eB] at ih2
             exact r_loc [(0, some (.ref m)), (1, some (vi kd)), (2, some (vi s)), (3, some (vi t)), (4, some (vi len)), (5, some (vi set)), (6, some (vi n)), (7, some (vl W)), (9, some (vi ((k + 1 : Nat) : Int)))] ⟨Or.inl rfl, Or.inl rfl, Or.inl rfl, Or.inl rfl, Or.inl rfl, Or.inl rfl, Or.inl rfl, Or.inl rfl, Or.inl rfl, trivial⟩ ih2)
end MMUL

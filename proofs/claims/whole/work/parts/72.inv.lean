/-! the invariant of the row of numbers is kept, part 1 -/
theorem Hi.mp {a a' : Int → Int} (h : Hi a a') (hp : MP a) : MP a' := by
  have e0 := h.1 0 (by omega) (by omega)
  refine ⟨by rw [e0]; exact hp.1, fun k k0 k1 => ?_⟩
  rw [e0] at k1
  have := hp.1
  rw [h.1 (1 + k) (by omega) (by omega)]
  exact hp.2 k k0 k1
theorem Hi.mv {a a' : Int → Int} (h : Hi a a') (hv : MV a) : MV a' := by
  obtain ⟨h1, h2, h3, h4⟩ := hv
  unfold MV
  rw [h.2 139 (by omega), h.2 143 (by omega), h.2 140 (by omega), h.2 141 (by omega), h.2 144 (by omega), h.2 142 (by omega), h.bp]
  refine ⟨h1, h2, h3, fun z => ?_⟩
  obtain ⟨e1, e2, e3, e4, e5, e6, e7, e8⟩ := h4 z
  refine ⟨e1, e2, e3, e4, e5, fun i i0 i1 => ?_, e7, fun k k0 k1 => ?_⟩
  · rw [h.2 (145 + i) (by omega)]
    exact e6 i i0 i1
  · rw [h.2 (151 + k) (by omega)]
    exact e8 k k0 k1
/-- sequences are the same -/
def Md (a a' : Int → Int) : Prop := ∀ i : Int, 7 ≤ i → i < 139 → a' i = a i
theorem Md.ml {a a' : Int → Int} (h : Md a a') (hl : ML a) : ML a' := by
  refine ⟨fun s s1 s2 => ?_, fun s k s1 s2 k1 k2 => ?_⟩
  · rw [h (7 + s) (by omega) (by omega)]
    exact hl.1 s s1 s2
  · rw [h (11 + 32 * s + k) (by omega) (by omega)]
    exact hl.2 s k s1 s2 k1 k2
theorem cut_hi {a : Int → Int} {s len : Int} (hs : 0 ≤ s ∧ s ≤ 3) : Hi a (upI a (7 + s) len) := ⟨fun i i0 i1 => upI_ne (by omega), fun i i0 => upI_ne (by omega)⟩
theorem cut_ml {a : Int → Int} (hl : ML a) {s len : Int} (hs : 0 ≤ s ∧ s ≤ 3) (hb : 0 ≤ len ∧ len ≤ 32) : ML (upI a (7 + s) len) := by
  refine ⟨fun z z1 z2 => ?_, fun z k z1 z2 k1 k2 => ?_⟩
  · by_cases e : z = s
    · subst e
      rw [upI_eq]
      exact hb
    · rw [upI_ne (by omega)]
      exact hl.1 z z1 z2
  · rw [upI_ne (by omega)]
    exact hl.2 z k z1 z2 k1 k2
theorem ap_hi {a : Int → Int} (hl : ML a) {s v : Int} (hs : 0 ≤ s ∧ s ≤ 3) (hn : a (7 + s) < 32) : Hi a (apA a s v) := by
  have := hl.1 s hs.1 (by omega)
  unfold apA
  exact ⟨fun i i0 i1 => by rw [upI_ne (by omega), upI_ne (by omega)], fun i i0 => by rw [upI_ne (by omega), upI_ne (by omega)]⟩
theorem ap_ml {a : Int → Int} (hl : ML a) {s v : Int} (hs : 0 ≤ s ∧ s ≤ 3) (hn : a (7 + s) < 32) (hv : -9999 ≤ v ∧ v ≤ 9999) : ML (apA a s v) := by
  have h1 := hl.1 s hs.1 (by omega)
  unfold apA
  refine cut_ml ?_ hs (by omega)
  refine ⟨fun z z1 z2 => ?_, fun z k z1 z2 k1 k2 => ?_⟩
  · rw [upI_ne (by omega)]
    exact hl.1 z z1 z2
  · by_cases e : 11 + 32 * z + k = 11 + 32 * s + a (7 + s)
    · rw [e, upI_eq]
      exact hv
    · rw [upI_ne e]
      exact hl.2 z k z1 z2 k1 k2
theorem sw_ml {a : Int → Int} (hl : ML a) {s t : Int} (hs : 0 ≤ s ∧ s ≤ 3) (ht : 0 ≤ t ∧ t ≤ 3) : ML (swA a s t) := by
  have hswI : ∀ z : Int, 0 ≤ z → z < 4 → 0 ≤ swI s t z ∧ swI s t z < 4 := fun z z0 z1 => by
    unfold swI
    split
    · omega
    · split <;> omega
  refine ⟨fun z z1 z2 => ?_, fun z k z1 z2 k1 k2 => ?_⟩
  · rw [swA_len hs ht ⟨z1, z2⟩]
    exact hl.1 _ (hswI z z1 z2).1 (hswI z z1 z2).2
  · rw [swA_tm hs ht ⟨z1, z2⟩ ⟨k1, k2⟩]
    exact hl.2 _ k (hswI z z1 z2).1 (hswI z z1 z2).2 k1 k2
/-- the terms of one slot anew -/
theorem mix_ml {a f : Int → Int} (hl : ML a) {s c : Int} (hs : 0 ≤ s ∧ s ≤ 3) (hc : 0 ≤ c ∧ c ≤ 32) (hf : ∀ k : Int, 0 ≤ k → k < c → -9999 ≤ f (11 + 32 * s + k) ∧ f (11 + 32 * s + k) ≤ 9999) : ML (mix (11 + 32 * s) (11 + 32 * s + c) f a) := by
  refine ⟨fun z z1 z2 => ?_, fun z k z1 z2 k1 k2 => ?_⟩
  · rw [mix_out (by omega)]
    exact hl.1 z z1 z2
  · by_cases e : 11 + 32 * s ≤ 11 + 32 * z + k ∧ 11 + 32 * z + k < 11 + 32 * s + c
    · rw [mix_in e]
      have ez : z = s := by omega
      subst ez
      exact hf k k1 (by omega)
    · rw [mix_out (by omega)]
      exact hl.2 z k z1 z2 k1 k2
theorem mix_hi {a f : Int → Int} {s c len : Int} (hs : 0 ≤ s ∧ s ≤ 3) (hc : 0 ≤ c ∧ c ≤ 32) : Hi a (upI (mix (11 + 32 * s) (11 + 32 * s + c) f a) (7 + s) len) := ⟨fun i i0 i1 => by rw [upI_ne (by omega), mix_out (by omega)], fun i i0 => by rw [upI_ne (by omega), mix_out (by omega)]⟩
theorem st_ml {a : Int → Int} (hl : ML a) (hv : MV a) {s : Int} (hs : 0 ≤ s ∧ s ≤ 3) (ho : StoreOk a) : ML (stA a s) := by
  have h1 := hv.2.1
  have h2 := ho.1.2
  unfold stA
  refine cut_ml (mix_ml hl hs (by omega) (fun k k0 k1 => ?_)) hs (by omega)
  show -9999 ≤ a (151 + (11 + 32 * s + k - (11 + 32 * s))) ∧ a (151 + (11 + 32 * s + k - (11 + 32 * s))) ≤ 9999
  rw [show 11 + 32 * s + k - (11 + 32 * s) = k by omega]
  exact ho.2 k k0 k1
/-- terms that are evenly apart lie between the first and the last -/
theorem even_bd {fr st len k M : Int} (h0 : -M ≤ fr ∧ fr ≤ M) (h1 : -M ≤ fr + st * (len - 1) ∧ fr + st * (len - 1) ≤ M) (hk : 0 ≤ k ∧ k < len) : -M ≤ fr + st * k ∧ fr + st * k ≤ M := by
  rcases Int.lt_or_le st 0 with z | z
  · have e1 := Int.mul_le_mul_of_nonpos_left (show st ≤ 0 by omega) (show k ≤ len - 1 by omega)
    have e2 := Int.mul_le_mul_of_nonpos_left (show st ≤ 0 by omega) (show 0 ≤ k by omega)
    rw [Int.mul_zero] at e2
    omega
  · have e1 := Int.mul_le_mul_of_nonneg_left (show k ≤ len - 1 by omega) z
    have e2 := Int.mul_nonneg z hk.1
    omega
theorem se_ml {a : Int → Int} (hl : ML a) {s len fr st : Int} (h : kSet4 s len fr st = 0) : ML (seA a s len fr st) := by
  unfold kSet4 at h
  split at h
  · next hs =>
    split at h
    · next hc =>
      unfold seA
      refine cut_ml (mix_ml hl hs (by omega) (fun k k0 k1 => ?_)) hs (by omega)
      show -9999 ≤ (if 11 + 32 * s + k - (11 + 32 * s) < len then fr + st * (11 + 32 * s + k - (11 + 32 * s)) else 0) ∧ (if 11 + 32 * s + k - (11 + 32 * s) < len then fr + st * (11 + 32 * s + k - (11 + 32 * s)) else 0) ≤ 9999
      rw [show 11 + 32 * s + k - (11 + 32 * s) = k by omega]
      split
      · have hlast : (-9999 ≤ fr ∧ fr ≤ 9999) ∧ -9999 ≤ fr + st * (len - 1) ∧ fr + st * (len - 1) ≤ 9999 := by omega
        exact even_bd hlast.1 hlast.2 (by omega)
      · omega
    · omega
  · omega
theorem add_mp {a : Int → Int} (hp : MP a) {p : Int} (h : kAdd a p = 0) : MP (addA a p) := by
  have h0 := hp.1
  by_cases hc : canAdd a p
  · rw [kAdd_y hc] at h
    split at h
    · omega
    · unfold addA
      refine ⟨by rw [upI_eq]; omega, fun k k0 k1 => ?_⟩
      rw [upI_eq] at k1
      rw [upI_ne (by omega)]
      by_cases e : 1 + k = 1 + a 0
      · rw [e, upI_eq]
        exact ⟨hc.1.1, hc.1.2, hc.2.1⟩
      · rw [upI_ne e]
        exact hp.2 k k0 (by omega)
  · rw [kAdd_n hc] at h
    omega
theorem add_md {a : Int → Int} (hp : MP a) {p : Int} (h : a 0 < 6) : Md a (addA a p) ∧ ∀ i : Int, 139 ≤ i → addA a p i = a i := by
  have h0 := hp.1
  unfold addA
  exact ⟨fun i i0 i1 => by rw [upI_ne (by omega), upI_ne (by omega)], fun i i0 => by rw [upI_ne (by omega), upI_ne (by omega)]⟩
theorem rm_mp {a : Int → Int} (hp : MP a) {q : Int} (h : 0 ≤ q ∧ q ≤ a 0 - 1) : MP (rmA a q) := by
  have h0 := hp.1
  unfold rmA
  have e0 : upI (upI (mix (1 + q) (a 0) (fun x => a (x + 1)) a) 0 (a 0 - 1)) (a 0) 0 0 = a 0 - 1 := by
    rw [upI_ne (by omega), upI_eq]
  refine ⟨by rw [e0]; omega, fun k k0 k1 => ?_⟩
  rw [e0] at k1
  rw [upI_ne (by omega), upI_ne (by omega)]
  by_cases e : 1 + q ≤ 1 + k
  · rw [mix_in (by omega)]
    show 3 ≤ a (1 + k + 1) ∧ a (1 + k + 1) ≤ 100003 ∧ Pr (a (1 + k + 1)).toNat
    have := hp.2 (k + 1) (by omega) (by omega)
    rw [show 1 + k + 1 = 1 + (k + 1) by omega]
    exact this
  · rw [mix_out (by omega)]
    exact hp.2 k k0 (by omega)

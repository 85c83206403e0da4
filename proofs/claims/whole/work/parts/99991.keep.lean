/-! the row of numbers keeps its invariant over every change -/
def IA (a : Int → Int) : Prop := MP a ∧ ML a ∧ MV a ∧ MD a
theorem NB.ia {a : Int → Int} (h : NB a) : IA a := ⟨h.1, h.2.1, h.mv, h.2.2.1⟩
theorem Hi.ia {a a' : Int → Int} (h : Hi a a') (hi : IA a) (hl : ML a') : IA a' := ⟨h.mp hi.1, hl, h.mv hi.2.2.1, h.md hi.1.1 hi.2.2.2⟩
theorem ia_cut {a : Int → Int} (hi : IA a) {s len : Int} (h : kCut a s len = 0) : IA (upI a (7 + s) len) := by
  unfold kCut at h
  split at h
  · next hs =>
    split at h
    · next hc =>
      have := hi.2.1.1 s hs.1 (by omega)
      exact (cut_hi hs).ia hi (cut_ml hi.2.1 hs (by omega))
    · omega
  · omega
theorem ia_app {a : Int → Int} (hi : IA a) {s v : Int} (h : kApp a s v = 0) : IA (apA a s v) := by
  unfold kApp at h
  split at h
  · next hs =>
    split at h
    · next hv =>
      split at h
      · omega
      · next hn =>
        have := hi.2.1.1 s hs.1 (by omega)
        exact (ap_hi hi.2.1 hs (by omega)).ia hi (ap_ml hi.2.1 hs (by omega) hv)
    · omega
  · omega
theorem ia_set {a : Int → Int} (hi : IA a) {s len fr st : Int} (h : kSet4 s len fr st = 0) : IA (seA a s len fr st) := by
  have hs : 0 ≤ s ∧ s ≤ 3 := by
    unfold kSet4 at h
    split at h
    · assumption
    · omega
  exact Hi.ia (mix_hi (c := 32) hs (by omega)) hi (se_ml hi.2.1 h)
theorem ia_swap {a : Int → Int} (hi : IA a) {s t : Int} (h : kSwap s t = 0) : IA (swA a s t) := by
  unfold kSwap at h
  split at h
  · next hs => exact (swA_hi hs.1 hs.2).ia hi (sw_ml hi.2.1 hs.1 hs.2)
  · omega
theorem ia_store {a : Int → Int} (hi : IA a) {s : Int} (h : kStore a s = 0) : IA (stA a s) := by
  unfold kStore at h
  split at h
  · next hs =>
    have ho : StoreOk a := by
      by_cases z : StoreOk a
      · exact z
      · rw [b2c_f z] at h
        omega
    have := hi.2.2.1.2.1
    have h2 := ho.1.2
    exact Hi.ia (mix_hi (c := a 143) hs (by omega)) hi (st_ml hi.2.1 hi.2.2.1 hs ho)
  · omega
theorem rmA_at {a : Int → Int} {q i : Int} (h0 : 0 ≤ i) (h1 : i < a 0 - 1) (hq : 0 ≤ q) : rmA a q (1 + i) = if i < q then a (1 + i) else a (1 + i + 1) := by
  unfold rmA
  rw [upI_ne (by omega), upI_ne (by omega)]
  split
  · rw [mix_out (by omega)]
  · rw [mix_in (by omega)]
theorem ia_rm {a : Int → Int} (hi : IA a) {q : Int} (h : kThere a q = 0) : IA (rmA a q) := by
  unfold kThere at h
  split at h
  · next hq =>
    obtain ⟨h1, h2, h3, h4⟩ := hi
    obtain ⟨m1, m2⟩ := rm_md h1 hq
    refine ⟨rm_mp h1 hq, m1.ml h2, m2.mv h3, fun i j i0 ij j1 => ?_⟩
    have e0 : rmA a q 0 = a 0 - 1 := by
      unfold rmA
      rw [upI_ne (by omega), upI_eq]
    rw [e0] at j1
    rw [rmA_at i0 (by omega) hq.1, rmA_at (by omega) j1 hq.1]
    split
    · split
      · exact h4 i j i0 ij (by omega)
      · rw [show 1 + j + 1 = 1 + (j + 1) by omega]
        exact h4 i (j + 1) i0 (by omega) (by omega)
    · split
      · omega
      · rw [show 1 + j + 1 = 1 + (j + 1) by omega, show 1 + i + 1 = 1 + (i + 1) by omega]
        exact h4 (i + 1) (j + 1) (by omega) (by omega) (by omega)
  · omega
theorem ia_add {a : Int → Int} (hi : IA a) {p : Int} (h : kAdd a p = 0) : IA (addA a p) := by
  by_cases hc : canAdd a p
  · have h2 := h
    rw [kAdd_y hc] at h2
    obtain ⟨h1, hl, hv, hd⟩ := hi
    have h0 := h1.1
    by_cases h6 : a 0 = 6
    · rw [if_pos h6] at h2
      omega
    · obtain ⟨m1, m2⟩ := add_md (p := p) h1 (by omega)
      exact ⟨add_mp h1 h, m1.ml hl, Up.mv m2 hv, add_MD h1 hd hc⟩
  · rw [kAdd_n hc] at h
    omega
theorem ia_mul {a : Int → Int} (hi : IA a) {kd s t len set : Int} (h : kMul a kd s t len set = 0) : IA (muA a kd s t len set) := by
  obtain ⟨h1, hl, hv, hd⟩ := hi
  unfold kMul at h
  split at h
  · next hst =>
    split at h
    · next n0 =>
      by_cases hc : canMul a kd s t len set (prC a set)
      · obtain ⟨c1, c2, c3⟩ := hc
        have hz : kindOk a kd s t len := by
          rcases c3 with z | z
          · exact Or.inl z.1
          · exact Or.inr ⟨by omega, c1.2, z.2.1, z.2.2⟩
        have hlo : Lo a (muA a kd s t len set) := muA_lo
        refine ⟨⟨?_, fun k k0 k1 => ?_⟩, hlo.ml hl, mu_mv h1 hl (by omega) n0 hz c1.2 c2.2, fun i j i0 ij j1 => ?_⟩
        · rw [hlo 0 (by omega) (by omega)]
          exact h1.1
        · have h0 := h1.1
          rw [hlo 0 (by omega) (by omega)] at k1
          rw [hlo (1 + k) (by omega) (by omega)]
          exact h1.2 k k0 k1
        · have h0 := h1.1
          rw [hlo 0 (by omega) (by omega)] at j1
          rw [hlo (1 + i) (by omega) (by omega), hlo (1 + j) (by omega) (by omega)]
          exact hd i j i0 ij j1
      · rw [b2c_f hc, if_neg (by decide)] at h
        omega
    · next n0 =>
      exact absurd h n0
  · omega
theorem ia_agr {a a' : Int → Int} (h : Agr a a') (hi : IA a) : IA a' := by
  obtain ⟨h1, hl, hv, hd⟩ := hi
  refine ⟨h.mp h1, h.ml hl, h.mv hv, fun i j i0 ij j1 => ?_⟩
  have h0 := h1.1
  rw [h 0 (by omega) (by omega)] at j1
  rw [h (1 + i) (by omega) (by omega), h (1 + j) (by omega) (by omega)]
  exact hd i j i0 ij j1

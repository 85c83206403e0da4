/-! the convolution by transforms, modulo a prime -/
theorem SM_mulR {c : Int} {f : Nat → Int} (m : Nat) : SM (fun i => f i * c) m = SM f m * c := by
  rw [Int.mul_comm, ← SM_mul]
  exact SM_cong m (fun i _ => Int.mul_comm _ _)
theorem SM_prod {A B : Nat → Int} {C : Int} (n m : Nat) : SM (fun i => SM (fun j => A i * B j * C) n) m = SM A m * SM B n * C := by
  have e : ∀ i, SM (fun j => A i * B j * C) n = A i * (SM B n * C) := fun i => by
    rw [← SM_mulR, ← SM_mul]
    exact SM_cong n (fun j _ => Int.mul_assoc _ _ _)
  rw [SM_cong m (fun i _ => e i), SM_mulR, Int.mul_assoc]
theorem cfJ_SM {kd n k x i : Int} {h : Int → Int} : ∀ j : Nat, cfJ kd n k x h i j = SM (fun j => wgt kd n (i + (j : Int) - k) * (x * h (j : Int))) j
  | 0 => rfl
  | j + 1 => by
    show cfJ kd n k x h i j + wgt kd n (i + (j : Int) - k) * (x * h (j : Int)) = SM _ j + _
    rw [cfJ_SM j]
theorem cfI_SM {kd n k : Int} {f h : Int → Int} {lb : Nat} : ∀ i : Nat, cfI kd n k f h lb i = SM (fun i => SM (fun j => wgt kd n ((i : Int) + (j : Int) - k) * (f (i : Int) * h (j : Int))) lb) i
  | 0 => rfl
  | i + 1 => by
    show cfI kd n k f h lb i + cfJ kd n k (f (i : Int)) h (i : Int) lb = SM _ i + _
    rw [cfI_SM i, cfJ_SM lb]
theorem conv {p L la lb k : Nat} {kd : Int} {f h : Int → Int} {w r t tb Li : Int} (hp : Pr p) (hL : 1 ≤ L) (hw : RtOk p L w r) (htt : Cg p (t * tb) 1) (hLi : Cg p ((L : Int) * Li) 1) (htL : Cg p (t ^ L) (if kd = 2 then -1 else 1)) (hkd : 0 ≤ kd ∧ kd ≤ 2) (hk : k < L) (hsz : (kd = 0 ∧ la + lb ≤ L + 1) ∨ (kd ≠ 0 ∧ la ≤ L ∧ lb ≤ L)) :
    Cg p ((Li * tb ^ k) * SM (fun j => (SM (fun i => f (i : Int) * (t * w ^ j) ^ i) la * SM (fun i => h (i : Int) * (t * w ^ j) ^ i) lb) * (r ^ k) ^ j) L) (cfI kd (L : Int) (k : Int) f h lb la) := by
  have e1 : SM (fun j => (SM (fun i => f (i : Int) * (t * w ^ j) ^ i) la * SM (fun i => h (i : Int) * (t * w ^ j) ^ i) lb) * (r ^ k) ^ j) L = SM (fun i => SM (fun i' => SM (fun j => (f (i : Int) * h (i' : Int) * t ^ (i + i')) * (w ^ (j * (i + i')) * r ^ (j * k))) L) lb) la := by
    rw [SM_cong L (fun j _ => (SM_prod (A := fun i => f (i : Int) * (t * w ^ j) ^ i) (B := fun i => h (i : Int) * (t * w ^ j) ^ i) (C := (r ^ k) ^ j) lb la).symm), SM_swap]
    refine SM_cong la (fun i _ => ?_)
    rw [SM_swap]
    refine SM_cong lb (fun i' _ => SM_cong L (fun j _ => ?_))
    rw [Int.mul_pow, Int.mul_pow, ← Int.pow_mul, ← Int.pow_mul, ← Int.pow_mul, Nat.mul_comm k j, Nat.mul_add, Int.pow_add, Int.pow_add]
    grind
  rw [e1, cfI_SM, ← SM_mul]
  refine Cg.sm la (fun i hi => ?_)
  rw [← SM_mul]
  refine Cg.sm lb (fun i' hi' => ?_)
  rw [SM_mul]
  have ho := orth hp hw (e := i + i') (k := k) (by omega) (by omega)
  have h1 := (Cg.refl (p := p) (Li * tb ^ k)).mul ((Cg.refl (f (i : Int) * h (i' : Int) * t ^ (i + i'))).mul ho)
  refine h1.trans ?_
  have hwv := wgt_val (kd := kd) (n := (L : Int)) (b := (i : Int) + (i' : Int) - (k : Int)) hkd (by
    rcases hsz with z | z
    · exact Or.inl z.1
    · exact Or.inr (by omega))
  have htk : Cg p (t ^ k * tb ^ k) 1 := by
    rw [← Int.mul_pow]
    exact htt.one_pow k
  rw [hwv]
  by_cases c1 : i + i' = k
  · rw [if_pos (Or.inl c1), if_pos (by omega), c1]
    have e2 : Li * tb ^ k * (f (i : Int) * h (i' : Int) * t ^ k * (L : Int)) = (f (i : Int) * h (i' : Int)) * ((t ^ k * tb ^ k) * ((L : Int) * Li)) := by grind
    rw [e2]
    have h3 := (Cg.refl (p := p) (f (i : Int) * h (i' : Int))).mul (htk.mul hLi)
    rw [Int.one_mul, Int.mul_one] at h3
    rw [Int.one_mul]
    exact h3
  · by_cases c2 : i + i' = k + L
    · have hk0 : kd ≠ 0 := by omega
      rw [if_pos (Or.inr c2), if_neg (by omega), if_pos ⟨by omega, hk0⟩, c2, Int.pow_add]
      have e2 : Li * tb ^ k * (f (i : Int) * h (i' : Int) * (t ^ k * t ^ L) * (L : Int)) = (f (i : Int) * h (i' : Int)) * ((t ^ k * tb ^ k) * ((L : Int) * Li) * t ^ L) := by grind
      rw [e2]
      have h3 := (Cg.refl (p := p) (f (i : Int) * h (i' : Int))).mul ((htk.mul hLi).mul htL)
      rw [Int.one_mul, Int.one_mul] at h3
      refine h3.trans (Cg.of ?_)
      unfold sgnK
      rw [if_neg hk0, Int.mul_comm]
    · rw [if_neg (by omega), if_neg (by omega), if_neg (by omega), Int.mul_zero, Int.mul_zero, Int.zero_mul]
      exact Cg.refl _
/-- the roots of a prime's field -/
theorem rt_ok {p L : Nat} (hp : Pr p) (h3 : 3 ≤ p) (hL : 0 < L) (hd : (p - 1) % L = 0) : RtOk p L (rtI p L) (pwI (rtI p L) (p - 2) p) ∧ 0 < rtI p L := by
  have hg := genN_ok hp h3
  have hnd : ¬ p ∣ genN p := fun hd => by have := Nat.le_of_dvd (by have := hg.1; omega) hd; have := hg.2.1; omega
  have hlo := gen_ord hp h3 hnd hg.2.2.1
  have hm := Nat.mod_lt (genN p ^ ((p - 1) / L)) (show 0 < p by omega)
  have hpos := gpow_pos hp hg ((p - 1) / L)
  have hq : (p - 1) / L * L = p - 1 := Nat.div_mul_cancel (Nat.dvd_of_mod_eq_zero hd)
  have e0 : rtI p L = ((genN p ^ ((p - 1) / L) % p : Nat) : Int) := rfl
  have hpw : ∀ d : Nat, Cg p (rtI p L ^ d) ((genN p ^ ((p - 1) / L * d) : Nat) : Int) := fun d => by
    rw [e0, Nat.pow_mul, Int.natCast_pow]
    exact (Cg.nmod _).pow d
  refine ⟨⟨?_, ?_, fun d d0 d1 hc => ?_⟩, by omega⟩
  · refine (hpw L).trans (Cg.nat ?_)
    rw [hq, hlo.2.1, Nat.mod_eq_of_lt (show 1 < p by omega)]
  · have e1 : pwI (rtI p L) (p - 2) p = (((genN p ^ ((p - 1) / L) % p) ^ (p - 2) % p : Nat) : Int) := by
      unfold pwI
      rw [e0, Int.emod_eq_of_lt (by omega) (by omega), Int.toNat_natCast]
    rw [e1, e0, ← Int.natCast_mul]
    refine Cg.nat ?_
    rw [inv_ok hp h3 ⟨hpos, hm⟩, Nat.mod_eq_of_lt (show 1 < p by omega)]
  · have h4 := (hpw d).symm.trans hc
    have h5 := h4.eq
    have hqp : 0 < (p - 1) / L := Nat.pos_of_ne_zero (fun z => by rw [z, Nat.zero_mul] at hq; omega)
    refine hlo.2.2 ((p - 1) / L * d) (Nat.mul_pos hqp d0) ?_ ?_
    · have := Nat.mul_lt_mul_of_pos_left d1 hqp
      omega
    · rw [Int.emod_eq_of_lt (show (0 : Int) ≤ 1 by omega) (show (1 : Int) < p by omega)] at h5
      omega
/-- a root of order 2 L is -1 at L -/
theorem rt_neg {p L : Nat} (hp : Pr p) (h3 : 3 ≤ p) (hL : 0 < L) (hd : (p - 1) % (2 * L) = 0) : Cg p (rtI p (2 * L) ^ L) (-1) := by
  obtain ⟨⟨h1, h2, h4⟩, -⟩ := rt_ok hp h3 (show 0 < 2 * L by omega) hd
  have h5 : (p : Int) ∣ (rtI p (2 * L) ^ L - 1) * (rtI p (2 * L) ^ L - (-1)) := by
    have e : (rtI p (2 * L) ^ L - 1) * (rtI p (2 * L) ^ L - (-1)) = rtI p (2 * L) ^ (2 * L) - 1 := by
      rw [Nat.mul_comm 2 L, Int.pow_mul]
      grind
    rw [e]
    exact h1
  rcases int_pr_mul hp h5 with h | h
  · exact absurd h (h4 L hL (by omega))
  · exact h

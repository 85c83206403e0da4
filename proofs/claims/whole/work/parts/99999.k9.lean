/-! the law: every call's number is 9 at most -/
section K9
variable {a : Int → Int} {ct fd : Int}
theorem k9_feed {v0 v1 v2 v3 v4 : Int} : ((if 580 < fd then 1 else 0) : Int) ≤ 9 := by
  split <;> omega
theorem k9_addPrime {p : Int} : ((kAdd a p) : Int) ≤ 9 := by
  unfold kAdd
  repeat' (first | omega | split)
theorem k9_removePrime {q : Int} : ((kThere a q) : Int) ≤ 9 := by
  unfold kThere
  repeat' (first | omega | split)
theorem k9_prime {q w : Int} : ((kPrime a q w) : Int) ≤ 9 := by
  unfold kPrime
  repeat' (first | omega | split)
theorem k9_root {q n : Int} : ((kRoot a q n) : Int) ≤ 9 := by
  unfold kRoot
  repeat' (first | omega | split)
theorem k9_power {q b e : Int} : ((kPower a q e) : Int) ≤ 9 := by
  unfold kPower
  repeat' (first | omega | split)
theorem k9_inverse {q v : Int} : ((noUnitI a q v) : Int) ≤ 9 := by
  unfold noUnitI
  repeat' (first | omega | split)
theorem k9_order {q v : Int} : ((noUnitI a q v) : Int) ≤ 9 := by
  unfold noUnitI
  repeat' (first | omega | split)
theorem k9_logarithm {q v : Int} : ((noUnitI a q v) : Int) ≤ 9 := by
  unfold noUnitI
  repeat' (first | omega | split)
theorem k9_primeFor {n ab : Int} : ((kPrimeFor n ab) : Int) ≤ 9 := by
  unfold kPrimeFor
  repeat' (first | omega | split)
theorem k9_usable {kd n : Int} : ((kUsable kd n) : Int) ≤ 9 := by
  unfold kUsable
  repeat' (first | omega | split)
theorem k9_length {s : Int} : ((kLength s) : Int) ≤ 9 := by
  unfold kLength
  repeat' (first | omega | split)
theorem k9_term {s k : Int} : ((kTerm a s k) : Int) ≤ 9 := by
  unfold kTerm
  repeat' (first | omega | split)
theorem k9_setSequence {s len fr st : Int} : ((kSet4 s len fr st) : Int) ≤ 9 := by
  unfold kSet4
  repeat' (first | omega | split)
theorem k9_append {s v : Int} : ((kApp a s v) : Int) ≤ 9 := by
  unfold kApp
  repeat' (first | omega | split)
theorem k9_cut {s len : Int} : ((kCut a s len) : Int) ≤ 9 := by
  unfold kCut
  repeat' (first | omega | split)
theorem k9_swap {s t : Int} : ((kSwap s t) : Int) ≤ 9 := by
  unfold kSwap
  repeat' (first | omega | split)
theorem k9_transform {q s n k : Int} : ((kTrans a q s n k) : Int) ≤ 9 := by
  unfold kTrans noTrI
  repeat' (first | omega | split)
theorem k9_cost {q n mt : Int} : ((noTrI a q n (b2i (0 ≤ mt ∧ mt ≤ 2))) : Int) ≤ 9 := by
  unfold noTrI
  repeat' (first | omega | split)
theorem k9_method {q n : Int} : ((noTrI a q n 1) : Int) ≤ 9 := by
  unfold noTrI
  repeat' (first | omega | split)
theorem k9_chirp {q n j : Int} : ((noTrI a q n (b2i (0 ≤ j ∧ j ≤ 2 * n))) : Int) ≤ 9 := by
  unfold noTrI
  repeat' (first | omega | split)
theorem k9_longest {set : Int} : ((kSet a set) : Int) ≤ 9 := by
  unfold kSet
  repeat' (first | omega | split)
theorem k9_size {kd s t n : Int} : ((refI a kd s t n) : Int) ≤ 9 := by
  have hl := lacksI_bd a s t
  have hr := refI_bd a kd s t n
  have hz := b2c_01 (p := kindOk a kd s t n)
  unfold refI
  repeat' (first | omega | split)
theorem k9_bound {s t : Int} : ((lacksI a s t) : Int) ≤ 9 := by
  have hl := lacksI_bd a s t
  unfold lacksI
  repeat' (first | omega | split)
theorem k9_coefficient {kd s t n k : Int} : ((kCoef a kd s t n k) : Int) ≤ 9 := by
  have hl := lacksI_bd a s t
  have hr := refI_bd a kd s t n
  have hz := b2c_01 (p := kindOk a kd s t n)
  unfold kCoef
  repeat' (first | omega | split)
theorem k9_isEnough {set s t : Int} : ((kEnough a set s t) : Int) ≤ 9 := by
  have hl := lacksI_bd a s t
  unfold kEnough
  repeat' (first | omega | split)
theorem k9_plan {kd s t n w : Int} : ((kPlan a kd s t n w) : Int) ≤ 9 := by
  have hl := lacksI_bd a s t
  have hr := refI_bd a kd s t n
  have hz := b2c_01 (p := kindOk a kd s t n)
  unfold kPlan
  repeat' (first | omega | split)
theorem k9_multiply {kd s t len set : Int} : ((kMul a kd s t len set) : Int) ≤ 9 := by
  have hl := lacksI_bd a s t
  have hr := refI_bd a kd s t len
  have hz := b2c_01 (p := kindOk a kd s t len)
  unfold kMul
  repeat' (first | omega | split)
theorem k9_product {w : Int} : ((kHas a (0 ≤ w ∧ w ≤ 3)) : Int) ≤ 9 := by
  unfold kHas
  repeat' (first | omega | split)
theorem k9_value {k : Int} : ((kHas a (0 ≤ k ∧ k ≤ a 143 - 1)) : Int) ≤ 9 := by
  unfold kHas
  repeat' (first | omega | split)
theorem k9_digit {k d : Int} : ((kDig a k d) : Int) ≤ 9 := by
  unfold kDig
  repeat' (first | omega | split)
theorem k9_productAt {z : Int} : ((kHas1 a) : Int) ≤ 9 := by
  unfold kHas1
  repeat' (first | omega | split)
theorem k9_residue {q k : Int} : ((kRes a q k) : Int) ≤ 9 := by
  unfold kRes
  repeat' (first | omega | split)
theorem k9_agreeing {s t : Int} : ((kAgree a s t) : Int) ≤ 9 := by
  have hl := lacksI_bd a s t
  unfold kAgree
  repeat' (first | omega | split)
theorem k9_store {s : Int} : ((kStore a s) : Int) ≤ 9 := by
  have hb := b2c_01 (p := StoreOk a)
  unfold kStore
  repeat' (first | omega | split)
theorem k9_undo  : ((if ct = 0 then 1 else 0) : Int) ≤ 9 := by
  split <;> omega
end K9

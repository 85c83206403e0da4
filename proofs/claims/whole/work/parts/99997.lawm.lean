/-! the law: each call of the model -/
/-- behind a call of the model: its number k is in thrown, its answer is v if k = 0; a change's new numbers if k = 0 -/
def MW (S : PS) (x : Nat) (k : Int) (v : Value) (an : Int → Int) (ctn : Int) (kpn : Int → Int) (a : Int → Int) (ct fd ea : Int) (kp bf : Int → Int) : PO → PS → Prop := fun o S' => ∃ r, o = .inl (some r) ∧ (k = 0 → r = v) ∧ tgV r = tgV v ∧ (∀ z : Nat, z < x + 153 ∨ x + 158 ≤ z → S'.1 z = S.1 z) ∧ S'.2 = S.2 ∧ (k = 0 → MJ S' x an ctn k fd ea kpn bf) ∧ (k ≠ 0 → MJ S' x a ct k fd ea kp bf)
section LAWM
variable {g : GT} {S : PS} {mc ms : Nat} {x : Nat} {a : Int → Int} {H : Int → Int → Int} {nx ct fd ea th : Int} {tx kp bf : Int → Int}
theorem mw_R {k sz at' be ki wr wa nu bs bw bt' : Int} {v : Value} (hJ : MJ S x a ct th fd ea kp bf) {o : PO} {S' : PS} (h : mR S (x + 153) (fun k => mO (x + 153) ct k fd sz at' be ki wr wa ea nu bs bw bt') k v o S') : MW S x k v a ct kp a ct fd ea kp bf o S' := by
  obtain ⟨-, h2, ⟨fr, h3⟩, h4, h5, o1, h6⟩ := hJ
  obtain ⟨r, r1, r2, r3, r9⟩ := h
  subst r3
  have hj : MJ (ps_put S (x + 153) (mO (x + 153) ct k fd sz at' be ki wr wa ea nu bs bw bt')) x a ct k fd ea kp bf := ⟨⟨sz, at', be, ki, wr, wa, nu, bs, bw, bt', ps_same⟩, ps_ne (by omega) h2, ⟨fr, ps_ne (by omega) h3⟩, ps_ne (by omega) h4, ps_ne (by omega) h5, o1, ps_ne (by omega) h6⟩
  exact ⟨r, r1, r2, r9, fun z hz => ps_ne (by omega) rfl, rfl, fun _ => hj, fun _ => hj⟩
theorem mw_Rx {k sz at' be ki wr wa nu : Int} {v : Value} (hJ : MJ S x a ct th fd ea kp bf) {o : PO} {S' : PS} (h : mRx S (x + 153) (fun b1 b2 b3 k => mO (x + 153) ct k fd sz at' be ki wr wa ea nu b1 b2 b3) k v o S') : MW S x k v a ct kp a ct fd ea kp bf o S' := by
  obtain ⟨b1, b2, b3, h⟩ := h
  exact mw_R hJ h
theorem mw_C {k sz at' be ki wr wa nu bs bw bt' : Int} {v : Value} {a' : Int → Int} (hJ : MJ S x a ct th fd ea kp bf) {o : PO} {S' : PS} (h : mC S (x + 153) (fun km k => mO (x + 153) km k fd sz at' be ki wr wa ea nu bs bw bt') ct a kp a' k v o S') : MW S x k v a' (min (ct + 1) 8) (kpN ct a kp) a ct fd ea kp bf o S' := by
  obtain ⟨-, h2, ⟨fr, h3⟩, h4, h5, o1, h6⟩ := hJ
  obtain ⟨r, r1, r2, r3, r4, r5, r6, r9⟩ := h
  refine ⟨r, r1, r2, r9, fun z hz => r4 z (by omega) (by omega) (by omega), r3, fun hk => ?_, fun hk => ?_⟩
  · obtain ⟨q1, q2, q3⟩ := r6 hk
    subst hk
    exact ⟨⟨sz, at', be, ki, wr, wa, nu, bs, bw, bt', q1⟩, q2, ⟨fr, (r4 _ (by omega) (by omega) (by omega)).trans h3⟩, q3, (r4 _ (by omega) (by omega) (by omega)).trans h5, o1, (r4 _ (by omega) (by omega) (by omega)).trans h6⟩
  · obtain ⟨q1, q2, q3⟩ := r5 hk
    exact ⟨⟨sz, at', be, ki, wr, wa, nu, bs, bw, bt', q1⟩, q2, ⟨fr, (r4 _ (by omega) (by omega) (by omega)).trans h3⟩, q3, (r4 _ (by omega) (by omega) (by omega)).trans h5, o1, (r4 _ (by omega) (by omega) (by omega)).trans h6⟩
theorem M1_addPrime {p : Int} (hI : IA a) (hct : 0 ≤ ct ∧ ct ≤ 8) (hJ : MJ S x a ct th fd ea kp bf) (hr' : RI p) : PC g yX10_addPrime cX10_addPrime (iX10_addPrime mc ms) [.ref (x + 153), vi p] S (MW S x (kAdd a p) (vi (a 0)) (addA a p) (min (ct + 1) 8) (kpN ct a kp) a ct fd ea kp bf) := by
  obtain ⟨⟨sz, at', be, ki, wr, wa, nu, bs, bw, bt', h1⟩, h2, ⟨fr, h3⟩, h4, h5, o1, h6⟩ := id hJ
  exact (c_X10_addPrime h1 h2 h4 hI.1 hct hr').mono (fun o S' h => mw_C hJ h)
theorem M1_removePrime {q : Int} (hI : IA a) (hct : 0 ≤ ct ∧ ct ≤ 8) (hJ : MJ S x a ct th fd ea kp bf) (hr' : RI q) : PC g yX10_removePrime cX10_removePrime (iX10_removePrime mc ms) [.ref (x + 153), vi q] S (MW S x (kThere a q) (vi (a 0 - 1)) (rmA a q) (min (ct + 1) 8) (kpN ct a kp) a ct fd ea kp bf) := by
  obtain ⟨⟨sz, at', be, ki, wr, wa, nu, bs, bw, bt', h1⟩, h2, ⟨fr, h3⟩, h4, h5, o1, h6⟩ := id hJ
  exact (c_X10_removePrime h1 h2 h4 hI.1 hct hr').mono (fun o S' h => mw_C hJ h)
theorem M1_prime {q w : Int} (hI : IA a) (hct : 0 ≤ ct ∧ ct ≤ 8) (hJ : MJ S x a ct th fd ea kp bf) (hq' : RI q) (hw' : RI w) : PC g yX10_prime cX10_prime (iX10_prime mc ms) [.ref (x + 153), vi q, vi w] S (MW S x (kPrime a q w) (vi (vPrime a q w)) a ct kp a ct fd ea kp bf) := by
  obtain ⟨⟨sz, at', be, ki, wr, wa, nu, bs, bw, bt', h1⟩, h2, ⟨fr, h3⟩, h4, h5, o1, h6⟩ := id hJ
  exact (c_X10_prime h1 h2 hI.1 hq' hw').mono (fun o S' h => mw_R hJ h)
theorem M1_root {q n : Int} (hI : IA a) (hct : 0 ≤ ct ∧ ct ≤ 8) (hJ : MJ S x a ct th fd ea kp bf) (hq' : RI q) (hn' : RI n) : PC g yX10_root cX10_root (iX10_root mc ms) [.ref (x + 153), vi q, vi n] S (MW S x (kRoot a q n) (vi (rtI (pN a q) n.toNat)) a ct kp a ct fd ea kp bf) := by
  obtain ⟨⟨sz, at', be, ki, wr, wa, nu, bs, bw, bt', h1⟩, h2, ⟨fr, h3⟩, h4, h5, o1, h6⟩ := id hJ
  exact (c_X10_root h1 h2 hI.1 hq' hn').mono (fun o S' h => mw_R hJ h)
theorem M1_power {q b e : Int} (hI : IA a) (hct : 0 ≤ ct ∧ ct ≤ 8) (hJ : MJ S x a ct th fd ea kp bf) (hq' : RI q) (hb' : RI b) (he' : RI e) : PC g yX10_power cX10_power (iX10_power mc ms) [.ref (x + 153), vi q, vi b, vi e] S (MW S x (kPower a q e) (vi (pwI b e.toNat (pN a q))) a ct kp a ct fd ea kp bf) := by
  obtain ⟨⟨sz, at', be, ki, wr, wa, nu, bs, bw, bt', h1⟩, h2, ⟨fr, h3⟩, h4, h5, o1, h6⟩ := id hJ
  exact (c_X10_power h1 h2 hI.1 hq' hb' he').mono (fun o S' h => mw_R hJ h)
theorem M1_inverse {q v : Int} (hI : IA a) (hct : 0 ≤ ct ∧ ct ≤ 8) (hJ : MJ S x a ct th fd ea kp bf) (hq' : RI q) (hv' : RI v) : PC g yX10_inverse cX10_inverse (iX10_inverse mc ms) [.ref (x + 153), vi q, vi v] S (MW S x (noUnitI a q v) (vi (pwI v (pN a q - 2) (pN a q))) a ct kp a ct fd ea kp bf) := by
  obtain ⟨⟨sz, at', be, ki, wr, wa, nu, bs, bw, bt', h1⟩, h2, ⟨fr, h3⟩, h4, h5, o1, h6⟩ := id hJ
  exact (c_X10_inverse h1 h2 hI.1 hq' hv').mono (fun o S' h => mw_R hJ h)
theorem M1_order {q v : Int} (hI : IA a) (hct : 0 ≤ ct ∧ ct ≤ 8) (hJ : MJ S x a ct th fd ea kp bf) (hq' : RI q) (hv' : RI v) : PC g yX10_order cX10_order (iX10_order mc ms) [.ref (x + 153), vi q, vi v] S (MW S x (noUnitI a q v) (vi (ordN (pN a q) (uN a q v) : Int)) a ct kp a ct fd ea kp bf) := by
  obtain ⟨⟨sz, at', be, ki, wr, wa, nu, bs, bw, bt', h1⟩, h2, ⟨fr, h3⟩, h4, h5, o1, h6⟩ := id hJ
  exact (c_X10_order h1 h2 hI.1 hq' hv').mono (fun o S' h => mw_R hJ h)
theorem M1_logarithm {q v : Int} (hI : IA a) (hct : 0 ≤ ct ∧ ct ≤ 8) (hJ : MJ S x a ct th fd ea kp bf) (hq' : RI q) (hv' : RI v) : PC g yX10_logarithm cX10_logarithm (iX10_logarithm mc ms) [.ref (x + 153), vi q, vi v] S (MW S x (noUnitI a q v) (vi (logN (pN a q) (genN (pN a q)) (uN a q v) : Int)) a ct kp a ct fd ea kp bf) := by
  obtain ⟨⟨sz, at', be, ki, wr, wa, nu, bs, bw, bt', h1⟩, h2, ⟨fr, h3⟩, h4, h5, o1, h6⟩ := id hJ
  exact (c_X10_logarithm h1 h2 hI.1 hq' hv').mono (fun o S' h => mw_R hJ h)
theorem M1_primeFor {n above : Int} (hI : IA a) (hct : 0 ≤ ct ∧ ct ≤ 8) (hJ : MJ S x a ct th fd ea kp bf) (hn' : RI n) (hab' : RI above) : PC g yX10_primeFor cX10_primeFor (iX10_primeFor mc ms) [.ref (x + 153), vi n, vi above] S (MW S x (kPrimeFor n above) (vi (pfF n above)) a ct kp a ct fd ea kp bf) := by
  obtain ⟨⟨sz, at', be, ki, wr, wa, nu, bs, bw, bt', h1⟩, h2, ⟨fr, h3⟩, h4, h5, o1, h6⟩ := id hJ
  exact (c_X10_primeFor h1 hn' hab').mono (fun o S' h => mw_R hJ h)
theorem M1_usable {kd n : Int} (hI : IA a) (hct : 0 ≤ ct ∧ ct ≤ 8) (hJ : MJ S x a ct th fd ea kp bf) (hk' : RI kd) (hn' : RI n) : PC g yX10_usable cX10_usable (iX10_usable mc ms) [.ref (x + 153), vi kd, vi n] S (MW S x (kUsable kd n) (vi (usI a (if kd = 2 then 2 * n else n) (a 0).toNat)) a ct kp a ct fd ea kp bf) := by
  obtain ⟨⟨sz, at', be, ki, wr, wa, nu, bs, bw, bt', h1⟩, h2, ⟨fr, h3⟩, h4, h5, o1, h6⟩ := id hJ
  exact (c_X10_usable h1 h2 hI.1 hk' hn').mono (fun o S' h => mw_R hJ h)
theorem M1_length {s : Int} (hI : IA a) (hct : 0 ≤ ct ∧ ct ≤ 8) (hJ : MJ S x a ct th fd ea kp bf) (hs' : RI s) : PC g yX10_length cX10_length (iX10_length mc ms) [.ref (x + 153), vi s] S (MW S x (kLength s) (vi (a (7 + s))) a ct kp a ct fd ea kp bf) := by
  obtain ⟨⟨sz, at', be, ki, wr, wa, nu, bs, bw, bt', h1⟩, h2, ⟨fr, h3⟩, h4, h5, o1, h6⟩ := id hJ
  exact (c_X10_length h1 h2 hs').mono (fun o S' h => mw_R hJ h)
theorem M1_term {s k : Int} (hI : IA a) (hct : 0 ≤ ct ∧ ct ≤ 8) (hJ : MJ S x a ct th fd ea kp bf) (hs' : RI s) (hk' : RI k) : PC g yX10_term cX10_term (iX10_term mc ms) [.ref (x + 153), vi s, vi k] S (MW S x (kTerm a s k) (vi (a (11 + 32 * s + k))) a ct kp a ct fd ea kp bf) := by
  obtain ⟨⟨sz, at', be, ki, wr, wa, nu, bs, bw, bt', h1⟩, h2, ⟨fr, h3⟩, h4, h5, o1, h6⟩ := id hJ
  exact (c_X10_term h1 h2 hI.2.1 hs' hk').mono (fun o S' h => mw_R hJ h)
theorem M1_setSequence {s len fr st : Int} (hI : IA a) (hct : 0 ≤ ct ∧ ct ≤ 8) (hJ : MJ S x a ct th fd ea kp bf) (hs' : RI s) (hlr' : RI len) (hfr' : RI fr) (hst' : RI st) : PC g yX10_setSequence cX10_setSequence (iX10_setSequence mc ms) [.ref (x + 153), vi s, vi len, vi fr, vi st] S (MW S x (kSet4 s len fr st) (vi (a (7 + s))) (seA a s len fr st) (min (ct + 1) 8) (kpN ct a kp) a ct fd ea kp bf) := by
  obtain ⟨⟨sz, at', be, ki, wr, wa, nu, bs, bw, bt', h1⟩, h2, ⟨fr, h3⟩, h4, h5, o1, h6⟩ := id hJ
  exact (c_X10_setSequence h1 h2 h4 hI.2.1 hct hs' hlr' hfr' hst').mono (fun o S' h => mw_C hJ h)
theorem M1_append {s v : Int} (hI : IA a) (hct : 0 ≤ ct ∧ ct ≤ 8) (hJ : MJ S x a ct th fd ea kp bf) (hs' : RI s) (hvr' : RI v) : PC g yX10_append cX10_append (iX10_append mc ms) [.ref (x + 153), vi s, vi v] S (MW S x (kApp a s v) (vi (a (7 + s) + 1)) (apA a s v) (min (ct + 1) 8) (kpN ct a kp) a ct fd ea kp bf) := by
  obtain ⟨⟨sz, at', be, ki, wr, wa, nu, bs, bw, bt', h1⟩, h2, ⟨fr, h3⟩, h4, h5, o1, h6⟩ := id hJ
  exact (c_X10_append h1 h2 h4 hI.2.1 hct hs' hvr').mono (fun o S' h => mw_C hJ h)
theorem M1_cut {s len : Int} (hI : IA a) (hct : 0 ≤ ct ∧ ct ≤ 8) (hJ : MJ S x a ct th fd ea kp bf) (hs' : RI s) (hlr' : RI len) : PC g yX10_cut cX10_cut (iX10_cut mc ms) [.ref (x + 153), vi s, vi len] S (MW S x (kCut a s len) (vi (a (7 + s) - len)) (upI a (7 + s) len) (min (ct + 1) 8) (kpN ct a kp) a ct fd ea kp bf) := by
  obtain ⟨⟨sz, at', be, ki, wr, wa, nu, bs, bw, bt', h1⟩, h2, ⟨fr, h3⟩, h4, h5, o1, h6⟩ := id hJ
  exact (c_X10_cut h1 h2 h4 hI.2.1 hct hs' hlr').mono (fun o S' h => mw_C hJ h)
theorem M1_swap {s t : Int} (hI : IA a) (hct : 0 ≤ ct ∧ ct ≤ 8) (hJ : MJ S x a ct th fd ea kp bf) (hs' : RI s) (ht' : RI t) : PC g yX10_swap cX10_swap (iX10_swap mc ms) [.ref (x + 153), vi s, vi t] S (MW S x (kSwap s t) (vi (a (7 + t))) (swA a s t) (min (ct + 1) 8) (kpN ct a kp) a ct fd ea kp bf) := by
  obtain ⟨⟨sz, at', be, ki, wr, wa, nu, bs, bw, bt', h1⟩, h2, ⟨fr, h3⟩, h4, h5, o1, h6⟩ := id hJ
  exact (c_X10_swap h1 h2 h4 hI.2.1 hct hs' ht').mono (fun o S' h => mw_C hJ h)
theorem M1_transform {q s n k : Int} (hI : IA a) (hct : 0 ≤ ct ∧ ct ≤ 8) (hJ : MJ S x a ct th fd ea kp bf) (hq' : RI q) (hs' : RI s) (hn' : RI n) (hk' : RI k) : PC g yX10_transform cX10_transform (iX10_transform mc ms) [.ref (x + 153), vi q, vi s, vi n, vi k] S (MW S x (kTrans a q s n k) (vi (vTrans a q s n k)) a ct kp a ct fd ea kp bf) := by
  obtain ⟨⟨sz, at', be, ki, wr, wa, nu, bs, bw, bt', h1⟩, h2, ⟨fr, h3⟩, h4, h5, o1, h6⟩ := id hJ
  exact (c_X10_transform h1 h2 hI.1 hI.2.1 hq' hs' hn' hk').mono (fun o S' h => mw_R hJ h)
theorem M1_cost {q n mt : Int} (hI : IA a) (hct : 0 ≤ ct ∧ ct ≤ 8) (hJ : MJ S x a ct th fd ea kp bf) (hq' : RI q) (hn' : RI n) (hmt' : RI mt) : PC g yX10_cost cX10_cost (iX10_cost mc ms) [.ref (x + 153), vi q, vi n, vi mt] S (MW S x (noTrI a q n (b2i (0 ≤ mt ∧ mt ≤ 2))) (vi (csI (a (1 + q)) n.toNat mt)) a ct kp a ct fd ea kp bf) := by
  obtain ⟨⟨sz, at', be, ki, wr, wa, nu, bs, bw, bt', h1⟩, h2, ⟨fr, h3⟩, h4, h5, o1, h6⟩ := id hJ
  exact (c_X10_cost h1 h2 hI.1 hq' hn' hmt').mono (fun o S' h => mw_R hJ h)
theorem M1_method {q n : Int} (hI : IA a) (hct : 0 ≤ ct ∧ ct ≤ 8) (hJ : MJ S x a ct th fd ea kp bf) (hq' : RI q) (hn' : RI n) : PC g yX10_method cX10_method (iX10_method mc ms) [.ref (x + 153), vi q, vi n] S (MW S x (noTrI a q n 1) (vi (bmI (a (1 + q)) n.toNat)) a ct kp a ct fd ea kp bf) := by
  obtain ⟨⟨sz, at', be, ki, wr, wa, nu, bs, bw, bt', h1⟩, h2, ⟨fr, h3⟩, h4, h5, o1, h6⟩ := id hJ
  exact (c_X10_method h1 h2 hI.1 hq' hn').mono (fun o S' h => mw_R hJ h)
theorem M1_chirp {q n j : Int} (hI : IA a) (hct : 0 ≤ ct ∧ ct ≤ 8) (hJ : MJ S x a ct th fd ea kp bf) (hq' : RI q) (hn' : RI n) (hj' : RI j) : PC g yX10_chirp cX10_chirp (iX10_chirp mc ms) [.ref (x + 153), vi q, vi n, vi j] S (MW S x (noTrI a q n (b2i (0 ≤ j ∧ j ≤ 2 * n))) (vi (pwI (rtI (pN a q) n.toNat) (j * (j - 1) / 2).toNat (pN a q))) a ct kp a ct fd ea kp bf) := by
  obtain ⟨⟨sz, at', be, ki, wr, wa, nu, bs, bw, bt', h1⟩, h2, ⟨fr, h3⟩, h4, h5, o1, h6⟩ := id hJ
  exact (c_X10_chirp h1 h2 hI.1 hq' hn' hj').mono (fun o S' h => mw_R hJ h)
theorem M1_longest {set : Int} (hI : IA a) (hct : 0 ≤ ct ∧ ct ≤ 8) (hJ : MJ S x a ct th fd ea kp bf) (hset' : RI set) : PC g yX10_longest cX10_longest (iX10_longest mc ms) [.ref (x + 153), vi set] S (MW S x (kSet a set) (vi (lgS a set 64)) a ct kp a ct fd ea kp bf) := by
  obtain ⟨⟨sz, at', be, ki, wr, wa, nu, bs, bw, bt', h1⟩, h2, ⟨fr, h3⟩, h4, h5, o1, h6⟩ := id hJ
  exact (c_X10_longest h1 h2 hI.1 hset').mono (fun o S' h => mw_R hJ h)
theorem M1_size {kd s t n : Int} (hI : IA a) (hct : 0 ≤ ct ∧ ct ≤ 8) (hJ : MJ S x a ct th fd ea kp bf) (hs' : RI s) (ht' : RI t) (hk' : RI kd) (hn' : RI n) : PC g yX10_size cX10_size (iX10_size mc ms) [.ref (x + 153), vi kd, vi s, vi t, vi n] S (MW S x (refI a kd s t n) (vi (sizI a kd s t n)) a ct kp a ct fd ea kp bf) := by
  obtain ⟨⟨sz, at', be, ki, wr, wa, nu, bs, bw, bt', h1⟩, h2, ⟨fr, h3⟩, h4, h5, o1, h6⟩ := id hJ
  exact (c_X10_size h1 h2 hI.2.1 hs' ht' hk' hn').mono (fun o S' h => mw_R hJ h)
theorem M1_bound {s t : Int} (hI : IA a) (hct : 0 ≤ ct ∧ ct ≤ 8) (hJ : MJ S x a ct th fd ea kp bf) (hs' : RI s) (ht' : RI t) : PC g yX10_bound cX10_bound (iX10_bound mc ms) [.ref (x + 153), vi s, vi t] S (MW S x (lacksI a s t) (vl (bndI a s t)) a ct kp a ct fd ea kp bf) := by
  obtain ⟨⟨sz, at', be, ki, wr, wa, nu, bs, bw, bt', h1⟩, h2, ⟨fr, h3⟩, h4, h5, o1, h6⟩ := id hJ
  exact (c_X10_bound h1 h2 hI.2.1 hs' ht').mono (fun o S' h => mw_R hJ h)
theorem M1_coefficient {kd s t n k : Int} (hI : IA a) (hct : 0 ≤ ct ∧ ct ≤ 8) (hJ : MJ S x a ct th fd ea kp bf) (hs' : RI s) (ht' : RI t) (hk' : RI kd) (hn' : RI n) (hkk' : RI k) : PC g yX10_coefficient cX10_coefficient (iX10_coefficient mc ms) [.ref (x + 153), vi kd, vi s, vi t, vi n, vi k] S (MW S x (kCoef a kd s t n k) (vl (cfI kd n k (tmF a s) (tmF a t) (a (7 + t)).toNat (a (7 + s)).toNat)) a ct kp a ct fd ea kp bf) := by
  obtain ⟨⟨sz, at', be, ki, wr, wa, nu, bs, bw, bt', h1⟩, h2, ⟨fr, h3⟩, h4, h5, o1, h6⟩ := id hJ
  exact (c_X10_coefficient h1 h2 hI.2.1 hs' ht' hk' hn' hkk').mono (fun o S' h => mw_R hJ h)
theorem M1_isEnough {set s t : Int} (hI : IA a) (hct : 0 ≤ ct ∧ ct ≤ 8) (hJ : MJ S x a ct th fd ea kp bf) (hset' : RI set) (hs' : RI s) (ht' : RI t) : PC g yX10_isEnough cX10_isEnough (iX10_isEnough mc ms) [.ref (x + 153), vi set, vi s, vi t] S (MW S x (kEnough a set s t) (vi (b2i (0 < set ∧ 2 * bndI a s t < prC a set))) a ct kp a ct fd ea kp bf) := by
  obtain ⟨⟨sz, at', be, ki, wr, wa, nu, bs, bw, bt', h1⟩, h2, ⟨fr, h3⟩, h4, h5, o1, h6⟩ := id hJ
  exact (c_X10_isEnough h1 h2 hI.1 hI.2.1 hset' hs' ht').mono (fun o S' h => mw_R hJ h)
theorem M1_plan {kd s t n w : Int} (hI : IA a) (hct : 0 ≤ ct ∧ ct ≤ 8) (hJ : MJ S x a ct th fd ea kp bf) (hs' : RI s) (ht' : RI t) (hk' : RI kd) (hn' : RI n) (hw' : RI w) : PC g yX10_plan cX10_plan (iX10_plan mc ms) [.ref (x + 153), vi kd, vi s, vi t, vi n, vi w] S (MW S x (kPlan a kd s t n w) (vi (vPlan a kd s t n w)) a ct kp a ct fd ea kp bf) := by
  obtain ⟨⟨sz, at', be, ki, wr, wa, nu, bs, bw, bt', h1⟩, h2, ⟨fr, h3⟩, h4, h5, o1, h6⟩ := id hJ
  exact (c_X10_plan h1 h2 hI.1 hI.2.1 hs' ht' hk' hn' hw').mono (fun o S' h => mw_Rx hJ h)
theorem M1_transformSteps {kd s t n : Int} (hI : IA a) (hct : 0 ≤ ct ∧ ct ≤ 8) (hJ : MJ S x a ct th fd ea kp bf) (hs' : RI s) (ht' : RI t) (hk' : RI kd) (hn' : RI n) : PC g yX10_transformSteps cX10_transformSteps (iX10_transformSteps mc ms) [.ref (x + 153), vi kd, vi s, vi t, vi n] S (MW S x (kSteps a kd s t n) (vi (plT a kd s t n).1) a ct kp a ct fd ea kp bf) := by
  obtain ⟨⟨sz, at', be, ki, wr, wa, nu, bs, bw, bt', h1⟩, h2, ⟨fr, h3⟩, h4, h5, o1, h6⟩ := id hJ
  exact (c_X10_transformSteps h1 h2 hI.1 hI.2.1 hs' ht' hk' hn').mono (fun o S' h => mw_Rx hJ h)
theorem M1_multiply {kd s t len set : Int} (hI : IA a) (hct : 0 ≤ ct ∧ ct ≤ 8) (hJ : MJ S x a ct th fd ea kp bf) (hk' : RI kd) (hs' : RI s) (ht' : RI t) (hn' : RI len) (hset' : RI set) : PC g yX10_multiply cX10_multiply (iX10_multiply mc ms) [.ref (x + 153), vi kd, vi s, vi t, vi len, vi set] S (MW S x (kMul a kd s t len set) (vi (sizI a kd s t len)) (muA a kd s t len set) (min (ct + 1) 8) (kpN ct a kp) a ct fd ea kp bf) := by
  obtain ⟨⟨sz, at', be, ki, wr, wa, nu, bs, bw, bt', h1⟩, h2, ⟨fr, h3⟩, h4, h5, o1, h6⟩ := id hJ
  exact (c_X10_multiply h1 h2 h4 hI.1 hI.2.1 hct hk' hs' ht' hn' hset').mono (fun o S' h => mw_C hJ h)
theorem M1_product {w : Int} (hI : IA a) (hct : 0 ≤ ct ∧ ct ≤ 8) (hJ : MJ S x a ct th fd ea kp bf) (hw' : RI w) : PC g yX10_product cX10_product (iX10_product mc ms) [.ref (x + 153), vi w] S (MW S x (kHas a (0 ≤ w ∧ w ≤ 3)) (vi (vProd a w)) a ct kp a ct fd ea kp bf) := by
  obtain ⟨⟨sz, at', be, ki, wr, wa, nu, bs, bw, bt', h1⟩, h2, ⟨fr, h3⟩, h4, h5, o1, h6⟩ := id hJ
  exact (c_X10_product h1 h2 hI.2.2.1 hw').mono (fun o S' h => mw_R hJ h)
theorem M1_value {k : Int} (hI : IA a) (hct : 0 ≤ ct ∧ ct ≤ 8) (hJ : MJ S x a ct th fd ea kp bf) (hk' : RI k) : PC g yX10_value cX10_value (iX10_value mc ms) [.ref (x + 153), vi k] S (MW S x (kHas a (0 ≤ k ∧ k ≤ a 143 - 1)) (vl (a (151 + k))) a ct kp a ct fd ea kp bf) := by
  obtain ⟨⟨sz, at', be, ki, wr, wa, nu, bs, bw, bt', h1⟩, h2, ⟨fr, h3⟩, h4, h5, o1, h6⟩ := id hJ
  exact (c_X10_value h1 h2 hI.2.2.1 hk').mono (fun o S' h => mw_R hJ h)
theorem M1_digit {k d : Int} (hI : IA a) (hct : 0 ≤ ct ∧ ct ≤ 8) (hJ : MJ S x a ct th fd ea kp bf) (hk' : RI k) (hd' : RI d) : PC g yX10_digit cX10_digit (iX10_digit mc ms) [.ref (x + 153), vi k, vi d] S (MW S x (kDig a k d) (vi (vDig a k d)) a ct kp a ct fd ea kp bf) := by
  obtain ⟨⟨sz, at', be, ki, wr, wa, nu, bs, bw, bt', h1⟩, h2, ⟨fr, h3⟩, h4, h5, o1, h6⟩ := id hJ
  exact (c_X10_digit h1 h2 hI.2.2.1 hk' hd').mono (fun o S' h => mw_R hJ h)
theorem M1_productAt {xv : Int} (hI : IA a) (hct : 0 ≤ ct ∧ ct ≤ 8) (hJ : MJ S x a ct th fd ea kp bf) (hx' : RI xv) : PC g yX10_productAt cX10_productAt (iX10_productAt mc ms) [.ref (x + 153), vi xv] S (MW S x (kHas1 a) (vi (sfx (vaF a) (xv % 1000003) (a 143).toNat 0 % 1000003)) a ct kp a ct fd ea kp bf) := by
  obtain ⟨⟨sz, at', be, ki, wr, wa, nu, bs, bw, bt', h1⟩, h2, ⟨fr, h3⟩, h4, h5, o1, h6⟩ := id hJ
  exact (c_X10_productAt h1 h2 hI.2.2.1 hx').mono (fun o S' h => mw_R hJ h)
theorem M1_residue {q k : Int} (hI : IA a) (hct : 0 ≤ ct ∧ ct ≤ 8) (hJ : MJ S x a ct th fd ea kp bf) (hq' : RI q) (hk' : RI k) : PC g yX10_residue cX10_residue (iX10_residue mc ms) [.ref (x + 153), vi q, vi k] S (MW S x (kRes a q k) (vi (a (151 + k) % (pN a q : Int))) a ct kp a ct fd ea kp bf) := by
  obtain ⟨⟨sz, at', be, ki, wr, wa, nu, bs, bw, bt', h1⟩, h2, ⟨fr, h3⟩, h4, h5, o1, h6⟩ := id hJ
  exact (c_X10_residue h1 h2 hI.1 hI.2.2.1 hq' hk').mono (fun o S' h => mw_R hJ h)
theorem M1_agreeing {s t : Int} (hI : IA a) (hct : 0 ≤ ct ∧ ct ≤ 8) (hJ : MJ S x a ct th fd ea kp bf) (hs' : RI s) (ht' : RI t) : PC g yX10_agreeing cX10_agreeing (iX10_agreeing mc ms) [.ref (x + 153), vi s, vi t] S (MW S x (kAgree a s t) (vi (vAgree a s t)) a ct kp a ct fd ea kp bf) := by
  obtain ⟨⟨sz, at', be, ki, wr, wa, nu, bs, bw, bt', h1⟩, h2, ⟨fr, h3⟩, h4, h5, o1, h6⟩ := id hJ
  exact (c_X10_agreeing h1 h2 hI.2.1 hI.2.2.1 hs' ht').mono (fun o S' h => mw_R hJ h)
theorem M1_store {s : Int} (hI : IA a) (hct : 0 ≤ ct ∧ ct ≤ 8) (hJ : MJ S x a ct th fd ea kp bf) (hs' : RI s) : PC g yX10_store cX10_store (iX10_store mc ms) [.ref (x + 153), vi s] S (MW S x (kStore a s) (vi (a 143)) (stA a s) (min (ct + 1) 8) (kpN ct a kp) a ct fd ea kp bf) := by
  obtain ⟨⟨sz, at', be, ki, wr, wa, nu, bs, bw, bt', h1⟩, h2, ⟨fr, h3⟩, h4, h5, o1, h6⟩ := id hJ
  exact (c_X10_store h1 h2 h4 hI.2.2.1 hct hs').mono (fun o S' h => mw_C hJ h)
theorem M1_primes  (hI : IA a) (hct : 0 ≤ ct ∧ ct ≤ 8) (hJ : MJ S x a ct th fd ea kp bf)  : PC g yX10_primes cX10_primes (iX10_primes mc ms) [.ref (x + 153)] S (MW S x 0 (vi (a 0)) a ct kp a ct fd ea kp bf) := by
  obtain ⟨⟨sz, at', be, ki, wr, wa, nu, bs, bw, bt', h1⟩, h2, ⟨fr, h3⟩, h4, h5, o1, h6⟩ := id hJ
  exact (c_X10_primes h1 h2).mono (fun o S' h => mw_R hJ h)
theorem M1_errorPosition  (hI : IA a) (hct : 0 ≤ ct ∧ ct ≤ 8) (hJ : MJ S x a ct th fd ea kp bf)  : PC g yX10_errorPosition cX10_errorPosition (iX10_errorPosition mc ms) [.ref (x + 153)] S (MW S x 0 (vi ea) a ct kp a ct fd ea kp bf) := by
  obtain ⟨⟨sz, at', be, ki, wr, wa, nu, bs, bw, bt', h1⟩, h2, ⟨fr, h3⟩, h4, h5, o1, h6⟩ := id hJ
  exact (c_X10_errorPosition h1).mono (fun o S' h => mw_R hJ h)
end LAWM

/-! the law: the cases of its switch that are of no common form -/
section LAWH
variable {g : GT} {nm : String} {hh : List (Nat × Nat × Nat × Nat)} {S : PS} {kc ks : Nat} {Q : PO → PS → Prop} {x b n : Nat} {xs : Nat → Int32} {i : Int}
theorem K_primes (hW : WJ S x) (kk : ∀ S' : PS, WJ S' x → PW g cL_law (iL_law nm hh) 2986 (lL b x i) [] S' kc ks Q) : PW g cL_law (iL_law nm hh) 389 (lL b x i) [] S (kc + 12) (ks + 60) Q := by
  obtain ⟨a, H, nx, ct, fd, ea, th, tx, kp, bf, hX, hI, hf, hJ, hK, hB, hF⟩ := hW
  refine r_aload_n dL_law_389 (i := 1) rfl rfl ?_
  refine c_vr dL_law_390 (c_X9_primes (mc := 0) (ms := 0) hX.2.1 hX.2.2.1.1.1) rfl rfl mq_X9_primes ml_L_162 ⟨Nat.le_of_ble_eq_true rfl, Nat.le_of_ble_eq_true rfl⟩ hX.2.1 rfl rfl rfl (Nat.le_of_ble_eq_true rfl) ?_
  refine r_aload_n dL_law_393 (i := 2) rfl rfl ?_
  have c2 := M1_primes (g := g) (mc := 0) (ms := 0) hI hX.2.2.2.1.2.2 hJ
  obtain ⟨sz, at', be, ki, wr, wa, nu, bs, bw, bt', hm⟩ := hJ.1
  refine r_invV dL_law_394 c2 mq_X10_primes ml_L_165 ⟨Nat.le_of_ble_eq_true rfl, Nat.le_of_ble_eq_true rfl⟩ hm rfl rfl rfl (Nat.le_of_ble_eq_true rfl) (kc' := kc) (ks' := ks) (by show 0 + kc ≤ kc + 12; omega) (by show 0 + ks ≤ ks + 60; omega) (fun E S2 h => by obtain ⟨r, h1, h2⟩ := h; cases h1) (fun o2 S2 hq => ?_)
  obtain ⟨r, h1, m1, m2, m3, m4, m5, m6⟩ := hq
  cases h1
  have er := m1 rfl
  subst er
  have ha := hI.1.1
  exact r_icmp_eq 2986 dL_law_397 (by decide) (by omega) (by omega) (fun _ => kk _ ⟨a, H, nx, ct, fd, ea, 0, tx, kp, bf, hX.mdl (fun z hz => m3 z (by omega)), hI, hf, m5 rfl, hK, hB, by rw [m4]; exact hF⟩) (fun h => absurd rfl h)
theorem K_errorPosition (hW : WJ S x) (kk : ∀ S' : PS, WJ S' x → PW g cL_law (iL_law nm hh) 2986 (lL b x i) [] S' kc ks Q) : PW g cL_law (iL_law nm hh) 376 (lL b x i) [] S (kc + 12) (ks + 60) Q := by
  obtain ⟨a, H, nx, ct, fd, ea, th, tx, kp, bf, hX, hI, hf, hJ, hK, hB, hF⟩ := hW
  refine r_aload_n dL_law_376 (i := 1) rfl rfl ?_
  obtain ⟨en, at9, er9, hrd⟩ := hX.2.2.2.2.1.1
  refine c_vr dL_law_377 (c_X9_errorPosition (mc := 0) (ms := 0) hX.2.1 hrd) rfl rfl mq_X9_errorPosition ml_L_158 ⟨Nat.le_of_ble_eq_true rfl, Nat.le_of_ble_eq_true rfl⟩ hX.2.1 rfl rfl rfl (Nat.le_of_ble_eq_true rfl) ?_
  refine r_aload_n dL_law_380 (i := 2) rfl rfl ?_
  have c2 := M1_errorPosition (g := g) (mc := 0) (ms := 0) hI hX.2.2.2.1.2.2 hJ
  obtain ⟨sz, at', be, ki, wr, wa, nu, bs, bw, bt', hm⟩ := hJ.1
  refine r_invV dL_law_381 c2 mq_X10_errorPosition ml_L_161 ⟨Nat.le_of_ble_eq_true rfl, Nat.le_of_ble_eq_true rfl⟩ hm rfl rfl rfl (Nat.le_of_ble_eq_true rfl) (kc' := kc) (ks' := ks) (by show 0 + kc ≤ kc + 12; omega) (by show 0 + ks ≤ ks + 60; omega) (fun E S2 h => by obtain ⟨r, h1, h2⟩ := h; cases h1) (fun o2 S2 hq => ?_)
  obtain ⟨r, h1, m1, m2, m3, m4, m5, m6⟩ := hq
  cases h1
  have er := m1 rfl
  subst er
  have kq : PW g cL_law (iL_law nm hh) 384 (lL b x i) [vi (wI ea), vi (wI ea)] S2 kc ks Q := r_icmp_eq 2986 dL_law_384 (by decide) (wI_ri ea) (wI_ri ea) (fun _ => kk _ ⟨a, H, nx, ct, fd, ea, 0, tx, kp, bf, hX.mdl (fun z hz => m3 z (by omega)), hI, hf, m5 rfl, hK, hB, by rw [m4]; exact hF⟩) (fun h => absurd rfl h)
  rw [wI_vi] at kq
  exact kq
/-- the walk of load's case -/
theorem K_load' {k v : Int} {Qc : PO → PS → Prop} {Qm : PS → PO → PS → Prop} (hS : SJ g b n xs) (h0 : 0 ≤ i) (hi : i + 6 ≤ n) (c1 : PC g yL_load cL_load (iL_load 12 60) [.ref x, vi (sA xs (i + 1)), .ref (x + 158)] S Qc) (hnx : ∀ E S', ¬ Qc (.inr E) S') (hk : ∀ o S1, Qc (.inl o) S1 → o = some (vi k) ∧ ∃ (a : Int → Int) (ct th fd ea : Int) (kp bf : Int → Int), MJ S1 x a ct th fd ea kp bf) (c2 : ∀ o S1, Qc (.inl o) S1 → PC g yX10_load cX10_load (iX10_load 0 0) [.ref (x + 153), vi (sA xs (i + 1))] S1 (Qm S1)) (hmx : ∀ S1 E S2, ¬ Qm S1 (.inr E) S2) (hE : ∀ o S1 o2 S2, Qc (.inl o) S1 → Qm S1 (.inl o2) S2 → ∃ r, o2 = some r ∧ EJ S2 x k (vi v) (wI v) r) (kk : ∀ S' : PS, WJ S' x → PW g cL_law (iL_law nm hh) 2986 (lL b x i) [] S' kc ks Q) : PW g cL_law (iL_law nm hh) 320 (lL b x i) [] S (kc + 12) (ks + 60) Q := by
  refine r_aload_n dL_law_320 (i := 1) rfl rfl ?_
  refine r_arg dL_law_321 dL_law_322 dL_law_324 dL_law_325 dL_law_326 hS rfl rfl h0 (by omega) hi ?_
  refine r_aload_n dL_law_327 (i := 3) rfl rfl ?_
  refine r_invW dL_law_328 c1 hnx mq_L_load ml_L_154 ⟨Nat.le_of_ble_eq_true rfl, Nat.le_of_ble_eq_true rfl⟩ rfl rfl (Nat.le_of_ble_eq_true rfl) (kc' := kc) (ks' := ks) (by show 12 + kc ≤ kc + 12; omega) (by show 60 + ks ≤ ks + 60; omega) (fun o S1 hc => ?_)
  obtain ⟨rfl, a, ct, th, fd, ea, kp, bf, hJ1⟩ := hk o S1 hc
  refine r_istore (x := _) dL_law_331 rfl (Nat.le_of_ble_eq_true rfl) ?_
  refine r_aload_n dL_law_333 (i := 2) rfl rfl ?_
  refine r_arg dL_law_334 dL_law_335 dL_law_337 dL_law_338 dL_law_339 hS rfl rfl h0 (by omega) hi ?_
  obtain ⟨sz, at', be, ki, wr, wa, nu, bs, bw, bt', hm⟩ := hJ1.1
  refine r_invV dL_law_340 (c2 _ S1 hc) mq_X10_load ml_L_157 ⟨Nat.le_of_ble_eq_true rfl, Nat.le_of_ble_eq_true rfl⟩ hm rfl rfl rfl (Nat.le_of_ble_eq_true rfl) (kc' := kc) (ks' := ks) (by show 0 + kc ≤ kc; omega) (by show 0 + ks ≤ ks; omega) (fun E S2 h => absurd h (hmx S1 E S2)) (fun o2 S2 hq => ?_)
  obtain ⟨r, rfl, hE2⟩ := hE _ S1 o2 S2 hc hq
  exact t_I dL_law_343 dL_law_345 dL_law_346 dL_law_349 dL_law_351 dL_law_356 dL_law_358 dL_law_361 dL_law_362 dL_law_363 dL_law_364 dL_law_366 dL_law_367 dL_law_368 dL_law_373 (by decide) hE2 (kk _ hE2.1)
theorem K_load (hTB : TxtB g) (hTL : TxtL g) (hS : SJ g b n xs) (h0 : 0 ≤ i) (hi : i + 6 ≤ n) (hW : WJ S x) (kk : ∀ S' : PS, WJ S' x → PW g cL_law (iL_law nm hh) 2986 (lL b x i) [] S' kc ks Q) : PW g cL_law (iL_law nm hh) 320 (lL b x i) [] S (kc + 12) (ks + 60) Q := by
  obtain ⟨a, H, nx, ct, fd, ea, th, tx, kp, bf, hX, hI, hf, hJ, hK, hB, hF⟩ := hW
  have hn := hX.2.2.2.1.2.1
  have hct := hX.2.2.2.1.2.2
  have hlr : RI (sA xs (i + 1)) := sA_ri
  generalize hlen : sA xs (i + 1) = len at hlr
  have hNB : 0 ≤ len → len ≤ fd → (prgB (seeI tx len) len 600 (sk (seeI tx len) 0) (fun _ => 0)).1 = 0 → NB (prgB (seeI tx len) len 600 (sk (seeI tx len) 0) (fun _ => 0)).2.2 := fun l0 l1 hz => by
    have hb := seeI_ok (tx := tx) (n := len) ⟨l0, by omega⟩
    have hs := sk_ok hb (p := 0) (by omega) l0
    exact (prg_ok hb 600 _ _ NB.zero (by omega) (by omega)).2.2 hz
  have hm2 : ∀ (S1 : PS) (th' : Int), MJ S1 x a ct th' fd ea kp bf → ∃ (sz at' be ki wr wa nu bs bw bt' : Int), S1.1 (x + 153 + 4) = some (cI 600 bf) ∧ PC g yX10_load cX10_load (iX10_load 0 0) [.ref (x + 153), vi len] S1 (fun o S' => (¬ (0 ≤ len ∧ len ≤ fd) ∧ o = .inl (some (vi 0)) ∧ S' = ps_put S1 (x + 153) (mO (x + 153) ct 1 fd sz at' be ki wr wa ea nu bs bw bt')) ∨ ((0 ≤ len ∧ len ≤ fd) ∧ ∃ (at2 be2 ki2 wr2 wa2 nu2 : Int) (fr2 : Int → Int), ((prgB (seeI bf len) len 600 (sk (seeI bf len) 0) (fun _ => 0)).1 = 0 ∧ o = .inl (some (vi ((prgB (seeI bf len) len 600 (sk (seeI bf len) 0) (fun _ => 0)).2.2 0))) ∧ MdAt S1 S' (x + 153) (mO (x + 153) (min (ct + 1) 8) 0 0 len at2 be2 ki2 wr2 wa2 (-1) nu2 bs bw bt') (prgB (seeI bf len) len 600 (sk (seeI bf len) 0) (fun _ => 0)).2.2 fr2 (kpN ct a kp)) ∨ ((prgB (seeI bf len) len 600 (sk (seeI bf len) 0) (fun _ => 0)).1 ≠ 0 ∧ o = .inl (some (vi (prgB (seeI bf len) len 600 (sk (seeI bf len) 0) (fun _ => 0)).1)) ∧ MdAt S1 S' (x + 153) (mO (x + 153) ct 0 0 len at2 be2 ki2 wr2 wa2 (prgB (seeI bf len) len 600 (sk (seeI bf len) 0) (fun _ => 0)).2.1 nu2 bs bw bt') a fr2 kp))) := fun S1 th' hj => by
    obtain ⟨⟨sz, at', be, ki, wr, wa, nu, bs, bw, bt', g1⟩, g2, ⟨fr, g3⟩, g4, g5, o1, g6⟩ := hj
    exact ⟨sz, at', be, ki, wr, wa, nu, bs, bw, bt', g5, c_X10_load hTB hTL g1 g2 g3 g4 g5 hB.b255 hf hct hlr⟩
  by_cases hR : (prgB (seeI tx len) len 600 (sk (seeI tx len) 0) (fun _ => 0)).1 = 0
  · have c1 := L1_load0 (g := g) (mc := 12) (ms := 60) (len := len) hTB hTL hX hJ hF hf hB.1 hlr (Nat.le_refl _) (Nat.le_refl _) hR
    rw [← hlen] at c1
    refine K_load' (k := if 0 ≤ len ∧ len ≤ fd then 0 else 1) (v := (prgB (seeI tx len) len 600 (sk (seeI tx len) 0) (fun _ => 0)).2.2 0) (Qm := fun S1 o S' => ∃ (sz at' be ki wr wa nu bs bw bt' : Int), S1.1 (x + 153 + 4) = some (cI 600 bf) ∧ ((¬ (0 ≤ len ∧ len ≤ fd) ∧ o = .inl (some (vi 0)) ∧ S' = ps_put S1 (x + 153) (mO (x + 153) ct 1 fd sz at' be ki wr wa ea nu bs bw bt')) ∨ ((0 ≤ len ∧ len ≤ fd) ∧ ∃ (at2 be2 ki2 wr2 wa2 nu2 : Int) (fr2 : Int → Int), ((prgB (seeI bf len) len 600 (sk (seeI bf len) 0) (fun _ => 0)).1 = 0 ∧ o = .inl (some (vi ((prgB (seeI bf len) len 600 (sk (seeI bf len) 0) (fun _ => 0)).2.2 0))) ∧ MdAt S1 S' (x + 153) (mO (x + 153) (min (ct + 1) 8) 0 0 len at2 be2 ki2 wr2 wa2 (-1) nu2 bs bw bt') (prgB (seeI bf len) len 600 (sk (seeI bf len) 0) (fun _ => 0)).2.2 fr2 (kpN ct a kp)) ∨ ((prgB (seeI bf len) len 600 (sk (seeI bf len) 0) (fun _ => 0)).1 ≠ 0 ∧ o = .inl (some (vi (prgB (seeI bf len) len 600 (sk (seeI bf len) 0) (fun _ => 0)).1)) ∧ MdAt S1 S' (x + 153) (mO (x + 153) ct 0 0 len at2 be2 ki2 wr2 wa2 (prgB (seeI bf len) len 600 (sk (seeI bf len) 0) (fun _ => 0)).2.1 nu2 bs bw bt') a fr2 kp)))) hS h0 hi c1 (fun E S' h => by cases h.1) (fun o S1 h => ⟨by rw [hlen] at h; cases h.1; rfl, a, ct, th, fd, ea, kp, bf, h.2.2.1⟩) (fun o S1 h => ?_) (fun S1 E S2 h => ?_) (fun o S1 o2 S2 h h2 => ?_) kk
    · obtain ⟨sz, at', be, ki, wr, wa, nu, bs, bw, bt', q1, q2⟩ := hm2 S1 th h.2.2.1
      rw [hlen]
      exact q2.mono (fun o S' h => ⟨sz, at', be, ki, wr, wa, nu, bs, bw, bt', q1, h⟩)
    · obtain ⟨_, _, _, _, _, _, _, _, _, _, -, ⟨-, h, -⟩ | ⟨-, _, _, _, _, _, _, _, ⟨-, h, -⟩ | ⟨-, h, -⟩⟩⟩ := h <;> cases h
    · rw [hlen] at h
      obtain ⟨sz, at', be, ki, wr, wa, nu, bs, bw, bt', q1, q2⟩ := h2
      rcases q2 with ⟨h9, h8, h7⟩ | ⟨h9, at2, be2, ki2, wr2, wa2, nu2, fr2, h8⟩
      · exact e_load0 (sz := sz) (at' := at') (be := be) (ki := ki) (wr := wr) (wa := wa) (nu := nu) (bs := bs) (bw := bw) (bt' := bt') hR (fun l0 l1 => hNB l0 l1 hR) hn hct hI hf hK hB q1 h (Or.inl ⟨h9, Sum.inl.inj h8, h7⟩)
      · rw [hB.see h9.2] at h8
        refine e_load0 (sz := sz) (at' := at') (be := be) (ki := ki) (wr := wr) (wa := wa) (nu := nu) (bs := bs) (bw := bw) (bt' := bt') hR (fun l0 l1 => hNB l0 l1 hR) hn hct hI hf hK hB q1 h (Or.inr ⟨h9, at2, be2, ki2, wr2, wa2, nu2, fr2, ?_⟩)
        rcases h8 with ⟨z1, z2, z3⟩ | ⟨z1, z2, z3⟩
        · exact Or.inl ⟨z1, Sum.inl.inj z2, z3⟩
        · exact Or.inr ⟨z1, Sum.inl.inj z2, z3⟩
  · have c1 := L1_load1 (g := g) (mc := 12) (ms := 60) (len := len) hTB hTL hX hJ hF hf hB.1 hlr (Nat.le_refl _) (Nat.le_refl _) hR
    rw [← hlen] at c1
    refine K_load' (k := if 0 ≤ len ∧ len ≤ fd then 0 else 1) (v := (prgB (seeI tx len) len 600 (sk (seeI tx len) 0) (fun _ => 0)).1) (Qm := fun S1 o S' => ∃ (sz at' be ki wr wa nu bs bw bt' : Int), S1.1 (x + 153 + 4) = some (cI 600 bf) ∧ ((¬ (0 ≤ len ∧ len ≤ fd) ∧ o = .inl (some (vi 0)) ∧ S' = ps_put S1 (x + 153) (mO (x + 153) ct 1 fd sz at' be ki wr wa ea nu bs bw bt')) ∨ ((0 ≤ len ∧ len ≤ fd) ∧ ∃ (at2 be2 ki2 wr2 wa2 nu2 : Int) (fr2 : Int → Int), ((prgB (seeI bf len) len 600 (sk (seeI bf len) 0) (fun _ => 0)).1 = 0 ∧ o = .inl (some (vi ((prgB (seeI bf len) len 600 (sk (seeI bf len) 0) (fun _ => 0)).2.2 0))) ∧ MdAt S1 S' (x + 153) (mO (x + 153) (min (ct + 1) 8) 0 0 len at2 be2 ki2 wr2 wa2 (-1) nu2 bs bw bt') (prgB (seeI bf len) len 600 (sk (seeI bf len) 0) (fun _ => 0)).2.2 fr2 (kpN ct a kp)) ∨ ((prgB (seeI bf len) len 600 (sk (seeI bf len) 0) (fun _ => 0)).1 ≠ 0 ∧ o = .inl (some (vi (prgB (seeI bf len) len 600 (sk (seeI bf len) 0) (fun _ => 0)).1)) ∧ MdAt S1 S' (x + 153) (mO (x + 153) ct 0 0 len at2 be2 ki2 wr2 wa2 (prgB (seeI bf len) len 600 (sk (seeI bf len) 0) (fun _ => 0)).2.1 nu2 bs bw bt') a fr2 kp)))) hS h0 hi c1 (fun E S' h => by cases h.1) (fun o S1 h => ⟨by rw [hlen] at h; cases h.1; rfl, a, ct, th, fd, ea, kp, bf, h.2.2.1⟩) (fun o S1 h => ?_) (fun S1 E S2 h => ?_) (fun o S1 o2 S2 h h2 => ?_) kk
    · obtain ⟨sz, at', be, ki, wr, wa, nu, bs, bw, bt', q1, q2⟩ := hm2 S1 th h.2.2.1
      rw [hlen]
      exact q2.mono (fun o S' h => ⟨sz, at', be, ki, wr, wa, nu, bs, bw, bt', q1, h⟩)
    · obtain ⟨_, _, _, _, _, _, _, _, _, _, -, ⟨-, h, -⟩ | ⟨-, _, _, _, _, _, _, _, ⟨-, h, -⟩ | ⟨-, h, -⟩⟩⟩ := h <;> cases h
    · rw [hlen] at h
      obtain ⟨sz, at', be, ki, wr, wa, nu, bs, bw, bt', q1, q2⟩ := h2
      rcases q2 with ⟨h9, h8, h7⟩ | ⟨h9, at2, be2, ki2, wr2, wa2, nu2, fr2, h8⟩
      · exact e_load1 (sz := sz) (at' := at') (be := be) (ki := ki) (wr := wr) (wa := wa) (nu := nu) (bs := bs) (bw := bw) (bt' := bt') hR hI hf hK hB q1 h (Or.inl ⟨h9, Sum.inl.inj h8, h7⟩)
      · rw [hB.see h9.2] at h8
        refine e_load1 (sz := sz) (at' := at') (be := be) (ki := ki) (wr := wr) (wa := wa) (nu := nu) (bs := bs) (bw := bw) (bt' := bt') hR hI hf hK hB q1 h (Or.inr ⟨h9, at2, be2, ki2, wr2, wa2, nu2, fr2, ?_⟩)
        rcases h8 with ⟨z1, z2, z3⟩ | ⟨z1, z2, z3⟩
        · exact Or.inl ⟨z1, Sum.inl.inj z2, z3⟩
        · exact Or.inr ⟨z1, Sum.inl.inj z2, z3⟩
end LAWH

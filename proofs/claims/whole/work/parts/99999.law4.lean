/-! the law: how feed, undo and load end -/
section LAWE4
variable {S1 S2 : PS} {x : Nat} {a : Int → Int} {H : Int → Int → Int} {nx ct fd ea th : Int} {tx kp bf : Int → Int} {o : Option Value}
theorem e_feed {v0 v1 v2 v3 v4 r : Int} (hI : IA a) (hf : 0 ≤ fd ∧ fd ≤ 600) (hK : KP H nx ct kp) (hB : BT fd tx bf) (hc : CW x (if 580 < fd then 1 else 0) (wI (fd + 20)) a H nx ct (fd + 20) ea (fdT fd v0 v1 v2 v3 v4 tx) a H nx ct fd ea th tx kp bf (.inl o) S1) (m3 : ∀ z : Nat, z < x + 153 ∨ x + 158 ≤ z → S2.1 z = S1.1 z) (m4 : S2.2 = S1.2) (hm : (580 < fd ∧ MJ S2 x a ct 1 fd ea kp bf) ∨ (fd ≤ 580 ∧ r = fd + 20 ∧ MJ S2 x a ct 0 (fd + 20) ea kp (mix fd (fd + 20) (fun x => fdB v0 v1 v2 v3 v4 (x - fd)) bf))) : EJ S2 x (if 580 < fd then 1 else 0) (vi (fd + 20)) (wI (fd + 20)) (vi r) := by
  obtain ⟨-, hk, hJ1, hF1, c0, c1⟩ := hc
  rcases hm with ⟨h1, hj⟩ | ⟨h1, rfl, hj⟩
  · rw [if_pos h1] at hk c0 c1 ⊢
    exact ⟨⟨a, H, nx, ct, fd, ea, 1, tx, kp, bf, (c1 (by decide)).mdl (fun z hz => m3 z (by omega)), hI, hf, hj, hK, hB, by rw [m4]; exact hF1⟩, hk, ⟨_, _, _, _, _, _, hj⟩, rfl, fun z => absurd z (by decide)⟩
  · rw [if_neg (by omega)] at hk c0 c1 ⊢
    obtain ⟨g1, o1, g2, g3⟩ := c0 rfl
    exact ⟨⟨a, H, nx, ct, fd + 20, ea, 0, _, kp, _, g1.mdl (fun z hz => m3 z (by omega)), hI, by omega, hj, hK, fdT_bt hB ⟨hf.1, h1⟩, by rw [m4]; exact hF1⟩, hk, ⟨_, _, _, _, _, _, hj⟩, rfl, fun _ => ⟨rfl, o1, (m3 _ (by omega)).trans g2, g3⟩⟩
theorem e_undo0 {r : Int} (h0 : ct = 0) (hI : IA a) (hf : 0 ≤ fd ∧ fd ≤ 600) (hK : KP H nx ct kp) (hB : BT fd tx bf) (hc : CW x (if ct = 0 then 1 else 0) (wI (ct - 1)) (H ((nx + 7) % 8)) H ((nx + 7) % 8) (ct - 1) fd ea tx a H nx ct fd ea th tx kp bf (.inl o) S1) (m3 : ∀ z : Nat, z < x + 153 ∨ x + 158 ≤ z → S2.1 z = S1.1 z) (m4 : S2.2 = S1.2) (hj : MJ S2 x a ct 1 fd ea kp bf) : EJ S2 x (if ct = 0 then 1 else 0) (vi (ct - 1)) (wI (ct - 1)) (vi r) := by
  obtain ⟨-, hk, hJ1, hF1, c0, c1⟩ := hc
  rw [if_pos h0] at hk c0 c1 ⊢
  exact ⟨⟨a, H, nx, ct, fd, ea, 1, tx, kp, bf, (c1 (by decide)).mdl (fun z hz => m3 z (by omega)), hI, hf, hj, hK, hB, by rw [m4]; exact hF1⟩, hk, ⟨_, _, _, _, _, _, hj⟩, rfl, fun z => absurd z (by decide)⟩
theorem e_undo1 {f : Int → Int} (h0 : 0 < ct) (hn : 0 ≤ nx ∧ nx < 8) (hct : 0 ≤ ct ∧ ct ≤ 8) (hf : 0 ≤ fd ∧ fd ≤ 600) (hK : KP H nx ct kp) (hB : BT fd tx bf) (hc : CW x (if ct = 0 then 1 else 0) (wI (ct - 1)) (H ((nx + 7) % 8)) H ((nx + 7) % 8) (ct - 1) fd ea tx a H nx ct fd ea th tx kp bf (.inl o) S1) (m3 : ∀ z : Nat, z < x + 153 ∨ x + 158 ≤ z → S2.1 z = S1.1 z) (m4 : S2.2 = S1.2) (hj : MJ S2 x f (ct - 1) 0 fd ea kp bf) : EJ (ps_put S2 (x + 153 + 1) (cJ 215 (H ((nx + 7) % 8)))) x (if ct = 0 then 1 else 0) (vi (ct - 1)) (wI (ct - 1)) (vi (ct - 1)) := by
  obtain ⟨-, hk, hJ1, hF1, c0, c1⟩ := hc
  rw [if_neg (by omega)] at hk c0 c1 ⊢
  obtain ⟨g1, o1, g2, g3⟩ := c0 rfl
  have hj2 : MJ (ps_put S2 (x + 153 + 1) (cJ 215 (H ((nx + 7) % 8)))) x (H ((nx + 7) % 8)) (ct - 1) 0 fd ea kp bf := by
    obtain ⟨⟨sz, at', be, ki, wr, wa, nu, bs, bw, bt', j1⟩, j2, ⟨fr, j3⟩, j4, j5, o9, j6⟩ := hj
    exact ⟨⟨sz, at', be, ki, wr, wa, nu, bs, bw, bt', ps_ne (by omega) j1⟩, ps_same, ⟨fr, ps_ne (by omega) j3⟩, ps_ne (by omega) j4, ps_ne (by omega) j5, o9, ps_ne (by omega) j6⟩
  exact ⟨⟨H ((nx + 7) % 8), H, (nx + 7) % 8, ct - 1, fd, ea, 0, tx, kp, bf, g1.mdl (fun z hz => ps_ne (by omega) (m3 z (by omega))), (kp_last hK hn ⟨h0, hct.2⟩).1, hf, hj2, kp_dn hK hn ⟨h0, hct.2⟩, hB, by show x + 159 ≤ S2.2; rw [m4]; exact hF1⟩, hk, ⟨_, _, _, _, _, _, hj2⟩, rfl, fun _ => ⟨rfl, o1, ps_ne (by omega) ((m3 _ (by omega)).trans g2), g3⟩⟩
theorem BT.zero (h : BT fd tx bf) : BT 0 tx bf := ⟨h.1, fun k k0 k1 => absurd k1 (by omega)⟩
theorem e_load0 {len sz at' be ki wr wa nu bs bw bt' : Int} {R : Int × Int × (Int → Int)} {o2 : Option Value} (hR : R.1 = 0) (hNB : 0 ≤ len → len ≤ fd → NB R.2.2) (hn : 0 ≤ nx ∧ nx < 8) (hct : 0 ≤ ct ∧ ct ≤ 8) (hI : IA a) (hf : 0 ≤ fd ∧ fd ≤ 600) (hK : KP H nx ct kp) (hB : BT fd tx bf) (h5 : S1.1 (x + 153 + 4) = some (cI 600 bf))
    (hc : CW x (if 0 ≤ len ∧ len ≤ fd then 0 else 1) (wI (R.2.2 0)) R.2.2 (upH H nx a) ((nx + 1) % 8) (min (ct + 1) 8) 0 (-1) tx a H nx ct fd ea th tx kp bf (.inl o) S1)
    (hm : (¬ (0 ≤ len ∧ len ≤ fd) ∧ o2 = some (vi 0) ∧ S2 = ps_put S1 (x + 153) (mO (x + 153) ct 1 fd sz at' be ki wr wa ea nu bs bw bt')) ∨ ((0 ≤ len ∧ len ≤ fd) ∧ ∃ (at2 be2 ki2 wr2 wa2 nu2 : Int) (fr2 : Int → Int), (R.1 = 0 ∧ o2 = some (vi (R.2.2 0)) ∧ MdAt S1 S2 (x + 153) (mO (x + 153) (min (ct + 1) 8) 0 0 len at2 be2 ki2 wr2 wa2 (-1) nu2 bs bw bt') R.2.2 fr2 (kpN ct a kp)) ∨ (R.1 ≠ 0 ∧ o2 = some (vi R.1) ∧ MdAt S1 S2 (x + 153) (mO (x + 153) ct 0 0 len at2 be2 ki2 wr2 wa2 R.2.1 nu2 bs bw bt') a fr2 kp))) :
    ∃ r, o2 = some r ∧ EJ S2 x (if 0 ≤ len ∧ len ≤ fd then 0 else 1) (vi (R.2.2 0)) (wI (R.2.2 0)) r := by
  obtain ⟨-, hk, hJ1, hF1, c0, c1⟩ := hc
  rcases hm with ⟨h1, rfl, rfl⟩ | ⟨h1, at2, be2, ki2, wr2, wa2, nu2, fr2, h2⟩
  · refine ⟨_, rfl, ?_⟩
    rw [if_neg h1] at hk c0 c1 ⊢
    have hj : MJ (ps_put S1 (x + 153) (mO (x + 153) ct 1 fd sz at' be ki wr wa ea nu bs bw bt')) x a ct 1 fd ea kp bf := by
      obtain ⟨-, j2, ⟨fr, j3⟩, j4, j5, o9, j6⟩ := hJ1
      exact ⟨⟨_, _, _, _, _, _, _, _, _, _, ps_same⟩, ps_ne (by omega) j2, ⟨fr, ps_ne (by omega) j3⟩, ps_ne (by omega) j4, ps_ne (by omega) j5, o9, ps_ne (by omega) j6⟩
    exact ⟨⟨a, H, nx, ct, fd, ea, 1, tx, kp, bf, (c1 (by decide)).mdl (fun z hz => ps_ne (by omega) rfl), hI, hf, hj, hK, hB, hF1⟩, hk, ⟨_, _, _, _, _, _, hj⟩, rfl, fun z => absurd z (by decide)⟩
  · rcases h2 with ⟨h2, rfl, j1, j2, j3, j4, j5, j6⟩ | ⟨h2, -⟩
    · refine ⟨_, rfl, ?_⟩
      rw [if_pos h1] at hk c0 c1 ⊢
      obtain ⟨g1, o1, g2, g3⟩ := c0 rfl
      have hj : MJ S2 x R.2.2 (min (ct + 1) 8) 0 0 (-1) (kpN ct a kp) bf := ⟨⟨_, _, _, _, _, _, _, _, _, _, j1⟩, j2, ⟨_, j3⟩, j4, (j5 _ (by omega)).trans h5, o1, (j5 _ (by omega)).trans g2⟩
      exact ⟨⟨R.2.2, upH H nx a, (nx + 1) % 8, min (ct + 1) 8, 0, -1, 0, tx, kpN ct a kp, bf, g1.mdl (fun z hz => j5 z (by omega)), (hNB h1.1 h1.2).ia, by omega, hj, kp_up hK hn hct hI, hB.zero, by rw [j6]; exact hF1⟩, hk, ⟨_, _, _, _, _, _, hj⟩, rfl, fun _ => ⟨rfl, o1, (j5 _ (by omega)).trans g2, g3⟩⟩
    · exact absurd hR h2
theorem e_load1 {len sz at' be ki wr wa nu bs bw bt' : Int} {R : Int × Int × (Int → Int)} {o2 : Option Value} (hR : R.1 ≠ 0) (hI : IA a) (hf : 0 ≤ fd ∧ fd ≤ 600) (hK : KP H nx ct kp) (hB : BT fd tx bf) (h5 : S1.1 (x + 153 + 4) = some (cI 600 bf))
    (hc : CW x (if 0 ≤ len ∧ len ≤ fd then 0 else 1) (wI R.1) a H nx ct 0 R.2.1 tx a H nx ct fd ea th tx kp bf (.inl o) S1)
    (hm : (¬ (0 ≤ len ∧ len ≤ fd) ∧ o2 = some (vi 0) ∧ S2 = ps_put S1 (x + 153) (mO (x + 153) ct 1 fd sz at' be ki wr wa ea nu bs bw bt')) ∨ ((0 ≤ len ∧ len ≤ fd) ∧ ∃ (at2 be2 ki2 wr2 wa2 nu2 : Int) (fr2 : Int → Int), (R.1 = 0 ∧ o2 = some (vi (R.2.2 0)) ∧ MdAt S1 S2 (x + 153) (mO (x + 153) (min (ct + 1) 8) 0 0 len at2 be2 ki2 wr2 wa2 (-1) nu2 bs bw bt') R.2.2 fr2 (kpN ct a kp)) ∨ (R.1 ≠ 0 ∧ o2 = some (vi R.1) ∧ MdAt S1 S2 (x + 153) (mO (x + 153) ct 0 0 len at2 be2 ki2 wr2 wa2 R.2.1 nu2 bs bw bt') a fr2 kp))) :
    ∃ r, o2 = some r ∧ EJ S2 x (if 0 ≤ len ∧ len ≤ fd then 0 else 1) (vi R.1) (wI R.1) r := by
  obtain ⟨-, hk, hJ1, hF1, c0, c1⟩ := hc
  rcases hm with ⟨h1, rfl, rfl⟩ | ⟨h1, at2, be2, ki2, wr2, wa2, nu2, fr2, h2⟩
  · refine ⟨_, rfl, ?_⟩
    rw [if_neg h1] at hk c0 c1 ⊢
    have hj : MJ (ps_put S1 (x + 153) (mO (x + 153) ct 1 fd sz at' be ki wr wa ea nu bs bw bt')) x a ct 1 fd ea kp bf := by
      obtain ⟨-, j2, ⟨fr, j3⟩, j4, j5, o9, j6⟩ := hJ1
      exact ⟨⟨_, _, _, _, _, _, _, _, _, _, ps_same⟩, ps_ne (by omega) j2, ⟨fr, ps_ne (by omega) j3⟩, ps_ne (by omega) j4, ps_ne (by omega) j5, o9, ps_ne (by omega) j6⟩
    exact ⟨⟨a, H, nx, ct, fd, ea, 1, tx, kp, bf, (c1 (by decide)).mdl (fun z hz => ps_ne (by omega) rfl), hI, hf, hj, hK, hB, hF1⟩, hk, ⟨_, _, _, _, _, _, hj⟩, rfl, fun z => absurd z (by decide)⟩
  · rcases h2 with ⟨h2, -⟩ | ⟨h2, rfl, j1, j2, j3, j4, j5, j6⟩
    · exact absurd h2 hR
    · refine ⟨_, rfl, ?_⟩
      rw [if_pos h1] at hk c0 c1 ⊢
      obtain ⟨g1, o1, g2, g3⟩ := c0 rfl
      have hj : MJ S2 x a ct 0 0 R.2.1 kp bf := ⟨⟨_, _, _, _, _, _, _, _, _, _, j1⟩, j2, ⟨_, j3⟩, j4, (j5 _ (by omega)).trans h5, o1, (j5 _ (by omega)).trans g2⟩
      exact ⟨⟨a, H, nx, ct, 0, R.2.1, 0, tx, kp, bf, g1.mdl (fun z hz => j5 z (by omega)), hI, by omega, hj, hK, hB.zero, by rw [j6]; exact hF1⟩, hk, ⟨_, _, _, _, _, _, hj⟩, rfl, fun _ => ⟨rfl, o1, (j5 _ (by omega)).trans g2, g3⟩⟩
end LAWE4

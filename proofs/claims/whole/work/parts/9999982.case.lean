/-! the law: the cases of its switch, 2 of 4 -/
section LAWK
variable {g : GT} {nm : String} {hh : List (Nat × Nat × Nat × Nat)} {S : PS} {kc ks : Nat} {Q : PO → PS → Prop} {x b n : Nat} {xs : Nat → Int32} {i : Int}
theorem K_removePrime (hS : SJ g b n xs) (h0 : 0 ≤ i) (hi : i + 6 ≤ n) (hW : WJ S x) (kk : ∀ S' : PS, WJ S' x → PW g cL_law (iL_law nm hh) 2986 (lL b x i) [] S' kc ks Q) : PW g cL_law (iL_law nm hh) 458 (lL b x i) [] S (kc + 12) (ks + 60) Q := by
  obtain ⟨a, H, nx, ct, fd, ea, th, tx, kp, bf, hX, hI, hf, hJ, hK, hB, hF⟩ := hW
  refine r_aload_n dL_law_458 (i := 1) rfl rfl ?_
  refine r_arg dL_law_459 dL_law_460 dL_law_462 dL_law_463 dL_law_464 hS rfl rfl h0 (by omega) hi ?_
  refine r_aload_n dL_law_465 (i := 3) rfl rfl ?_
  have c1 := L1_removePrime (g := g) (mc := 1) (ms := 6) (q := sA xs (i + 1)) hX hI hJ hF hf sA_ri (Nat.le_refl _) (Nat.le_refl _) (k9_removePrime (q := sA xs (i + 1)))
  refine r_invW dL_law_466 c1 (fun E S' h => by cases h.1) mq_L_removePrime ml_L_169 ⟨Nat.le_of_ble_eq_true rfl, Nat.le_of_ble_eq_true rfl⟩ rfl rfl (Nat.le_of_ble_eq_true rfl) (kc' := kc) (ks' := ks) (by show 1 + kc ≤ kc + 12; omega) (by show 6 + ks ≤ ks + 60; omega) (fun o S1 hc => ?_)
  obtain ⟨e1, hk9, hJ1, hF1, -, -⟩ := id hc
  cases e1
  refine r_istore (x := _) dL_law_469 rfl (Nat.le_of_ble_eq_true rfl) ?_
  refine r_aload_n dL_law_471 (i := 2) rfl rfl ?_
  refine r_arg dL_law_472 dL_law_473 dL_law_475 dL_law_476 dL_law_477 hS rfl rfl h0 (by omega) hi ?_
  have c2 := M1_removePrime (g := g) (mc := 0) (ms := 0) (q := sA xs (i + 1)) hI hX.2.2.2.1.2.2 hJ1 sA_ri
  obtain ⟨sz, at', be, ki, wr, wa, nu, bs, bw, bt', hm⟩ := hJ1.1
  refine r_invV dL_law_478 c2 mq_X10_removePrime ml_L_171 ⟨Nat.le_of_ble_eq_true rfl, Nat.le_of_ble_eq_true rfl⟩ hm rfl rfl rfl (Nat.le_of_ble_eq_true rfl) (kc' := kc) (ks' := ks) (by show 0 + kc ≤ kc; omega) (by show 0 + ks ≤ ks; omega) (fun E S2 h => by obtain ⟨r, h1, h2⟩ := h; cases h1) (fun o2 S2 hq => ?_)
  obtain ⟨r, h1, h2⟩ := id hq
  cases h1
  have hE := e_C hX.2.2.2.1.2.1 hX.2.2.2.1.2.2 hI (fun h => ia_rm hI h) hf hK hB hc hq
  exact t_I dL_law_481 dL_law_483 dL_law_484 dL_law_487 dL_law_489 dL_law_494 dL_law_496 dL_law_499 dL_law_500 dL_law_501 dL_law_502 dL_law_504 dL_law_505 dL_law_506 dL_law_511 (by decide) hE (kk _ hE.1)
theorem K_prime (hS : SJ g b n xs) (h0 : 0 ≤ i) (hi : i + 6 ≤ n) (hW : WJ S x) (kk : ∀ S' : PS, WJ S' x → PW g cL_law (iL_law nm hh) 2986 (lL b x i) [] S' kc ks Q) : PW g cL_law (iL_law nm hh) 514 (lL b x i) [] S (kc + 12) (ks + 60) Q := by
  obtain ⟨a, H, nx, ct, fd, ea, th, tx, kp, bf, hX, hI, hf, hJ, hK, hB, hF⟩ := hW
  refine r_aload_n dL_law_514 (i := 1) rfl rfl ?_
  refine r_arg dL_law_515 dL_law_516 dL_law_518 dL_law_519 dL_law_520 hS rfl rfl h0 (by omega) hi ?_
  refine r_arg dL_law_521 dL_law_522 dL_law_524 dL_law_525 dL_law_526 hS rfl rfl h0 (by omega) hi ?_
  refine r_aload_n dL_law_527 (i := 3) rfl rfl ?_
  have c1 := L1_prime (g := g) (mc := 1) (ms := 6) (q := sA xs (i + 1)) (w := sA xs (i + 2)) hX hI hJ hF hf sA_ri sA_ri (Nat.le_refl _) (Nat.le_refl _) (k9_prime (q := sA xs (i + 1)) (w := sA xs (i + 2)))
  refine r_invW dL_law_528 c1 (fun E S' h => by cases h.1) mq_L_prime ml_L_172 ⟨Nat.le_of_ble_eq_true rfl, Nat.le_of_ble_eq_true rfl⟩ rfl rfl (Nat.le_of_ble_eq_true rfl) (kc' := kc) (ks' := ks) (by show 1 + kc ≤ kc + 12; omega) (by show 6 + ks ≤ ks + 60; omega) (fun o S1 hc => ?_)
  obtain ⟨e1, hk9, hJ1, hF1, -, -⟩ := id hc
  cases e1
  refine r_istore (x := _) dL_law_531 rfl (Nat.le_of_ble_eq_true rfl) ?_
  refine r_aload_n dL_law_533 (i := 2) rfl rfl ?_
  refine r_arg dL_law_534 dL_law_535 dL_law_537 dL_law_538 dL_law_539 hS rfl rfl h0 (by omega) hi ?_
  refine r_arg dL_law_540 dL_law_541 dL_law_543 dL_law_544 dL_law_545 hS rfl rfl h0 (by omega) hi ?_
  have c2 := M1_prime (g := g) (mc := 0) (ms := 0) (q := sA xs (i + 1)) (w := sA xs (i + 2)) hI hX.2.2.2.1.2.2 hJ1 sA_ri sA_ri
  obtain ⟨sz, at', be, ki, wr, wa, nu, bs, bw, bt', hm⟩ := hJ1.1
  refine r_invV dL_law_546 c2 mq_X10_prime ml_L_175 ⟨Nat.le_of_ble_eq_true rfl, Nat.le_of_ble_eq_true rfl⟩ hm rfl rfl rfl (Nat.le_of_ble_eq_true rfl) (kc' := kc) (ks' := ks) (by show 0 + kc ≤ kc; omega) (by show 0 + ks ≤ ks; omega) (fun E S2 h => by obtain ⟨r, h1, h2⟩ := h; cases h1) (fun o2 S2 hq => ?_)
  obtain ⟨r, h1, h2⟩ := id hq
  cases h1
  have hE := e_Q hI hf hK hB hc hq
  exact t_I dL_law_549 dL_law_551 dL_law_552 dL_law_555 dL_law_557 dL_law_562 dL_law_564 dL_law_567 dL_law_568 dL_law_569 dL_law_570 dL_law_572 dL_law_573 dL_law_574 dL_law_579 (by decide) hE (kk _ hE.1)
theorem K_root (hS : SJ g b n xs) (h0 : 0 ≤ i) (hi : i + 6 ≤ n) (hW : WJ S x) (kk : ∀ S' : PS, WJ S' x → PW g cL_law (iL_law nm hh) 2986 (lL b x i) [] S' kc ks Q) : PW g cL_law (iL_law nm hh) 582 (lL b x i) [] S (kc + 12) (ks + 60) Q := by
  obtain ⟨a, H, nx, ct, fd, ea, th, tx, kp, bf, hX, hI, hf, hJ, hK, hB, hF⟩ := hW
  refine r_aload_n dL_law_582 (i := 1) rfl rfl ?_
  refine r_arg dL_law_583 dL_law_584 dL_law_586 dL_law_587 dL_law_588 hS rfl rfl h0 (by omega) hi ?_
  refine r_arg dL_law_589 dL_law_590 dL_law_592 dL_law_593 dL_law_594 hS rfl rfl h0 (by omega) hi ?_
  refine r_aload_n dL_law_595 (i := 3) rfl rfl ?_
  have c1 := L1_root (g := g) (mc := 1) (ms := 6) (q := sA xs (i + 1)) (n := sA xs (i + 2)) hX hI hJ hF hf sA_ri sA_ri (Nat.le_refl _) (Nat.le_refl _) (k9_root (q := sA xs (i + 1)) (n := sA xs (i + 2)))
  refine r_invW dL_law_596 c1 (fun E S' h => by cases h.1) mq_L_root ml_L_176 ⟨Nat.le_of_ble_eq_true rfl, Nat.le_of_ble_eq_true rfl⟩ rfl rfl (Nat.le_of_ble_eq_true rfl) (kc' := kc) (ks' := ks) (by show 1 + kc ≤ kc + 12; omega) (by show 6 + ks ≤ ks + 60; omega) (fun o S1 hc => ?_)
  obtain ⟨e1, hk9, hJ1, hF1, -, -⟩ := id hc
  cases e1
  refine r_istore (x := _) dL_law_599 rfl (Nat.le_of_ble_eq_true rfl) ?_
  refine r_aload_n dL_law_601 (i := 2) rfl rfl ?_
  refine r_arg dL_law_602 dL_law_603 dL_law_605 dL_law_606 dL_law_607 hS rfl rfl h0 (by omega) hi ?_
  refine r_arg dL_law_608 dL_law_609 dL_law_611 dL_law_612 dL_law_613 hS rfl rfl h0 (by omega) hi ?_
  have c2 := M1_root (g := g) (mc := 0) (ms := 0) (q := sA xs (i + 1)) (n := sA xs (i + 2)) hI hX.2.2.2.1.2.2 hJ1 sA_ri sA_ri
  obtain ⟨sz, at', be, ki, wr, wa, nu, bs, bw, bt', hm⟩ := hJ1.1
  refine r_invV dL_law_614 c2 mq_X10_root ml_L_178 ⟨Nat.le_of_ble_eq_true rfl, Nat.le_of_ble_eq_true rfl⟩ hm rfl rfl rfl (Nat.le_of_ble_eq_true rfl) (kc' := kc) (ks' := ks) (by show 0 + kc ≤ kc; omega) (by show 0 + ks ≤ ks; omega) (fun E S2 h => by obtain ⟨r, h1, h2⟩ := h; cases h1) (fun o2 S2 hq => ?_)
  obtain ⟨r, h1, h2⟩ := id hq
  cases h1
  have hE := e_Q hI hf hK hB hc hq
  exact t_I dL_law_617 dL_law_619 dL_law_620 dL_law_623 dL_law_625 dL_law_630 dL_law_632 dL_law_635 dL_law_636 dL_law_637 dL_law_638 dL_law_640 dL_law_641 dL_law_642 dL_law_647 (by decide) hE (kk _ hE.1)
theorem K_power (hS : SJ g b n xs) (h0 : 0 ≤ i) (hi : i + 6 ≤ n) (hW : WJ S x) (kk : ∀ S' : PS, WJ S' x → PW g cL_law (iL_law nm hh) 2986 (lL b x i) [] S' kc ks Q) : PW g cL_law (iL_law nm hh) 650 (lL b x i) [] S (kc + 12) (ks + 60) Q := by
  obtain ⟨a, H, nx, ct, fd, ea, th, tx, kp, bf, hX, hI, hf, hJ, hK, hB, hF⟩ := hW
  refine r_aload_n dL_law_650 (i := 1) rfl rfl ?_
  refine r_arg dL_law_651 dL_law_652 dL_law_654 dL_law_655 dL_law_656 hS rfl rfl h0 (by omega) hi ?_
  refine r_arg dL_law_657 dL_law_658 dL_law_660 dL_law_661 dL_law_662 hS rfl rfl h0 (by omega) hi ?_
  refine r_arg dL_law_663 dL_law_664 dL_law_666 dL_law_667 dL_law_668 hS rfl rfl h0 (by omega) hi ?_
  refine r_aload_n dL_law_669 (i := 3) rfl rfl ?_
  have c1 := L1_power (g := g) (mc := 1) (ms := 6) (q := sA xs (i + 1)) (b := sA xs (i + 2)) (e := sA xs (i + 3)) hX hI hJ hF hf sA_ri sA_ri sA_ri (Nat.le_refl _) (Nat.le_refl _) (k9_power (q := sA xs (i + 1)) (b := sA xs (i + 2)) (e := sA xs (i + 3)))
  refine r_invW dL_law_670 c1 (fun E S' h => by cases h.1) mq_L_power ml_L_179 ⟨Nat.le_of_ble_eq_true rfl, Nat.le_of_ble_eq_true rfl⟩ rfl rfl (Nat.le_of_ble_eq_true rfl) (kc' := kc) (ks' := ks) (by show 1 + kc ≤ kc + 12; omega) (by show 6 + ks ≤ ks + 60; omega) (fun o S1 hc => ?_)
  obtain ⟨e1, hk9, hJ1, hF1, -, -⟩ := id hc
  cases e1
  refine r_istore (x := _) dL_law_673 rfl (Nat.le_of_ble_eq_true rfl) ?_
  refine r_aload_n dL_law_675 (i := 2) rfl rfl ?_
  refine r_arg dL_law_676 dL_law_677 dL_law_679 dL_law_680 dL_law_681 hS rfl rfl h0 (by omega) hi ?_
  refine r_arg dL_law_682 dL_law_683 dL_law_685 dL_law_686 dL_law_687 hS rfl rfl h0 (by omega) hi ?_
  refine r_arg dL_law_688 dL_law_689 dL_law_691 dL_law_692 dL_law_693 hS rfl rfl h0 (by omega) hi ?_
  have c2 := M1_power (g := g) (mc := 0) (ms := 0) (q := sA xs (i + 1)) (b := sA xs (i + 2)) (e := sA xs (i + 3)) hI hX.2.2.2.1.2.2 hJ1 sA_ri sA_ri sA_ri
  obtain ⟨sz, at', be, ki, wr, wa, nu, bs, bw, bt', hm⟩ := hJ1.1
  refine r_invV dL_law_694 c2 mq_X10_power ml_L_182 ⟨Nat.le_of_ble_eq_true rfl, Nat.le_of_ble_eq_true rfl⟩ hm rfl rfl rfl (Nat.le_of_ble_eq_true rfl) (kc' := kc) (ks' := ks) (by show 0 + kc ≤ kc; omega) (by show 0 + ks ≤ ks; omega) (fun E S2 h => by obtain ⟨r, h1, h2⟩ := h; cases h1) (fun o2 S2 hq => ?_)
  obtain ⟨r, h1, h2⟩ := id hq
  cases h1
  have hE := e_Q hI hf hK hB hc hq
  exact t_I dL_law_697 dL_law_699 dL_law_700 dL_law_703 dL_law_705 dL_law_710 dL_law_712 dL_law_715 dL_law_716 dL_law_717 dL_law_718 dL_law_720 dL_law_721 dL_law_722 dL_law_727 (by decide) hE (kk _ hE.1)
theorem K_inverse (hS : SJ g b n xs) (h0 : 0 ≤ i) (hi : i + 6 ≤ n) (hW : WJ S x) (kk : ∀ S' : PS, WJ S' x → PW g cL_law (iL_law nm hh) 2986 (lL b x i) [] S' kc ks Q) : PW g cL_law (iL_law nm hh) 730 (lL b x i) [] S (kc + 12) (ks + 60) Q := by
  obtain ⟨a, H, nx, ct, fd, ea, th, tx, kp, bf, hX, hI, hf, hJ, hK, hB, hF⟩ := hW
  refine r_aload_n dL_law_730 (i := 1) rfl rfl ?_
  refine r_arg dL_law_731 dL_law_732 dL_law_734 dL_law_735 dL_law_736 hS rfl rfl h0 (by omega) hi ?_
  refine r_arg dL_law_737 dL_law_738 dL_law_740 dL_law_741 dL_law_742 hS rfl rfl h0 (by omega) hi ?_
  refine r_aload_n dL_law_743 (i := 3) rfl rfl ?_
  have c1 := L1_inverse (g := g) (mc := 1) (ms := 6) (q := sA xs (i + 1)) (v := sA xs (i + 2)) hX hI hJ hF hf sA_ri sA_ri (Nat.le_refl _) (Nat.le_refl _) (k9_inverse (q := sA xs (i + 1)) (v := sA xs (i + 2)))
  refine r_invW dL_law_744 c1 (fun E S' h => by cases h.1) mq_L_inverse ml_L_183 ⟨Nat.le_of_ble_eq_true rfl, Nat.le_of_ble_eq_true rfl⟩ rfl rfl (Nat.le_of_ble_eq_true rfl) (kc' := kc) (ks' := ks) (by show 1 + kc ≤ kc + 12; omega) (by show 6 + ks ≤ ks + 60; omega) (fun o S1 hc => ?_)
  obtain ⟨e1, hk9, hJ1, hF1, -, -⟩ := id hc
  cases e1
  refine r_istore (x := _) dL_law_747 rfl (Nat.le_of_ble_eq_true rfl) ?_
  refine r_aload_n dL_law_749 (i := 2) rfl rfl ?_
  refine r_arg dL_law_750 dL_law_751 dL_law_753 dL_law_754 dL_law_755 hS rfl rfl h0 (by omega) hi ?_
  refine r_arg dL_law_756 dL_law_757 dL_law_759 dL_law_760 dL_law_761 hS rfl rfl h0 (by omega) hi ?_
  have c2 := M1_inverse (g := g) (mc := 0) (ms := 0) (q := sA xs (i + 1)) (v := sA xs (i + 2)) hI hX.2.2.2.1.2.2 hJ1 sA_ri sA_ri
  obtain ⟨sz, at', be, ki, wr, wa, nu, bs, bw, bt', hm⟩ := hJ1.1
  refine r_invV dL_law_762 c2 mq_X10_inverse ml_L_185 ⟨Nat.le_of_ble_eq_true rfl, Nat.le_of_ble_eq_true rfl⟩ hm rfl rfl rfl (Nat.le_of_ble_eq_true rfl) (kc' := kc) (ks' := ks) (by show 0 + kc ≤ kc; omega) (by show 0 + ks ≤ ks; omega) (fun E S2 h => by obtain ⟨r, h1, h2⟩ := h; cases h1) (fun o2 S2 hq => ?_)
  obtain ⟨r, h1, h2⟩ := id hq
  cases h1
  have hE := e_Q hI hf hK hB hc hq
  exact t_I dL_law_765 dL_law_767 dL_law_768 dL_law_771 dL_law_773 dL_law_778 dL_law_780 dL_law_783 dL_law_784 dL_law_785 dL_law_786 dL_law_788 dL_law_789 dL_law_790 dL_law_795 (by decide) hE (kk _ hE.1)
theorem K_order (hS : SJ g b n xs) (h0 : 0 ≤ i) (hi : i + 6 ≤ n) (hW : WJ S x) (kk : ∀ S' : PS, WJ S' x → PW g cL_law (iL_law nm hh) 2986 (lL b x i) [] S' kc ks Q) : PW g cL_law (iL_law nm hh) 798 (lL b x i) [] S (kc + 12) (ks + 60) Q := by
  obtain ⟨a, H, nx, ct, fd, ea, th, tx, kp, bf, hX, hI, hf, hJ, hK, hB, hF⟩ := hW
  refine r_aload_n dL_law_798 (i := 1) rfl rfl ?_
  refine r_arg dL_law_799 dL_law_800 dL_law_802 dL_law_803 dL_law_804 hS rfl rfl h0 (by omega) hi ?_
  refine r_arg dL_law_805 dL_law_806 dL_law_808 dL_law_809 dL_law_810 hS rfl rfl h0 (by omega) hi ?_
  refine r_aload_n dL_law_811 (i := 3) rfl rfl ?_
  have c1 := L1_order (g := g) (mc := 1) (ms := 6) (q := sA xs (i + 1)) (v := sA xs (i + 2)) hX hI hJ hF hf sA_ri sA_ri (Nat.le_refl _) (Nat.le_refl _) (k9_order (q := sA xs (i + 1)) (v := sA xs (i + 2)))
  refine r_invW dL_law_812 c1 (fun E S' h => by cases h.1) mq_L_order ml_L_186 ⟨Nat.le_of_ble_eq_true rfl, Nat.le_of_ble_eq_true rfl⟩ rfl rfl (Nat.le_of_ble_eq_true rfl) (kc' := kc) (ks' := ks) (by show 1 + kc ≤ kc + 12; omega) (by show 6 + ks ≤ ks + 60; omega) (fun o S1 hc => ?_)
  obtain ⟨e1, hk9, hJ1, hF1, -, -⟩ := id hc
  cases e1
  refine r_istore (x := _) dL_law_815 rfl (Nat.le_of_ble_eq_true rfl) ?_
  refine r_aload_n dL_law_817 (i := 2) rfl rfl ?_
  refine r_arg dL_law_818 dL_law_819 dL_law_821 dL_law_822 dL_law_823 hS rfl rfl h0 (by omega) hi ?_
  refine r_arg dL_law_824 dL_law_825 dL_law_827 dL_law_828 dL_law_829 hS rfl rfl h0 (by omega) hi ?_
  have c2 := M1_order (g := g) (mc := 0) (ms := 0) (q := sA xs (i + 1)) (v := sA xs (i + 2)) hI hX.2.2.2.1.2.2 hJ1 sA_ri sA_ri
  obtain ⟨sz, at', be, ki, wr, wa, nu, bs, bw, bt', hm⟩ := hJ1.1
  refine r_invV dL_law_830 c2 mq_X10_order ml_L_188 ⟨Nat.le_of_ble_eq_true rfl, Nat.le_of_ble_eq_true rfl⟩ hm rfl rfl rfl (Nat.le_of_ble_eq_true rfl) (kc' := kc) (ks' := ks) (by show 0 + kc ≤ kc; omega) (by show 0 + ks ≤ ks; omega) (fun E S2 h => by obtain ⟨r, h1, h2⟩ := h; cases h1) (fun o2 S2 hq => ?_)
  obtain ⟨r, h1, h2⟩ := id hq
  cases h1
  have hE := e_Q hI hf hK hB hc hq
  exact t_I dL_law_833 dL_law_835 dL_law_836 dL_law_839 dL_law_841 dL_law_846 dL_law_848 dL_law_851 dL_law_852 dL_law_853 dL_law_854 dL_law_856 dL_law_857 dL_law_858 dL_law_863 (by decide) hE (kk _ hE.1)
theorem K_logarithm (hS : SJ g b n xs) (h0 : 0 ≤ i) (hi : i + 6 ≤ n) (hW : WJ S x) (kk : ∀ S' : PS, WJ S' x → PW g cL_law (iL_law nm hh) 2986 (lL b x i) [] S' kc ks Q) : PW g cL_law (iL_law nm hh) 866 (lL b x i) [] S (kc + 12) (ks + 60) Q := by
  obtain ⟨a, H, nx, ct, fd, ea, th, tx, kp, bf, hX, hI, hf, hJ, hK, hB, hF⟩ := hW
  refine r_aload_n dL_law_866 (i := 1) rfl rfl ?_
  refine r_arg dL_law_867 dL_law_868 dL_law_870 dL_law_871 dL_law_872 hS rfl rfl h0 (by omega) hi ?_
  refine r_arg dL_law_873 dL_law_874 dL_law_876 dL_law_877 dL_law_878 hS rfl rfl h0 (by omega) hi ?_
  refine r_aload_n dL_law_879 (i := 3) rfl rfl ?_
  have c1 := L1_logarithm (g := g) (mc := 1) (ms := 6) (q := sA xs (i + 1)) (v := sA xs (i + 2)) hX hI hJ hF hf sA_ri sA_ri (Nat.le_refl _) (Nat.le_refl _) (k9_logarithm (q := sA xs (i + 1)) (v := sA xs (i + 2)))
  refine r_invW dL_law_880 c1 (fun E S' h => by cases h.1) mq_L_logarithm ml_L_189 ⟨Nat.le_of_ble_eq_true rfl, Nat.le_of_ble_eq_true rfl⟩ rfl rfl (Nat.le_of_ble_eq_true rfl) (kc' := kc) (ks' := ks) (by show 1 + kc ≤ kc + 12; omega) (by show 6 + ks ≤ ks + 60; omega) (fun o S1 hc => ?_)
  obtain ⟨e1, hk9, hJ1, hF1, -, -⟩ := id hc
  cases e1
  refine r_istore (x := _) dL_law_883 rfl (Nat.le_of_ble_eq_true rfl) ?_
  refine r_aload_n dL_law_885 (i := 2) rfl rfl ?_
  refine r_arg dL_law_886 dL_law_887 dL_law_889 dL_law_890 dL_law_891 hS rfl rfl h0 (by omega) hi ?_
  refine r_arg dL_law_892 dL_law_893 dL_law_895 dL_law_896 dL_law_897 hS rfl rfl h0 (by omega) hi ?_
  have c2 := M1_logarithm (g := g) (mc := 0) (ms := 0) (q := sA xs (i + 1)) (v := sA xs (i + 2)) hI hX.2.2.2.1.2.2 hJ1 sA_ri sA_ri
  obtain ⟨sz, at', be, ki, wr, wa, nu, bs, bw, bt', hm⟩ := hJ1.1
  refine r_invV dL_law_898 c2 mq_X10_logarithm ml_L_191 ⟨Nat.le_of_ble_eq_true rfl, Nat.le_of_ble_eq_true rfl⟩ hm rfl rfl rfl (Nat.le_of_ble_eq_true rfl) (kc' := kc) (ks' := ks) (by show 0 + kc ≤ kc; omega) (by show 0 + ks ≤ ks; omega) (fun E S2 h => by obtain ⟨r, h1, h2⟩ := h; cases h1) (fun o2 S2 hq => ?_)
  obtain ⟨r, h1, h2⟩ := id hq
  cases h1
  have hE := e_Q hI hf hK hB hc hq
  exact t_I dL_law_901 dL_law_903 dL_law_904 dL_law_907 dL_law_909 dL_law_914 dL_law_916 dL_law_919 dL_law_920 dL_law_921 dL_law_922 dL_law_924 dL_law_925 dL_law_926 dL_law_931 (by decide) hE (kk _ hE.1)
theorem K_primeFor (hS : SJ g b n xs) (h0 : 0 ≤ i) (hi : i + 6 ≤ n) (hW : WJ S x) (kk : ∀ S' : PS, WJ S' x → PW g cL_law (iL_law nm hh) 2986 (lL b x i) [] S' kc ks Q) : PW g cL_law (iL_law nm hh) 934 (lL b x i) [] S (kc + 12) (ks + 60) Q := by
  obtain ⟨a, H, nx, ct, fd, ea, th, tx, kp, bf, hX, hI, hf, hJ, hK, hB, hF⟩ := hW
  refine r_aload_n dL_law_934 (i := 1) rfl rfl ?_
  refine r_arg dL_law_935 dL_law_936 dL_law_938 dL_law_939 dL_law_940 hS rfl rfl h0 (by omega) hi ?_
  refine r_arg dL_law_941 dL_law_942 dL_law_944 dL_law_945 dL_law_946 hS rfl rfl h0 (by omega) hi ?_
  refine r_aload_n dL_law_947 (i := 3) rfl rfl ?_
  have c1 := L1_primeFor (g := g) (mc := 1) (ms := 6) (n := sA xs (i + 1)) (ab := sA xs (i + 2)) hX hI hJ hF hf sA_ri sA_ri (Nat.le_refl _) (Nat.le_refl _) (k9_primeFor (n := sA xs (i + 1)) (ab := sA xs (i + 2)))
  refine r_invW dL_law_948 c1 (fun E S' h => by cases h.1) mq_L_primeFor ml_L_192 ⟨Nat.le_of_ble_eq_true rfl, Nat.le_of_ble_eq_true rfl⟩ rfl rfl (Nat.le_of_ble_eq_true rfl) (kc' := kc) (ks' := ks) (by show 1 + kc ≤ kc + 12; omega) (by show 6 + ks ≤ ks + 60; omega) (fun o S1 hc => ?_)
  obtain ⟨e1, hk9, hJ1, hF1, -, -⟩ := id hc
  cases e1
  refine r_istore (x := _) dL_law_951 rfl (Nat.le_of_ble_eq_true rfl) ?_
  refine r_aload_n dL_law_953 (i := 2) rfl rfl ?_
  refine r_arg dL_law_954 dL_law_955 dL_law_957 dL_law_958 dL_law_959 hS rfl rfl h0 (by omega) hi ?_
  refine r_arg dL_law_960 dL_law_961 dL_law_963 dL_law_964 dL_law_965 hS rfl rfl h0 (by omega) hi ?_
  have c2 := M1_primeFor (g := g) (mc := 0) (ms := 0) (n := sA xs (i + 1)) (above := sA xs (i + 2)) hI hX.2.2.2.1.2.2 hJ1 sA_ri sA_ri
  obtain ⟨sz, at', be, ki, wr, wa, nu, bs, bw, bt', hm⟩ := hJ1.1
  refine r_invV dL_law_966 c2 mq_X10_primeFor ml_L_194 ⟨Nat.le_of_ble_eq_true rfl, Nat.le_of_ble_eq_true rfl⟩ hm rfl rfl rfl (Nat.le_of_ble_eq_true rfl) (kc' := kc) (ks' := ks) (by show 0 + kc ≤ kc; omega) (by show 0 + ks ≤ ks; omega) (fun E S2 h => by obtain ⟨r, h1, h2⟩ := h; cases h1) (fun o2 S2 hq => ?_)
  obtain ⟨r, h1, h2⟩ := id hq
  cases h1
  have hE := e_Q hI hf hK hB hc hq
  exact t_I dL_law_969 dL_law_971 dL_law_972 dL_law_975 dL_law_977 dL_law_982 dL_law_984 dL_law_987 dL_law_988 dL_law_989 dL_law_990 dL_law_992 dL_law_993 dL_law_994 dL_law_999 (by decide) hE (kk _ hE.1)
theorem K_usable (hS : SJ g b n xs) (h0 : 0 ≤ i) (hi : i + 6 ≤ n) (hW : WJ S x) (kk : ∀ S' : PS, WJ S' x → PW g cL_law (iL_law nm hh) 2986 (lL b x i) [] S' kc ks Q) : PW g cL_law (iL_law nm hh) 1002 (lL b x i) [] S (kc + 12) (ks + 60) Q := by
  obtain ⟨a, H, nx, ct, fd, ea, th, tx, kp, bf, hX, hI, hf, hJ, hK, hB, hF⟩ := hW
  refine r_aload_n dL_law_1002 (i := 1) rfl rfl ?_
  refine r_arg dL_law_1003 dL_law_1004 dL_law_1006 dL_law_1007 dL_law_1008 hS rfl rfl h0 (by omega) hi ?_
  refine r_arg dL_law_1009 dL_law_1010 dL_law_1012 dL_law_1013 dL_law_1014 hS rfl rfl h0 (by omega) hi ?_
  refine r_aload_n dL_law_1015 (i := 3) rfl rfl ?_
  have c1 := L1_usable (g := g) (mc := 1) (ms := 6) (kd := sA xs (i + 1)) (n := sA xs (i + 2)) hX hI hJ hF hf sA_ri sA_ri (Nat.le_refl _) (Nat.le_refl _) (k9_usable (kd := sA xs (i + 1)) (n := sA xs (i + 2)))
  refine r_invW dL_law_1016 c1 (fun E S' h => by cases h.1) mq_L_usable ml_L_195 ⟨Nat.le_of_ble_eq_true rfl, Nat.le_of_ble_eq_true rfl⟩ rfl rfl (Nat.le_of_ble_eq_true rfl) (kc' := kc) (ks' := ks) (by show 1 + kc ≤ kc + 12; omega) (by show 6 + ks ≤ ks + 60; omega) (fun o S1 hc => ?_)
  obtain ⟨e1, hk9, hJ1, hF1, -, -⟩ := id hc
  cases e1
  refine r_istore (x := _) dL_law_1019 rfl (Nat.le_of_ble_eq_true rfl) ?_
  refine r_aload_n dL_law_1021 (i := 2) rfl rfl ?_
  refine r_arg dL_law_1022 dL_law_1023 dL_law_1025 dL_law_1026 dL_law_1027 hS rfl rfl h0 (by omega) hi ?_
  refine r_arg dL_law_1028 dL_law_1029 dL_law_1031 dL_law_1032 dL_law_1033 hS rfl rfl h0 (by omega) hi ?_
  have c2 := M1_usable (g := g) (mc := 0) (ms := 0) (kd := sA xs (i + 1)) (n := sA xs (i + 2)) hI hX.2.2.2.1.2.2 hJ1 sA_ri sA_ri
  obtain ⟨sz, at', be, ki, wr, wa, nu, bs, bw, bt', hm⟩ := hJ1.1
  refine r_invV dL_law_1034 c2 mq_X10_usable ml_L_197 ⟨Nat.le_of_ble_eq_true rfl, Nat.le_of_ble_eq_true rfl⟩ hm rfl rfl rfl (Nat.le_of_ble_eq_true rfl) (kc' := kc) (ks' := ks) (by show 0 + kc ≤ kc; omega) (by show 0 + ks ≤ ks; omega) (fun E S2 h => by obtain ⟨r, h1, h2⟩ := h; cases h1) (fun o2 S2 hq => ?_)
  obtain ⟨r, h1, h2⟩ := id hq
  cases h1
  have hE := e_Q hI hf hK hB hc hq
  exact t_I dL_law_1037 dL_law_1039 dL_law_1040 dL_law_1043 dL_law_1045 dL_law_1050 dL_law_1052 dL_law_1055 dL_law_1056 dL_law_1057 dL_law_1058 dL_law_1060 dL_law_1061 dL_law_1062 dL_law_1067 (by decide) hE (kk _ hE.1)
theorem K_length (hS : SJ g b n xs) (h0 : 0 ≤ i) (hi : i + 6 ≤ n) (hW : WJ S x) (kk : ∀ S' : PS, WJ S' x → PW g cL_law (iL_law nm hh) 2986 (lL b x i) [] S' kc ks Q) : PW g cL_law (iL_law nm hh) 1070 (lL b x i) [] S (kc + 12) (ks + 60) Q := by
  obtain ⟨a, H, nx, ct, fd, ea, th, tx, kp, bf, hX, hI, hf, hJ, hK, hB, hF⟩ := hW
  refine r_aload_n dL_law_1070 (i := 1) rfl rfl ?_
  refine r_arg dL_law_1071 dL_law_1072 dL_law_1074 dL_law_1075 dL_law_1076 hS rfl rfl h0 (by omega) hi ?_
  refine r_aload_n dL_law_1077 (i := 3) rfl rfl ?_
  have c1 := L1_length (g := g) (mc := 1) (ms := 6) (s := sA xs (i + 1)) hX hI hJ hF hf sA_ri (Nat.le_refl _) (Nat.le_refl _) (k9_length (s := sA xs (i + 1)))
  refine r_invW dL_law_1078 c1 (fun E S' h => by cases h.1) mq_L_length ml_L_198 ⟨Nat.le_of_ble_eq_true rfl, Nat.le_of_ble_eq_true rfl⟩ rfl rfl (Nat.le_of_ble_eq_true rfl) (kc' := kc) (ks' := ks) (by show 1 + kc ≤ kc + 12; omega) (by show 6 + ks ≤ ks + 60; omega) (fun o S1 hc => ?_)
  obtain ⟨e1, hk9, hJ1, hF1, -, -⟩ := id hc
  cases e1
  refine r_istore (x := _) dL_law_1081 rfl (Nat.le_of_ble_eq_true rfl) ?_
  refine r_aload_n dL_law_1083 (i := 2) rfl rfl ?_
  refine r_arg dL_law_1084 dL_law_1085 dL_law_1087 dL_law_1088 dL_law_1089 hS rfl rfl h0 (by omega) hi ?_
  have c2 := M1_length (g := g) (mc := 0) (ms := 0) (s := sA xs (i + 1)) hI hX.2.2.2.1.2.2 hJ1 sA_ri
  obtain ⟨sz, at', be, ki, wr, wa, nu, bs, bw, bt', hm⟩ := hJ1.1
  refine r_invV dL_law_1090 c2 mq_X10_length ml_L_200 ⟨Nat.le_of_ble_eq_true rfl, Nat.le_of_ble_eq_true rfl⟩ hm rfl rfl rfl (Nat.le_of_ble_eq_true rfl) (kc' := kc) (ks' := ks) (by show 0 + kc ≤ kc; omega) (by show 0 + ks ≤ ks; omega) (fun E S2 h => by obtain ⟨r, h1, h2⟩ := h; cases h1) (fun o2 S2 hq => ?_)
  obtain ⟨r, h1, h2⟩ := id hq
  cases h1
  have hE := e_Q hI hf hK hB hc hq
  exact t_I dL_law_1093 dL_law_1095 dL_law_1096 dL_law_1099 dL_law_1101 dL_law_1106 dL_law_1108 dL_law_1111 dL_law_1112 dL_law_1113 dL_law_1114 dL_law_1116 dL_law_1117 dL_law_1118 dL_law_1123 (by decide) hE (kk _ hE.1)
theorem K_term (hS : SJ g b n xs) (h0 : 0 ≤ i) (hi : i + 6 ≤ n) (hW : WJ S x) (kk : ∀ S' : PS, WJ S' x → PW g cL_law (iL_law nm hh) 2986 (lL b x i) [] S' kc ks Q) : PW g cL_law (iL_law nm hh) 1126 (lL b x i) [] S (kc + 12) (ks + 60) Q := by
  obtain ⟨a, H, nx, ct, fd, ea, th, tx, kp, bf, hX, hI, hf, hJ, hK, hB, hF⟩ := hW
  refine r_aload_n dL_law_1126 (i := 1) rfl rfl ?_
  refine r_arg dL_law_1127 dL_law_1128 dL_law_1130 dL_law_1131 dL_law_1132 hS rfl rfl h0 (by omega) hi ?_
  refine r_arg dL_law_1133 dL_law_1134 dL_law_1136 dL_law_1137 dL_law_1138 hS rfl rfl h0 (by omega) hi ?_
  refine r_aload_n dL_law_1139 (i := 3) rfl rfl ?_
  have c1 := L1_term (g := g) (mc := 1) (ms := 6) (s := sA xs (i + 1)) (k := sA xs (i + 2)) hX hI hJ hF hf sA_ri sA_ri (Nat.le_refl _) (Nat.le_refl _) (k9_term (s := sA xs (i + 1)) (k := sA xs (i + 2)))
  refine r_invW dL_law_1140 c1 (fun E S' h => by cases h.1) mq_L_term ml_L_201 ⟨Nat.le_of_ble_eq_true rfl, Nat.le_of_ble_eq_true rfl⟩ rfl rfl (Nat.le_of_ble_eq_true rfl) (kc' := kc) (ks' := ks) (by show 1 + kc ≤ kc + 12; omega) (by show 6 + ks ≤ ks + 60; omega) (fun o S1 hc => ?_)
  obtain ⟨e1, hk9, hJ1, hF1, -, -⟩ := id hc
  cases e1
  refine r_istore (x := _) dL_law_1143 rfl (Nat.le_of_ble_eq_true rfl) ?_
  refine r_aload_n dL_law_1145 (i := 2) rfl rfl ?_
  refine r_arg dL_law_1146 dL_law_1147 dL_law_1149 dL_law_1150 dL_law_1151 hS rfl rfl h0 (by omega) hi ?_
  refine r_arg dL_law_1152 dL_law_1153 dL_law_1155 dL_law_1156 dL_law_1157 hS rfl rfl h0 (by omega) hi ?_
  have c2 := M1_term (g := g) (mc := 0) (ms := 0) (s := sA xs (i + 1)) (k := sA xs (i + 2)) hI hX.2.2.2.1.2.2 hJ1 sA_ri sA_ri
  obtain ⟨sz, at', be, ki, wr, wa, nu, bs, bw, bt', hm⟩ := hJ1.1
  refine r_invV dL_law_1158 c2 mq_X10_term ml_L_203 ⟨Nat.le_of_ble_eq_true rfl, Nat.le_of_ble_eq_true rfl⟩ hm rfl rfl rfl (Nat.le_of_ble_eq_true rfl) (kc' := kc) (ks' := ks) (by show 0 + kc ≤ kc; omega) (by show 0 + ks ≤ ks; omega) (fun E S2 h => by obtain ⟨r, h1, h2⟩ := h; cases h1) (fun o2 S2 hq => ?_)
  obtain ⟨r, h1, h2⟩ := id hq
  cases h1
  have hE := e_Q hI hf hK hB hc hq
  exact t_I dL_law_1161 dL_law_1163 dL_law_1164 dL_law_1167 dL_law_1169 dL_law_1174 dL_law_1176 dL_law_1179 dL_law_1180 dL_law_1181 dL_law_1182 dL_law_1184 dL_law_1185 dL_law_1186 dL_law_1191 (by decide) hE (kk _ hE.1)
theorem K_setSequence (hS : SJ g b n xs) (h0 : 0 ≤ i) (hi : i + 6 ≤ n) (hW : WJ S x) (kk : ∀ S' : PS, WJ S' x → PW g cL_law (iL_law nm hh) 2986 (lL b x i) [] S' kc ks Q) : PW g cL_law (iL_law nm hh) 1194 (lL b x i) [] S (kc + 12) (ks + 60) Q := by
  obtain ⟨a, H, nx, ct, fd, ea, th, tx, kp, bf, hX, hI, hf, hJ, hK, hB, hF⟩ := hW
  refine r_aload_n dL_law_1194 (i := 1) rfl rfl ?_
  refine r_arg dL_law_1195 dL_law_1196 dL_law_1198 dL_law_1199 dL_law_1200 hS rfl rfl h0 (by omega) hi ?_
  refine r_arg dL_law_1201 dL_law_1202 dL_law_1204 dL_law_1205 dL_law_1206 hS rfl rfl h0 (by omega) hi ?_
  refine r_arg dL_law_1207 dL_law_1208 dL_law_1210 dL_law_1211 dL_law_1212 hS rfl rfl h0 (by omega) hi ?_
  refine r_arg dL_law_1213 dL_law_1214 dL_law_1216 dL_law_1217 dL_law_1218 hS rfl rfl h0 (by omega) hi ?_
  refine r_aload_n dL_law_1219 (i := 3) rfl rfl ?_
  have c1 := L1_setSequence (g := g) (mc := 1) (ms := 6) (s := sA xs (i + 1)) (len := sA xs (i + 2)) (fr := sA xs (i + 3)) (st := sA xs (i + 4)) hX hI hJ hF hf sA_ri sA_ri sA_ri sA_ri (Nat.le_refl _) (Nat.le_refl _) (k9_setSequence (s := sA xs (i + 1)) (len := sA xs (i + 2)) (fr := sA xs (i + 3)) (st := sA xs (i + 4)))
  refine r_invW dL_law_1220 c1 (fun E S' h => by cases h.1) mq_L_setSequence ml_L_204 ⟨Nat.le_of_ble_eq_true rfl, Nat.le_of_ble_eq_true rfl⟩ rfl rfl (Nat.le_of_ble_eq_true rfl) (kc' := kc) (ks' := ks) (by show 1 + kc ≤ kc + 12; omega) (by show 6 + ks ≤ ks + 60; omega) (fun o S1 hc => ?_)
  obtain ⟨e1, hk9, hJ1, hF1, -, -⟩ := id hc
  cases e1
  refine r_istore (x := _) dL_law_1223 rfl (Nat.le_of_ble_eq_true rfl) ?_
  refine r_aload_n dL_law_1225 (i := 2) rfl rfl ?_
  refine r_arg dL_law_1226 dL_law_1227 dL_law_1229 dL_law_1230 dL_law_1231 hS rfl rfl h0 (by omega) hi ?_
  refine r_arg dL_law_1232 dL_law_1233 dL_law_1235 dL_law_1236 dL_law_1237 hS rfl rfl h0 (by omega) hi ?_
  refine r_arg dL_law_1238 dL_law_1239 dL_law_1241 dL_law_1242 dL_law_1243 hS rfl rfl h0 (by omega) hi ?_
  refine r_arg dL_law_1244 dL_law_1245 dL_law_1247 dL_law_1248 dL_law_1249 hS rfl rfl h0 (by omega) hi ?_
  have c2 := M1_setSequence (g := g) (mc := 0) (ms := 0) (s := sA xs (i + 1)) (len := sA xs (i + 2)) (fr := sA xs (i + 3)) (st := sA xs (i + 4)) hI hX.2.2.2.1.2.2 hJ1 sA_ri sA_ri sA_ri sA_ri
  obtain ⟨sz, at', be, ki, wr, wa, nu, bs, bw, bt', hm⟩ := hJ1.1
  refine r_invV dL_law_1250 c2 mq_X10_setSequence ml_L_207 ⟨Nat.le_of_ble_eq_true rfl, Nat.le_of_ble_eq_true rfl⟩ hm rfl rfl rfl (Nat.le_of_ble_eq_true rfl) (kc' := kc) (ks' := ks) (by show 0 + kc ≤ kc; omega) (by show 0 + ks ≤ ks; omega) (fun E S2 h => by obtain ⟨r, h1, h2⟩ := h; cases h1) (fun o2 S2 hq => ?_)
  obtain ⟨r, h1, h2⟩ := id hq
  cases h1
  have hE := e_C hX.2.2.2.1.2.1 hX.2.2.2.1.2.2 hI (fun h => ia_set hI h) hf hK hB hc hq
  exact t_I dL_law_1253 dL_law_1255 dL_law_1256 dL_law_1259 dL_law_1261 dL_law_1266 dL_law_1268 dL_law_1271 dL_law_1272 dL_law_1273 dL_law_1274 dL_law_1276 dL_law_1277 dL_law_1278 dL_law_1283 (by decide) hE (kk _ hE.1)
end LAWK

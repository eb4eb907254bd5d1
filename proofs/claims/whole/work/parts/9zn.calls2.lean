/-! calls of the law, on -/
set_option maxHeartbeats 4000000 in
set_option maxRecDepth 100000 in
theorem l_about {g : aw_G} {nm : String} {b L : Nat} {xs : Nat → Int32} {v m : Nat → Nat} {X : List Nat} {ow : Nat} (T : LwS g nm b L xs m X ow) {c : Nat} (hc : 6 * c + 6 ≤ L) {S : aw_S} {k n : Nat} (I : LI v m X ow c S k n) (q : NX g v m X ow b c) : aw g 7 S k n (lvL b (v 4) (m 33) ow (nI (6 * c))) [] 514 := by
  have K := T.1
  have hL9 := T.2.2.2.2.1
  obtain ⟨ad, ar, PA, ρ, Z, P, hC, hM, hJ, o1, n1, hk, hn⟩ := I
  have hn9 : 20 * c + 20 < 1000000000 := by omega
  refine a_aload_n K dL_law_514 rfl ?_
  refine a_arg T (j := 1) hc (by decide) (by decide) rfl rfl dL_law_515 dL_law_516 dL_law_518 dL_law_519 dL_law_520 ?_
  refine a_arg T (j := 2) hc (by decide) (by decide) rfl rfl dL_law_521 dL_law_522 dL_law_524 dL_law_525 dL_law_526 ?_
  refine a_invV K (c_about hC hJ.1 (m := xs (6 * c + 1)) (w := xs (6 * c + 2))) my_X10_about ml_L_56 im_X10_about se_X10_about (ci := 10) (lw_i4 hC.1) (by decide) ⟨_, _, rfl⟩ rfl (by omega) (by omega) (by omega) rfl (Nat.le_of_ble_eq_true rfl) dL_law_527 ?_
  intro r S1 hp
  obtain ⟨rfl, hC1, kX⟩ := hp
  have hM1 := RM_kM hM (T.kM kX)
  have ow1 := T.ow kX o1 n1
  refine a_aload_n K dL_law_530 rfl ?_
  refine a_arg T (j := 1) hc (by decide) (by decide) rfl rfl dL_law_531 dL_law_532 dL_law_534 dL_law_535 dL_law_536 ?_
  refine a_arg T (j := 2) hc (by decide) (by decide) rfl rfl dL_law_537 dL_law_538 dL_law_540 dL_law_541 dL_law_542 ?_
  refine a_invV K (q_about hM1 hJ (i := xs (6 * c + 1)) (w := xs (6 * c + 2))) my_X11_about ml_L_59 im_X11_about se_X11_about (ci := 11) (lm_o hM1.1) (by decide) ⟨_, _, rfl⟩ rfl (by omega) (by omega) (by omega) rfl (Nat.le_of_ble_eq_true rfl) dL_law_543 ?_
  intro r S2 hp
  obtain ⟨rfl, hM2, f⟩ := hp
  have hC2 := hC1.own f T.mX
  have ow2 := frS.ow f ow1
  refine a_icmp_eq K dL_law_546 (tgt := 2036) (by decide) (fun _ => ?_) (fun z => absurd rfl z)
  exact q _ _ _ (LI.mk (by omega) hC2 hM2 (by omega) (by omega) (hJ.up (Nat.le_add_right _ 20)) ow2.1 ow2.2 (by omega) (by omega))
set_option maxHeartbeats 4000000 in
set_option maxRecDepth 100000 in
theorem l_below {g : aw_G} {nm : String} {b L : Nat} {xs : Nat → Int32} {v m : Nat → Nat} {X : List Nat} {ow : Nat} (T : LwS g nm b L xs m X ow) {c : Nat} (hc : 6 * c + 6 ≤ L) {S : aw_S} {k n : Nat} (I : LI v m X ow c S k n) (q : NX g v m X ow b c) : aw g 7 S k n (lvL b (v 4) (m 33) ow (nI (6 * c))) [] 551 := by
  have K := T.1
  have hL9 := T.2.2.2.2.1
  obtain ⟨ad, ar, PA, ρ, Z, P, hC, hM, hJ, o1, n1, hk, hn⟩ := I
  have hn9 : 20 * c + 20 < 1000000000 := by omega
  refine a_aload_n K dL_law_551 rfl ?_
  refine a_arg T (j := 1) hc (by decide) (by decide) rfl rfl dL_law_552 dL_law_553 dL_law_555 dL_law_556 dL_law_557 ?_
  refine a_arg T (j := 2) hc (by decide) (by decide) rfl rfl dL_law_558 dL_law_559 dL_law_561 dL_law_562 dL_law_563 ?_
  refine a_invV K (c_below hC hJ.1 (m := xs (6 * c + 1)) (k := xs (6 * c + 2))) my_X10_below ml_L_60 im_X10_below se_X10_below (ci := 10) (lw_i4 hC.1) (by decide) ⟨_, _, rfl⟩ rfl (by omega) (by omega) (by omega) rfl (Nat.le_of_ble_eq_true rfl) dL_law_564 ?_
  intro r S1 hp
  obtain ⟨rfl, hC1, kX⟩ := hp
  have hM1 := RM_kM hM (T.kM kX)
  have ow1 := T.ow kX o1 n1
  refine a_aload_n K dL_law_567 rfl ?_
  refine a_arg T (j := 1) hc (by decide) (by decide) rfl rfl dL_law_568 dL_law_569 dL_law_571 dL_law_572 dL_law_573 ?_
  refine a_arg T (j := 2) hc (by decide) (by decide) rfl rfl dL_law_574 dL_law_575 dL_law_577 dL_law_578 dL_law_579 ?_
  refine a_invV K (q_below hM1 hJ (i := xs (6 * c + 1)) (k := xs (6 * c + 2))) my_X11_below ml_L_63 im_X11_below se_X11_below (ci := 11) (lm_o hM1.1) (by decide) ⟨_, _, rfl⟩ rfl (by omega) (by omega) (by omega) rfl (Nat.le_of_ble_eq_true rfl) dL_law_580 ?_
  intro r S2 hp
  obtain ⟨rfl, hM2, f⟩ := hp
  have hC2 := hC1.own f T.mX
  have ow2 := frS.ow f ow1
  refine a_icmp_eq K dL_law_583 (tgt := 2036) (by decide) (fun _ => ?_) (fun z => absurd rfl z)
  exact q _ _ _ (LI.mk (by omega) hC2 hM2 (by omega) (by omega) (hJ.up (Nat.le_add_right _ 20)) ow2.1 ow2.2 (by omega) (by omega))
set_option maxHeartbeats 4000000 in
set_option maxRecDepth 100000 in
theorem l_near {g : aw_G} {nm : String} {b L : Nat} {xs : Nat → Int32} {v m : Nat → Nat} {X : List Nat} {ow : Nat} (T : LwS g nm b L xs m X ow) {c : Nat} (hc : 6 * c + 6 ≤ L) {S : aw_S} {k n : Nat} (I : LI v m X ow c S k n) (q : NX g v m X ow b c) : aw g 7 S k n (lvL b (v 4) (m 33) ow (nI (6 * c))) [] 588 := by
  have K := T.1
  have hL9 := T.2.2.2.2.1
  obtain ⟨ad, ar, PA, ρ, Z, P, hC, hM, hJ, o1, n1, hk, hn⟩ := I
  have hn9 : 20 * c + 20 < 1000000000 := by omega
  refine a_aload_n K dL_law_588 rfl ?_
  refine a_arg T (j := 1) hc (by decide) (by decide) rfl rfl dL_law_589 dL_law_590 dL_law_592 dL_law_593 dL_law_594 ?_
  refine a_arg T (j := 2) hc (by decide) (by decide) rfl rfl dL_law_595 dL_law_596 dL_law_598 dL_law_599 dL_law_600 ?_
  refine a_arg T (j := 3) hc (by decide) (by decide) rfl rfl dL_law_601 dL_law_602 dL_law_604 dL_law_605 dL_law_606 ?_
  refine a_invV K (c_near hC hJ.1 (m := xs (6 * c + 1)) (k := xs (6 * c + 2)) (w := xs (6 * c + 3))) my_X10_near ml_L_64 im_X10_near se_X10_near (ci := 10) (lw_i4 hC.1) (by decide) ⟨_, _, rfl⟩ rfl (by omega) (by omega) (by omega) rfl (Nat.le_of_ble_eq_true rfl) dL_law_607 ?_
  intro r S1 hp
  obtain ⟨rfl, hC1, kX⟩ := hp
  have hM1 := RM_kM hM (T.kM kX)
  have ow1 := T.ow kX o1 n1
  refine a_aload_n K dL_law_610 rfl ?_
  refine a_arg T (j := 1) hc (by decide) (by decide) rfl rfl dL_law_611 dL_law_612 dL_law_614 dL_law_615 dL_law_616 ?_
  refine a_arg T (j := 2) hc (by decide) (by decide) rfl rfl dL_law_617 dL_law_618 dL_law_620 dL_law_621 dL_law_622 ?_
  refine a_arg T (j := 3) hc (by decide) (by decide) rfl rfl dL_law_623 dL_law_624 dL_law_626 dL_law_627 dL_law_628 ?_
  refine a_invV K (q_near hM1 hJ (i := xs (6 * c + 1)) (k := xs (6 * c + 2)) (w := xs (6 * c + 3))) my_X11_near ml_L_68 im_X11_near se_X11_near (ci := 11) (lm_o hM1.1) (by decide) ⟨_, _, rfl⟩ rfl (by omega) (by omega) (by omega) rfl (Nat.le_of_ble_eq_true rfl) dL_law_629 ?_
  intro r S2 hp
  obtain ⟨rfl, hM2, f⟩ := hp
  have hC2 := hC1.own f T.mX
  have ow2 := frS.ow f ow1
  refine a_icmp_eq K dL_law_632 (tgt := 2036) (by decide) (fun _ => ?_) (fun z => absurd rfl z)
  exact q _ _ _ (LI.mk (by omega) hC2 hM2 (by omega) (by omega) (hJ.up (Nat.le_add_right _ 20)) ow2.1 ow2.2 (by omega) (by omega))
set_option maxHeartbeats 4000000 in
set_option maxRecDepth 100000 in
theorem l_total {g : aw_G} {nm : String} {b L : Nat} {xs : Nat → Int32} {v m : Nat → Nat} {X : List Nat} {ow : Nat} (T : LwS g nm b L xs m X ow) {c : Nat} (hc : 6 * c + 6 ≤ L) {S : aw_S} {k n : Nat} (I : LI v m X ow c S k n) (q : NX g v m X ow b c) : aw g 7 S k n (lvL b (v 4) (m 33) ow (nI (6 * c))) [] 637 := by
  have K := T.1
  have hL9 := T.2.2.2.2.1
  obtain ⟨ad, ar, PA, ρ, Z, P, hC, hM, hJ, o1, n1, hk, hn⟩ := I
  have hn9 : 20 * c + 20 < 1000000000 := by omega
  refine a_aload_n K dL_law_637 rfl ?_
  refine a_arg T (j := 1) hc (by decide) (by decide) rfl rfl dL_law_638 dL_law_639 dL_law_641 dL_law_642 dL_law_643 ?_
  refine a_arg T (j := 2) hc (by decide) (by decide) rfl rfl dL_law_644 dL_law_645 dL_law_647 dL_law_648 dL_law_649 ?_
  refine a_arg T (j := 3) hc (by decide) (by decide) rfl rfl dL_law_650 dL_law_651 dL_law_653 dL_law_654 dL_law_655 ?_
  refine a_invV K (c_total hC hJ.1 (m := xs (6 * c + 1)) (f := xs (6 * c + 2)) (t0 := xs (6 * c + 3))) my_X10_total ml_L_69 im_X10_total se_X10_total (ci := 10) (lw_i4 hC.1) (by decide) ⟨_, _, rfl⟩ rfl (by omega) (by omega) (by omega) rfl (Nat.le_of_ble_eq_true rfl) dL_law_656 ?_
  intro r S1 hp
  obtain ⟨rfl, hC1, kX⟩ := hp
  have hM1 := RM_kM hM (T.kM kX)
  have ow1 := T.ow kX o1 n1
  refine a_aload_n K dL_law_659 rfl ?_
  refine a_arg T (j := 1) hc (by decide) (by decide) rfl rfl dL_law_660 dL_law_661 dL_law_663 dL_law_664 dL_law_665 ?_
  refine a_arg T (j := 2) hc (by decide) (by decide) rfl rfl dL_law_666 dL_law_667 dL_law_669 dL_law_670 dL_law_671 ?_
  refine a_arg T (j := 3) hc (by decide) (by decide) rfl rfl dL_law_672 dL_law_673 dL_law_675 dL_law_676 dL_law_677 ?_
  refine a_invV K (q_total hM1 hJ (i := xs (6 * c + 1)) (f := xs (6 * c + 2)) (t0 := xs (6 * c + 3))) my_X11_total ml_L_72 im_X11_total se_X11_total (ci := 11) (lm_o hM1.1) (by decide) ⟨_, _, rfl⟩ rfl (by omega) (by omega) (by omega) rfl (Nat.le_of_ble_eq_true rfl) dL_law_678 ?_
  intro r S2 hp
  obtain ⟨rfl, hM2, f⟩ := hp
  have hC2 := hC1.own f T.mX
  have ow2 := frS.ow f ow1
  refine a_icmp_eq K dL_law_681 (tgt := 2036) (by decide) (fun _ => ?_) (fun z => absurd rfl z)
  exact q _ _ _ (LI.mk (by omega) hC2 hM2 (by omega) (by omega) (hJ.up (Nat.le_add_right _ 20)) ow2.1 ow2.2 (by omega) (by omega))
set_option maxHeartbeats 4000000 in
set_option maxRecDepth 100000 in
theorem l_node {g : aw_G} {nm : String} {b L : Nat} {xs : Nat → Int32} {v m : Nat → Nat} {X : List Nat} {ow : Nat} (T : LwS g nm b L xs m X ow) {c : Nat} (hc : 6 * c + 6 ≤ L) {S : aw_S} {k n : Nat} (I : LI v m X ow c S k n) (q : NX g v m X ow b c) : aw g 7 S k n (lvL b (v 4) (m 33) ow (nI (6 * c))) [] 686 := by
  have K := T.1
  have hL9 := T.2.2.2.2.1
  obtain ⟨ad, ar, PA, ρ, Z, P, hC, hM, hJ, o1, n1, hk, hn⟩ := I
  have hn9 : 20 * c + 20 < 1000000000 := by omega
  refine a_aload_n K dL_law_686 rfl ?_
  refine a_arg T (j := 1) hc (by decide) (by decide) rfl rfl dL_law_687 dL_law_688 dL_law_690 dL_law_691 dL_law_692 ?_
  refine a_arg T (j := 2) hc (by decide) (by decide) rfl rfl dL_law_693 dL_law_694 dL_law_696 dL_law_697 dL_law_698 ?_
  refine a_arg T (j := 3) hc (by decide) (by decide) rfl rfl dL_law_699 dL_law_700 dL_law_702 dL_law_703 dL_law_704 ?_
  refine a_invV K (c_node hC hJ.1 (m := xs (6 * c + 1)) (i := xs (6 * c + 2)) (w := xs (6 * c + 3))) my_X10_node ml_L_73 im_X10_node se_X10_node (ci := 10) (lw_i4 hC.1) (by decide) ⟨_, _, rfl⟩ rfl (by omega) (by omega) (by omega) rfl (Nat.le_of_ble_eq_true rfl) dL_law_705 ?_
  intro r S1 hp
  obtain ⟨rfl, hC1, kX⟩ := hp
  have hM1 := RM_kM hM (T.kM kX)
  have ow1 := T.ow kX o1 n1
  refine a_aload_n K dL_law_708 rfl ?_
  refine a_arg T (j := 1) hc (by decide) (by decide) rfl rfl dL_law_709 dL_law_710 dL_law_712 dL_law_713 dL_law_714 ?_
  refine a_arg T (j := 2) hc (by decide) (by decide) rfl rfl dL_law_715 dL_law_716 dL_law_718 dL_law_719 dL_law_720 ?_
  refine a_arg T (j := 3) hc (by decide) (by decide) rfl rfl dL_law_721 dL_law_722 dL_law_724 dL_law_725 dL_law_726 ?_
  refine a_invV K (q_node hM1 hJ (by omega) (k9 := xs (6 * c + 1)) (i := xs (6 * c + 2)) (w := xs (6 * c + 3))) my_X11_node ml_L_76 im_X11_node se_X11_node (ci := 11) (lm_o hM1.1) (by decide) ⟨_, _, rfl⟩ rfl (by omega) (by omega) (by omega) rfl (Nat.le_of_ble_eq_true rfl) dL_law_727 ?_
  intro r S2 hp
  obtain ⟨rfl, hM2, f⟩ := hp
  have hC2 := hC1.own f T.mX
  have ow2 := frS.ow f ow1
  refine a_icmp_eq K dL_law_730 (tgt := 2036) (by decide) (fun _ => ?_) (fun z => absurd rfl z)
  exact q _ _ _ (LI.mk (by omega) hC2 hM2 (by omega) (by omega) (hJ.up (Nat.le_add_right _ 20)) ow2.1 ow2.2 (by omega) (by omega))
set_option maxHeartbeats 4000000 in
set_option maxRecDepth 100000 in
theorem l_having {g : aw_G} {nm : String} {b L : Nat} {xs : Nat → Int32} {v m : Nat → Nat} {X : List Nat} {ow : Nat} (T : LwS g nm b L xs m X ow) {c : Nat} (hc : 6 * c + 6 ≤ L) {S : aw_S} {k n : Nat} (I : LI v m X ow c S k n) (q : NX g v m X ow b c) : aw g 7 S k n (lvL b (v 4) (m 33) ow (nI (6 * c))) [] 735 := by
  have K := T.1
  have hL9 := T.2.2.2.2.1
  obtain ⟨ad, ar, PA, ρ, Z, P, hC, hM, hJ, o1, n1, hk, hn⟩ := I
  have hn9 : 20 * c + 20 < 1000000000 := by omega
  refine a_aload_n K dL_law_735 rfl ?_
  refine a_arg T (j := 1) hc (by decide) (by decide) rfl rfl dL_law_736 dL_law_737 dL_law_739 dL_law_740 dL_law_741 ?_
  refine a_arg T (j := 2) hc (by decide) (by decide) rfl rfl dL_law_742 dL_law_743 dL_law_745 dL_law_746 dL_law_747 ?_
  refine a_arg T (j := 3) hc (by decide) (by decide) rfl rfl dL_law_748 dL_law_749 dL_law_751 dL_law_752 dL_law_753 ?_
  refine a_invV K (c_having hC hJ.1 (m := xs (6 * c + 1)) (k := xs (6 * c + 2)) (v0 := xs (6 * c + 3))) my_X10_having ml_L_77 im_X10_having se_X10_having (ci := 10) (lw_i4 hC.1) (by decide) ⟨_, _, rfl⟩ rfl (by omega) (by omega) (by omega) rfl (Nat.le_of_ble_eq_true rfl) dL_law_754 ?_
  intro r S1 hp
  obtain ⟨ad2, ar2, rfl, hC1, kX⟩ := hp
  have hM1 := RM_kM hM (T.kM kX)
  have ow1 := T.ow kX o1 n1
  refine a_aload_n K dL_law_757 rfl ?_
  refine a_arg T (j := 1) hc (by decide) (by decide) rfl rfl dL_law_758 dL_law_759 dL_law_761 dL_law_762 dL_law_763 ?_
  refine a_arg T (j := 2) hc (by decide) (by decide) rfl rfl dL_law_764 dL_law_765 dL_law_767 dL_law_768 dL_law_769 ?_
  refine a_arg T (j := 3) hc (by decide) (by decide) rfl rfl dL_law_770 dL_law_771 dL_law_773 dL_law_774 dL_law_775 ?_
  refine a_invV K (q_having hM1 hJ (by omega) (i := xs (6 * c + 1)) (k := xs (6 * c + 2)) (v0 := xs (6 * c + 3))) my_X11_having ml_L_80 im_X11_having se_X11_having (ci := 11) (lm_o hM1.1) (by decide) ⟨_, _, rfl⟩ rfl (by omega) (by omega) (by omega) rfl (Nat.le_of_ble_eq_true rfl) dL_law_776 ?_
  intro r S2 hp
  obtain ⟨ρ2, Z2, rfl, hM2, f⟩ := hp
  have hC2 := hC1.own f T.mX
  have ow2 := frS.ow f ow1
  refine a_icmp_eq K dL_law_779 (tgt := 2036) (by decide) (fun _ => ?_) (fun z => absurd rfl z)
  exact q _ _ _ (LI.mk (by omega) hC2 hM2 (by omega) (by omega) (PJ_hav hJ hn9 _ _ _) ow2.1 ow2.2 (by omega) (by omega))
set_option maxHeartbeats 4000000 in
set_option maxRecDepth 100000 in
theorem l_lacking {g : aw_G} {nm : String} {b L : Nat} {xs : Nat → Int32} {v m : Nat → Nat} {X : List Nat} {ow : Nat} (T : LwS g nm b L xs m X ow) {c : Nat} (hc : 6 * c + 6 ≤ L) {S : aw_S} {k n : Nat} (I : LI v m X ow c S k n) (q : NX g v m X ow b c) : aw g 7 S k n (lvL b (v 4) (m 33) ow (nI (6 * c))) [] 784 := by
  have K := T.1
  have hL9 := T.2.2.2.2.1
  obtain ⟨ad, ar, PA, ρ, Z, P, hC, hM, hJ, o1, n1, hk, hn⟩ := I
  have hn9 : 20 * c + 20 < 1000000000 := by omega
  refine a_aload_n K dL_law_784 rfl ?_
  refine a_arg T (j := 1) hc (by decide) (by decide) rfl rfl dL_law_785 dL_law_786 dL_law_788 dL_law_789 dL_law_790 ?_
  refine a_arg T (j := 2) hc (by decide) (by decide) rfl rfl dL_law_791 dL_law_792 dL_law_794 dL_law_795 dL_law_796 ?_
  refine a_invV K (c_lacking hC hJ.1 (m := xs (6 * c + 1)) (k := xs (6 * c + 2))) my_X10_lacking ml_L_81 im_X10_lacking se_X10_lacking (ci := 10) (lw_i4 hC.1) (by decide) ⟨_, _, rfl⟩ rfl (by omega) (by omega) (by omega) rfl (Nat.le_of_ble_eq_true rfl) dL_law_797 ?_
  intro r S1 hp
  obtain ⟨ad2, ar2, rfl, hC1, kX⟩ := hp
  have hM1 := RM_kM hM (T.kM kX)
  have ow1 := T.ow kX o1 n1
  refine a_aload_n K dL_law_800 rfl ?_
  refine a_arg T (j := 1) hc (by decide) (by decide) rfl rfl dL_law_801 dL_law_802 dL_law_804 dL_law_805 dL_law_806 ?_
  refine a_arg T (j := 2) hc (by decide) (by decide) rfl rfl dL_law_807 dL_law_808 dL_law_810 dL_law_811 dL_law_812 ?_
  refine a_invV K (q_lacking hM1 hJ (by omega) (i := xs (6 * c + 1)) (k := xs (6 * c + 2))) my_X11_lacking ml_L_84 im_X11_lacking se_X11_lacking (ci := 11) (lm_o hM1.1) (by decide) ⟨_, _, rfl⟩ rfl (by omega) (by omega) (by omega) rfl (Nat.le_of_ble_eq_true rfl) dL_law_813 ?_
  intro r S2 hp
  obtain ⟨ρ2, Z2, rfl, hM2, f⟩ := hp
  have hC2 := hC1.own f T.mX
  have ow2 := frS.ow f ow1
  refine a_icmp_eq K dL_law_816 (tgt := 2036) (by decide) (fun _ => ?_) (fun z => absurd rfl z)
  exact q _ _ _ (LI.mk (by omega) hC2 hM2 (by omega) (by omega) (PJ_lac hJ hn9 _ _) ow2.1 ow2.2 (by omega) (by omega))
set_option maxHeartbeats 4000000 in
set_option maxRecDepth 100000 in
theorem l_merge {g : aw_G} {nm : String} {b L : Nat} {xs : Nat → Int32} {v m : Nat → Nat} {X : List Nat} {ow : Nat} (T : LwS g nm b L xs m X ow) {c : Nat} (hc : 6 * c + 6 ≤ L) {S : aw_S} {k n : Nat} (I : LI v m X ow c S k n) (q : NX g v m X ow b c) : aw g 7 S k n (lvL b (v 4) (m 33) ow (nI (6 * c))) [] 821 := by
  have K := T.1
  have hL9 := T.2.2.2.2.1
  obtain ⟨ad, ar, PA, ρ, Z, P, hC, hM, hJ, o1, n1, hk, hn⟩ := I
  have hn9 : 20 * c + 20 < 1000000000 := by omega
  refine a_aload_n K dL_law_821 rfl ?_
  refine a_arg T (j := 1) hc (by decide) (by decide) rfl rfl dL_law_822 dL_law_823 dL_law_825 dL_law_826 dL_law_827 ?_
  refine a_arg T (j := 2) hc (by decide) (by decide) rfl rfl dL_law_828 dL_law_829 dL_law_831 dL_law_832 dL_law_833 ?_
  refine a_arg T (j := 3) hc (by decide) (by decide) rfl rfl dL_law_834 dL_law_835 dL_law_837 dL_law_838 dL_law_839 ?_
  refine a_invV K (c_merge hC hJ.1 (by omega) (m := xs (6 * c + 1)) (o := xs (6 * c + 2)) (r := xs (6 * c + 3))) my_X10_merge ml_L_85 im_X10_merge se_X10_merge (ci := 10) (lw_i4 hC.1) (by decide) ⟨_, _, rfl⟩ rfl (by omega) (by omega) (by omega) rfl (Nat.le_of_ble_eq_true rfl) dL_law_840 ?_
  intro r S1 hp
  obtain ⟨ad2, ar2, rfl, hC1, kX⟩ := hp
  have hM1 := RM_kM hM (T.kM kX)
  have ow1 := T.ow kX o1 n1
  refine a_aload_n K dL_law_843 rfl ?_
  refine a_arg T (j := 1) hc (by decide) (by decide) rfl rfl dL_law_844 dL_law_845 dL_law_847 dL_law_848 dL_law_849 ?_
  refine a_arg T (j := 2) hc (by decide) (by decide) rfl rfl dL_law_850 dL_law_851 dL_law_853 dL_law_854 dL_law_855 ?_
  refine a_arg T (j := 3) hc (by decide) (by decide) rfl rfl dL_law_856 dL_law_857 dL_law_859 dL_law_860 dL_law_861 ?_
  refine a_invV K (q_merge hM1 hJ (by omega) (by omega) (i := xs (6 * c + 1)) (k := xs (6 * c + 2)) (ru := xs (6 * c + 3))) my_X11_merge ml_L_88 im_X11_merge se_X11_merge (ci := 11) (lm_o hM1.1) (by decide) ⟨_, _, rfl⟩ rfl (by omega) (by omega) (by omega) rfl (Nat.le_of_ble_eq_true rfl) dL_law_862 ?_
  intro r S2 hp
  obtain ⟨ρ2, Z2, rfl, hM2, f⟩ := hp
  have hC2 := hC1.own f T.mX
  have ow2 := frS.ow f ow1
  refine a_icmp_eq K dL_law_865 (tgt := 2036) (by decide) (fun _ => ?_) (fun z => absurd rfl z)
  exact q _ _ _ (LI.mk (by omega) hC2 hM2 (by omega) (by omega) (PJ_mrg hJ hn9 _ _ _) ow2.1 ow2.2 (by omega) (by omega))
set_option maxHeartbeats 4000000 in
set_option maxRecDepth 100000 in
theorem l_three {g : aw_G} {nm : String} {b L : Nat} {xs : Nat → Int32} {v m : Nat → Nat} {X : List Nat} {ow : Nat} (T : LwS g nm b L xs m X ow) {c : Nat} (hc : 6 * c + 6 ≤ L) {S : aw_S} {k n : Nat} (I : LI v m X ow c S k n) (q : NX g v m X ow b c) : aw g 7 S k n (lvL b (v 4) (m 33) ow (nI (6 * c))) [] 870 := by
  have K := T.1
  have hL9 := T.2.2.2.2.1
  obtain ⟨ad, ar, PA, ρ, Z, P, hC, hM, hJ, o1, n1, hk, hn⟩ := I
  have hn9 : 20 * c + 20 < 1000000000 := by omega
  refine a_aload_n K dL_law_870 rfl ?_
  refine a_arg T (j := 1) hc (by decide) (by decide) rfl rfl dL_law_871 dL_law_872 dL_law_874 dL_law_875 dL_law_876 ?_
  refine a_arg T (j := 2) hc (by decide) (by decide) rfl rfl dL_law_877 dL_law_878 dL_law_880 dL_law_881 dL_law_882 ?_
  refine a_arg T (j := 3) hc (by decide) (by decide) rfl rfl dL_law_883 dL_law_884 dL_law_886 dL_law_887 dL_law_888 ?_
  refine a_arg T (j := 4) hc (by decide) (by decide) rfl rfl dL_law_889 dL_law_890 dL_law_892 dL_law_893 dL_law_894 ?_
  refine a_invV K (c_three hC hJ.1 (b := xs (6 * c + 1)) (m := xs (6 * c + 2)) (o := xs (6 * c + 3)) (r := xs (6 * c + 4))) my_X10_three ml_L_89 im_X10_three se_X10_three (ci := 10) (lw_i4 hC.1) (by decide) ⟨_, _, rfl⟩ rfl (by omega) (by omega) (by omega) rfl (Nat.le_of_ble_eq_true rfl) dL_law_895 ?_
  intro r S1 hp
  obtain ⟨ad2, ar2, rfl, hC1, kX⟩ := hp
  have hM1 := RM_kM hM (T.kM kX)
  have ow1 := T.ow kX o1 n1
  refine a_aload_n K dL_law_898 rfl ?_
  refine a_arg T (j := 1) hc (by decide) (by decide) rfl rfl dL_law_899 dL_law_900 dL_law_902 dL_law_903 dL_law_904 ?_
  refine a_arg T (j := 2) hc (by decide) (by decide) rfl rfl dL_law_905 dL_law_906 dL_law_908 dL_law_909 dL_law_910 ?_
  refine a_arg T (j := 3) hc (by decide) (by decide) rfl rfl dL_law_911 dL_law_912 dL_law_914 dL_law_915 dL_law_916 ?_
  refine a_arg T (j := 4) hc (by decide) (by decide) rfl rfl dL_law_917 dL_law_918 dL_law_920 dL_law_921 dL_law_922 ?_
  refine a_invV K (q_three hM1 hJ (by omega) (b := xs (6 * c + 1)) (i := xs (6 * c + 2)) (k := xs (6 * c + 3)) (ru := xs (6 * c + 4))) my_X11_three ml_L_93 im_X11_three se_X11_three (ci := 11) (lm_o hM1.1) (by decide) ⟨_, _, rfl⟩ rfl (by omega) (by omega) (by omega) rfl (Nat.le_of_ble_eq_true rfl) dL_law_923 ?_
  intro r S2 hp
  obtain ⟨ρ2, Z2, rfl, hM2, f⟩ := hp
  have hC2 := hC1.own f T.mX
  have ow2 := frS.ow f ow1
  refine a_icmp_eq K dL_law_926 (tgt := 2036) (by decide) (fun _ => ?_) (fun z => absurd rfl z)
  exact q _ _ _ (LI.mk (by omega) hC2 hM2 (by omega) (by omega) (PJ_thr hJ hn9 _ _ _ _) ow2.1 ow2.2 (by omega) (by omega))
set_option maxHeartbeats 4000000 in
set_option maxRecDepth 100000 in
theorem l_conflicts {g : aw_G} {nm : String} {b L : Nat} {xs : Nat → Int32} {v m : Nat → Nat} {X : List Nat} {ow : Nat} (T : LwS g nm b L xs m X ow) {c : Nat} (hc : 6 * c + 6 ≤ L) {S : aw_S} {k n : Nat} (I : LI v m X ow c S k n) (q : NX g v m X ow b c) : aw g 7 S k n (lvL b (v 4) (m 33) ow (nI (6 * c))) [] 931 := by
  have K := T.1
  have hL9 := T.2.2.2.2.1
  obtain ⟨ad, ar, PA, ρ, Z, P, hC, hM, hJ, o1, n1, hk, hn⟩ := I
  have hn9 : 20 * c + 20 < 1000000000 := by omega
  refine a_aload_n K dL_law_931 rfl ?_
  refine a_arg T (j := 1) hc (by decide) (by decide) rfl rfl dL_law_932 dL_law_933 dL_law_935 dL_law_936 dL_law_937 ?_
  refine a_arg T (j := 2) hc (by decide) (by decide) rfl rfl dL_law_938 dL_law_939 dL_law_941 dL_law_942 dL_law_943 ?_
  refine a_arg T (j := 3) hc (by decide) (by decide) rfl rfl dL_law_944 dL_law_945 dL_law_947 dL_law_948 dL_law_949 ?_
  refine a_invV K (c_conflicts hC hJ.1 (b := xs (6 * c + 1)) (m := xs (6 * c + 2)) (o := xs (6 * c + 3))) my_X10_conflicts ml_L_94 im_X10_conflicts se_X10_conflicts (ci := 10) (lw_i4 hC.1) (by decide) ⟨_, _, rfl⟩ rfl (by omega) (by omega) (by omega) rfl (Nat.le_of_ble_eq_true rfl) dL_law_950 ?_
  intro r S1 hp
  obtain ⟨rfl, hC1, kX⟩ := hp
  have hM1 := RM_kM hM (T.kM kX)
  have ow1 := T.ow kX o1 n1
  refine a_aload_n K dL_law_953 rfl ?_
  refine a_arg T (j := 1) hc (by decide) (by decide) rfl rfl dL_law_954 dL_law_955 dL_law_957 dL_law_958 dL_law_959 ?_
  refine a_arg T (j := 2) hc (by decide) (by decide) rfl rfl dL_law_960 dL_law_961 dL_law_963 dL_law_964 dL_law_965 ?_
  refine a_arg T (j := 3) hc (by decide) (by decide) rfl rfl dL_law_966 dL_law_967 dL_law_969 dL_law_970 dL_law_971 ?_
  refine a_invV K (q_conflicts hM1 hJ (b := xs (6 * c + 1)) (i := xs (6 * c + 2)) (k := xs (6 * c + 3))) my_X11_conflicts ml_L_97 im_X11_conflicts se_X11_conflicts (ci := 11) (lm_o hM1.1) (by decide) ⟨_, _, rfl⟩ rfl (by omega) (by omega) (by omega) rfl (Nat.le_of_ble_eq_true rfl) dL_law_972 ?_
  intro r S2 hp
  obtain ⟨rfl, hM2, f⟩ := hp
  have hC2 := hC1.own f T.mX
  have ow2 := frS.ow f ow1
  refine a_icmp_eq K dL_law_975 (tgt := 2036) (by decide) (fun _ => ?_) (fun z => absurd rfl z)
  exact q _ _ _ (LI.mk (by omega) hC2 hM2 (by omega) (by omega) (hJ.up (Nat.le_add_right _ 20)) ow2.1 ow2.2 (by omega) (by omega))
set_option maxHeartbeats 4000000 in
set_option maxRecDepth 100000 in
theorem l_slice {g : aw_G} {nm : String} {b L : Nat} {xs : Nat → Int32} {v m : Nat → Nat} {X : List Nat} {ow : Nat} (T : LwS g nm b L xs m X ow) {c : Nat} (hc : 6 * c + 6 ≤ L) {S : aw_S} {k n : Nat} (I : LI v m X ow c S k n) (q : NX g v m X ow b c) : aw g 7 S k n (lvL b (v 4) (m 33) ow (nI (6 * c))) [] 980 := by
  have K := T.1
  have hL9 := T.2.2.2.2.1
  obtain ⟨ad, ar, PA, ρ, Z, P, hC, hM, hJ, o1, n1, hk, hn⟩ := I
  have hn9 : 20 * c + 20 < 1000000000 := by omega
  refine a_aload_n K dL_law_980 rfl ?_
  refine a_arg T (j := 1) hc (by decide) (by decide) rfl rfl dL_law_981 dL_law_982 dL_law_984 dL_law_985 dL_law_986 ?_
  refine a_arg T (j := 2) hc (by decide) (by decide) rfl rfl dL_law_987 dL_law_988 dL_law_990 dL_law_991 dL_law_992 ?_
  refine a_arg T (j := 3) hc (by decide) (by decide) rfl rfl dL_law_993 dL_law_994 dL_law_996 dL_law_997 dL_law_998 ?_
  refine a_invV K (c_slice hC hJ.1 (m := xs (6 * c + 1)) (a := xs (6 * c + 2)) (b := xs (6 * c + 3))) my_X10_slice ml_L_98 im_X10_slice se_X10_slice (ci := 10) (lw_i4 hC.1) (by decide) ⟨_, _, rfl⟩ rfl (by omega) (by omega) (by omega) rfl (Nat.le_of_ble_eq_true rfl) dL_law_999 ?_
  intro r S1 hp
  obtain ⟨ad2, ar2, rfl, hC1, kX⟩ := hp
  have hM1 := RM_kM hM (T.kM kX)
  have ow1 := T.ow kX o1 n1
  refine a_aload_n K dL_law_1002 rfl ?_
  refine a_arg T (j := 1) hc (by decide) (by decide) rfl rfl dL_law_1003 dL_law_1004 dL_law_1006 dL_law_1007 dL_law_1008 ?_
  refine a_arg T (j := 2) hc (by decide) (by decide) rfl rfl dL_law_1009 dL_law_1010 dL_law_1012 dL_law_1013 dL_law_1014 ?_
  refine a_arg T (j := 3) hc (by decide) (by decide) rfl rfl dL_law_1015 dL_law_1016 dL_law_1018 dL_law_1019 dL_law_1020 ?_
  refine a_invV K (q_slice hM1 hJ (by omega) (by omega) (i := xs (6 * c + 1)) (a := xs (6 * c + 2)) (b := xs (6 * c + 3))) my_X11_slice ml_L_101 im_X11_slice se_X11_slice (ci := 11) (lm_o hM1.1) (by decide) ⟨_, _, rfl⟩ rfl (by omega) (by omega) (by omega) rfl (Nat.le_of_ble_eq_true rfl) dL_law_1021 ?_
  intro r S2 hp
  obtain ⟨ρ2, Z2, rfl, hM2, f⟩ := hp
  have hC2 := hC1.own f T.mX
  have ow2 := frS.ow f ow1
  refine a_icmp_eq K dL_law_1024 (tgt := 2036) (by decide) (fun _ => ?_) (fun z => absurd rfl z)
  exact q _ _ _ (LI.mk (by omega) hC2 hM2 (by omega) (by omega) (PJ_slc hJ hn9 _ _ _) ow2.1 ow2.2 (by omega) (by omega))
set_option maxHeartbeats 4000000 in
set_option maxRecDepth 100000 in
theorem l_drop {g : aw_G} {nm : String} {b L : Nat} {xs : Nat → Int32} {v m : Nat → Nat} {X : List Nat} {ow : Nat} (T : LwS g nm b L xs m X ow) {c : Nat} (hc : 6 * c + 6 ≤ L) {S : aw_S} {k n : Nat} (I : LI v m X ow c S k n) (q : NX g v m X ow b c) : aw g 7 S k n (lvL b (v 4) (m 33) ow (nI (6 * c))) [] 1029 := by
  have K := T.1
  have hL9 := T.2.2.2.2.1
  obtain ⟨ad, ar, PA, ρ, Z, P, hC, hM, hJ, o1, n1, hk, hn⟩ := I
  have hn9 : 20 * c + 20 < 1000000000 := by omega
  refine a_aload_n K dL_law_1029 rfl ?_
  refine a_arg T (j := 1) hc (by decide) (by decide) rfl rfl dL_law_1030 dL_law_1031 dL_law_1033 dL_law_1034 dL_law_1035 ?_
  refine a_invV K (c_drop hC (m := xs (6 * c + 1))) my_X10_drop ml_L_102 im_X10_drop se_X10_drop (ci := 10) (lw_i4 hC.1) (by decide) ⟨_, _, rfl⟩ rfl (by omega) (by omega) (by omega) rfl (Nat.le_of_ble_eq_true rfl) dL_law_1036 ?_
  intro r S1 hp
  obtain ⟨ad2, ar2, rfl, hC1, kX⟩ := hp
  have hM1 := RM_kM hM (T.kM kX)
  have ow1 := T.ow kX o1 n1
  refine a_aload_n K dL_law_1039 rfl ?_
  refine a_arg T (j := 1) hc (by decide) (by decide) rfl rfl dL_law_1040 dL_law_1041 dL_law_1043 dL_law_1044 dL_law_1045 ?_
  refine a_invV K (q_drop hM1 hJ (by omega) (i := xs (6 * c + 1))) my_X11_drop ml_L_105 im_X11_drop se_X11_drop (ci := 11) (lm_o hM1.1) (by decide) ⟨_, _, rfl⟩ rfl (by omega) (by omega) (by omega) rfl (Nat.le_of_ble_eq_true rfl) dL_law_1046 ?_
  intro r S2 hp
  obtain ⟨ρ2, Z2, rfl, hM2, f⟩ := hp
  have hC2 := hC1.own f T.mX
  have ow2 := frS.ow f ow1
  refine a_icmp_eq K dL_law_1049 (tgt := 2036) (by decide) (fun _ => ?_) (fun z => absurd rfl z)
  exact q _ _ _ (LI.mk (by omega) hC2 hM2 (by omega) (by omega) (PJ_drp hJ _) ow2.1 ow2.2 (by omega) (by omega))

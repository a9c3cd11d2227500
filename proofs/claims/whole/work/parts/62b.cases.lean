/-! ===== the law: its calls ===== -/
set_option maxRecDepth 100000 in
set_option maxHeartbeats 4000000 in
theorem law_14 {E : gEnv} {b L : Nat} {xs : Nat → Int32} (hW : LW E b L xs) {k cells slots : Nat} (hk : 10 * k + 10 ≤ L) (hc : cells + 2 ≤ 600000) (hs : slots + 18 ≤ 7302250) {T : gSh} {I : gI} {J : gJ} {R : gR} {ca : Nat → Nat} {m : Nat} {ad : Nat → Nat} {a : gI} {n : gJ} (hL : LI T I J R ca m ad a n) (hn : ∀ (T : gSh) (I : gI) (J : gJ) (R : gR) (a : gI) (n : gJ), LI T I J R ca m ad a n → WP E 4 (cells + 2) (slots + 18) T I J R 1377 [(0, .ref b), (1, .ref (ca 0)), (2, .ref m), (3, .int (nI (10 * k)))] []) : WP E 4 cells slots T I J R 655 [(0, .ref b), (1, .ref (ca 0)), (2, .ref m), (3, .int (nI (10 * k)))] [] := by
  refine wp_aload_n hW.1 1 dL_law_655 rfl rfl ?_
  refine wp_aload_n hW.1 0 dL_law_656 rfl rfl ?_
  refine wp_iload_n hW.1 3 dL_law_657 rfl rfl ?_
  refine wp_iconst hW.1 1 dL_law_658 (by decide) ?_
  refine wp_iadd hW.1 dL_law_659 ?_
  refine wp_eqi (nI_add (10 * k) 1) ?_
  refine wp_sld hW (j := 10 * k + 1) rfl (by omega) dL_law_660 ?_
  refine wp_aload_n hW.1 0 dL_law_661 rfl rfl ?_
  refine wp_iload_n hW.1 3 dL_law_662 rfl rfl ?_
  refine wp_iconst hW.1 2 dL_law_663 (by decide) ?_
  refine wp_iadd hW.1 dL_law_664 ?_
  refine wp_eqi (nI_add (10 * k) 2) ?_
  refine wp_sld hW (j := 10 * k + 2) rfl (by omega) dL_law_665 ?_
  refine wp_callV hW.1 (As := [.int (xs (10 * k + 1)), .int (xs (10 * k + 2))]) (rest := []) dL_law_666 kL_law_80 (hL.1.1.ob 0 (by decide) rfl) (c_hears _ hL.1 (xs (10 * k + 1)) (xs (10 * k + 2))) rfl (Nat.le_of_ble_eq_true rfl) (by decide) ⟨by show cells + 0 ≤ 600000; omega, by show slots + 0 ≤ 7302250; omega⟩ ?_
  rintro _ T1 I1 J1 R1 ⟨rfl, hF, hK1⟩
  have hM1 := hL.fr hF
  refine wp_widen (k := cells + 0) (n := slots + 0) (Nat.le_refl _) (Nat.le_refl _) ?_
  change WP E 4 (cells + 0) (slots + 0) T1 I1 J1 R1 669 [(0, .ref b), (1, .ref (ca 0)), (2, .ref m), (3, .int (nI (10 * k)))] [.int _]
  refine wp_aload_n hW.1 2 dL_law_669 rfl rfl ?_
  refine wp_aload_n hW.1 0 dL_law_670 rfl rfl ?_
  refine wp_iload_n hW.1 3 dL_law_671 rfl rfl ?_
  refine wp_iconst hW.1 1 dL_law_672 (by decide) ?_
  refine wp_iadd hW.1 dL_law_673 ?_
  refine wp_eqi (nI_add (10 * k) 1) ?_
  refine wp_sld hW (j := 10 * k + 1) rfl (by omega) dL_law_674 ?_
  refine wp_aload_n hW.1 0 dL_law_675 rfl rfl ?_
  refine wp_iload_n hW.1 3 dL_law_676 rfl rfl ?_
  refine wp_iconst hW.1 2 dL_law_677 (by decide) ?_
  refine wp_iadd hW.1 dL_law_678 ?_
  refine wp_eqi (nI_add (10 * k) 2) ?_
  refine wp_sld hW (j := 10 * k + 2) rfl (by omega) dL_law_679 ?_
  refine wp_callV hW.1 (As := [.int (xs (10 * k + 1)), .int (xs (10 * k + 2))]) (rest := [.int _]) dL_law_680 kL_law_83 hM1.1.ob (m_hears _ hM1.1 hM1.2.1 hL.1.okN hL.1.okB (xs (10 * k + 1)) (xs (10 * k + 2))) rfl (Nat.le_of_ble_eq_true rfl) (by decide) ⟨by show cells + 0 + 0 ≤ 600000; omega, by show slots + 0 + 0 ≤ 7302250; omega⟩ ?_
  rintro _ _ I2 J2 _ ⟨rfl, rfl, rfl, hX⟩
  have hL2 := LI.z hK1 hM1 hX
  change WP E 4 (cells + 0 + 0) (slots + 0 + 0) T1 I2 J2 R1 683 [(0, .ref b), (1, .ref (ca 0)), (2, .ref m), (3, .int (nI (10 * k)))] [.int _, .int _]
  refine wp_icmp_eq hW.1 1377 dL_law_683 (by decide) (fun _ => ?_) (fun z => absurd rfl z)
  refine wp_widen (k := cells + 2) (n := slots + 18) (by omega) (by omega) ?_
  exact hn _ _ _ _ _ _ hL2
set_option maxRecDepth 100000 in
set_option maxHeartbeats 4000000 in
theorem law_15 {E : gEnv} {b L : Nat} {xs : Nat → Int32} (hW : LW E b L xs) {k cells slots : Nat} (hk : 10 * k + 10 ≤ L) (hc : cells + 2 ≤ 600000) (hs : slots + 18 ≤ 7302250) {T : gSh} {I : gI} {J : gJ} {R : gR} {ca : Nat → Nat} {m : Nat} {ad : Nat → Nat} {a : gI} {n : gJ} (hL : LI T I J R ca m ad a n) (hn : ∀ (T : gSh) (I : gI) (J : gJ) (R : gR) (a : gI) (n : gJ), LI T I J R ca m ad a n → WP E 4 (cells + 2) (slots + 18) T I J R 1377 [(0, .ref b), (1, .ref (ca 0)), (2, .ref m), (3, .int (nI (10 * k)))] []) : WP E 4 cells slots T I J R 688 [(0, .ref b), (1, .ref (ca 0)), (2, .ref m), (3, .int (nI (10 * k)))] [] := by
  refine wp_aload_n hW.1 1 dL_law_688 rfl rfl ?_
  refine wp_aload_n hW.1 0 dL_law_689 rfl rfl ?_
  refine wp_iload_n hW.1 3 dL_law_690 rfl rfl ?_
  refine wp_iconst hW.1 1 dL_law_691 (by decide) ?_
  refine wp_iadd hW.1 dL_law_692 ?_
  refine wp_eqi (nI_add (10 * k) 1) ?_
  refine wp_sld hW (j := 10 * k + 1) rfl (by omega) dL_law_693 ?_
  refine wp_aload_n hW.1 0 dL_law_694 rfl rfl ?_
  refine wp_iload_n hW.1 3 dL_law_695 rfl rfl ?_
  refine wp_iconst hW.1 2 dL_law_696 (by decide) ?_
  refine wp_iadd hW.1 dL_law_697 ?_
  refine wp_eqi (nI_add (10 * k) 2) ?_
  refine wp_sld hW (j := 10 * k + 2) rfl (by omega) dL_law_698 ?_
  refine wp_aload_n hW.1 0 dL_law_699 rfl rfl ?_
  refine wp_iload_n hW.1 3 dL_law_700 rfl rfl ?_
  refine wp_iconst hW.1 3 dL_law_701 (by decide) ?_
  refine wp_iadd hW.1 dL_law_702 ?_
  refine wp_eqi (nI_add (10 * k) 3) ?_
  refine wp_sld hW (j := 10 * k + 3) rfl (by omega) dL_law_703 ?_
  refine wp_aload_n hW.1 0 dL_law_704 rfl rfl ?_
  refine wp_iload_n hW.1 3 dL_law_705 rfl rfl ?_
  refine wp_iconst hW.1 4 dL_law_706 (by decide) ?_
  refine wp_iadd hW.1 dL_law_707 ?_
  refine wp_eqi (nI_add (10 * k) 4) ?_
  refine wp_sld hW (j := 10 * k + 4) rfl (by omega) dL_law_708 ?_
  refine wp_aload_n hW.1 0 dL_law_709 rfl rfl ?_
  refine wp_iload_n hW.1 3 dL_law_710 rfl rfl ?_
  refine wp_iconst hW.1 5 dL_law_711 (by decide) ?_
  refine wp_iadd hW.1 dL_law_712 ?_
  refine wp_eqi (nI_add (10 * k) 5) ?_
  refine wp_sld hW (j := 10 * k + 5) rfl (by omega) dL_law_713 ?_
  refine wp_aload_n hW.1 0 dL_law_714 rfl rfl ?_
  refine wp_iload_n hW.1 3 dL_law_715 rfl rfl ?_
  refine wp_bipush hW.1 6 dL_law_716 (by decide) ?_
  refine wp_iadd hW.1 dL_law_718 ?_
  refine wp_eqi (nI_add (10 * k) 6) ?_
  refine wp_sld hW (j := 10 * k + 6) rfl (by omega) dL_law_719 ?_
  refine wp_aload_n hW.1 0 dL_law_720 rfl rfl ?_
  refine wp_iload_n hW.1 3 dL_law_721 rfl rfl ?_
  refine wp_bipush hW.1 7 dL_law_722 (by decide) ?_
  refine wp_iadd hW.1 dL_law_724 ?_
  refine wp_eqi (nI_add (10 * k) 7) ?_
  refine wp_sld hW (j := 10 * k + 7) rfl (by omega) dL_law_725 ?_
  refine wp_callV hW.1 (As := [.int (xs (10 * k + 1)), .int (xs (10 * k + 2)), .int (xs (10 * k + 3)), .int (xs (10 * k + 4)), .int (xs (10 * k + 5)), .int (xs (10 * k + 6)), .int (xs (10 * k + 7))]) (rest := []) dL_law_726 kL_law_84 (hL.1.1.ob 0 (by decide) rfl) (c_grant _ hL.1 (xs (10 * k + 1)) (xs (10 * k + 2)) (xs (10 * k + 3)) (xs (10 * k + 4)) (xs (10 * k + 5)) (xs (10 * k + 6)) (xs (10 * k + 7))) rfl (Nat.le_of_ble_eq_true rfl) (by decide) ⟨by show cells + 2 ≤ 600000; omega, by show slots + 10 ≤ 7302250; omega⟩ ?_
  rintro _ T1 I1 J1 R1 ⟨rfl, hF, hK1⟩
  have hM1 := hL.fr hF
  refine wp_widen (k := cells + 2) (n := slots + 10) (Nat.le_refl _) (Nat.le_refl _) ?_
  change WP E 4 (cells + 2) (slots + 10) T1 I1 J1 R1 729 [(0, .ref b), (1, .ref (ca 0)), (2, .ref m), (3, .int (nI (10 * k)))] [.int _]
  refine wp_aload_n hW.1 2 dL_law_729 rfl rfl ?_
  refine wp_aload_n hW.1 0 dL_law_730 rfl rfl ?_
  refine wp_iload_n hW.1 3 dL_law_731 rfl rfl ?_
  refine wp_iconst hW.1 1 dL_law_732 (by decide) ?_
  refine wp_iadd hW.1 dL_law_733 ?_
  refine wp_eqi (nI_add (10 * k) 1) ?_
  refine wp_sld hW (j := 10 * k + 1) rfl (by omega) dL_law_734 ?_
  refine wp_aload_n hW.1 0 dL_law_735 rfl rfl ?_
  refine wp_iload_n hW.1 3 dL_law_736 rfl rfl ?_
  refine wp_iconst hW.1 2 dL_law_737 (by decide) ?_
  refine wp_iadd hW.1 dL_law_738 ?_
  refine wp_eqi (nI_add (10 * k) 2) ?_
  refine wp_sld hW (j := 10 * k + 2) rfl (by omega) dL_law_739 ?_
  refine wp_aload_n hW.1 0 dL_law_740 rfl rfl ?_
  refine wp_iload_n hW.1 3 dL_law_741 rfl rfl ?_
  refine wp_iconst hW.1 3 dL_law_742 (by decide) ?_
  refine wp_iadd hW.1 dL_law_743 ?_
  refine wp_eqi (nI_add (10 * k) 3) ?_
  refine wp_sld hW (j := 10 * k + 3) rfl (by omega) dL_law_744 ?_
  refine wp_aload_n hW.1 0 dL_law_745 rfl rfl ?_
  refine wp_iload_n hW.1 3 dL_law_746 rfl rfl ?_
  refine wp_iconst hW.1 4 dL_law_747 (by decide) ?_
  refine wp_iadd hW.1 dL_law_748 ?_
  refine wp_eqi (nI_add (10 * k) 4) ?_
  refine wp_sld hW (j := 10 * k + 4) rfl (by omega) dL_law_749 ?_
  refine wp_aload_n hW.1 0 dL_law_750 rfl rfl ?_
  refine wp_iload_n hW.1 3 dL_law_751 rfl rfl ?_
  refine wp_iconst hW.1 5 dL_law_752 (by decide) ?_
  refine wp_iadd hW.1 dL_law_753 ?_
  refine wp_eqi (nI_add (10 * k) 5) ?_
  refine wp_sld hW (j := 10 * k + 5) rfl (by omega) dL_law_754 ?_
  refine wp_aload_n hW.1 0 dL_law_755 rfl rfl ?_
  refine wp_iload_n hW.1 3 dL_law_756 rfl rfl ?_
  refine wp_bipush hW.1 6 dL_law_757 (by decide) ?_
  refine wp_iadd hW.1 dL_law_759 ?_
  refine wp_eqi (nI_add (10 * k) 6) ?_
  refine wp_sld hW (j := 10 * k + 6) rfl (by omega) dL_law_760 ?_
  refine wp_aload_n hW.1 0 dL_law_761 rfl rfl ?_
  refine wp_iload_n hW.1 3 dL_law_762 rfl rfl ?_
  refine wp_bipush hW.1 7 dL_law_763 (by decide) ?_
  refine wp_iadd hW.1 dL_law_765 ?_
  refine wp_eqi (nI_add (10 * k) 7) ?_
  refine wp_sld hW (j := 10 * k + 7) rfl (by omega) dL_law_766 ?_
  refine wp_callV hW.1 (As := [.int (xs (10 * k + 1)), .int (xs (10 * k + 2)), .int (xs (10 * k + 3)), .int (xs (10 * k + 4)), .int (xs (10 * k + 5)), .int (xs (10 * k + 6)), .int (xs (10 * k + 7))]) (rest := [.int _]) dL_law_767 kL_law_88 hM1.1.ob (m_grant _ hM1.1 hM1.2.1 hL.1.okG (xs (10 * k + 1)) (xs (10 * k + 2)) (xs (10 * k + 3)) (xs (10 * k + 4)) (xs (10 * k + 5)) (xs (10 * k + 6)) (xs (10 * k + 7))) rfl (Nat.le_of_ble_eq_true rfl) (by decide) ⟨by show cells + 2 + 0 ≤ 600000; omega, by show slots + 10 + 0 ≤ 7302250; omega⟩ ?_
  rintro _ _ I2 J2 _ ⟨rfl, rfl, rfl, hX⟩
  have hL2 := LI.z hK1 hM1 hX
  change WP E 4 (cells + 2 + 0) (slots + 10 + 0) T1 I2 J2 R1 770 [(0, .ref b), (1, .ref (ca 0)), (2, .ref m), (3, .int (nI (10 * k)))] [.int _, .int _]
  refine wp_icmp_eq hW.1 1377 dL_law_770 (by decide) (fun _ => ?_) (fun z => absurd rfl z)
  refine wp_widen (k := cells + 2) (n := slots + 18) (by omega) (by omega) ?_
  exact hn _ _ _ _ _ _ hL2
set_option maxRecDepth 100000 in
set_option maxHeartbeats 4000000 in
theorem law_16 {E : gEnv} {b L : Nat} {xs : Nat → Int32} (hW : LW E b L xs) {k cells slots : Nat} (hk : 10 * k + 10 ≤ L) (hc : cells + 2 ≤ 600000) (hs : slots + 18 ≤ 7302250) {T : gSh} {I : gI} {J : gJ} {R : gR} {ca : Nat → Nat} {m : Nat} {ad : Nat → Nat} {a : gI} {n : gJ} (hL : LI T I J R ca m ad a n) (hn : ∀ (T : gSh) (I : gI) (J : gJ) (R : gR) (a : gI) (n : gJ), LI T I J R ca m ad a n → WP E 4 (cells + 2) (slots + 18) T I J R 1377 [(0, .ref b), (1, .ref (ca 0)), (2, .ref m), (3, .int (nI (10 * k)))] []) : WP E 4 cells slots T I J R 775 [(0, .ref b), (1, .ref (ca 0)), (2, .ref m), (3, .int (nI (10 * k)))] [] := by
  refine wp_aload_n hW.1 1 dL_law_775 rfl rfl ?_
  refine wp_aload_n hW.1 0 dL_law_776 rfl rfl ?_
  refine wp_iload_n hW.1 3 dL_law_777 rfl rfl ?_
  refine wp_iconst hW.1 1 dL_law_778 (by decide) ?_
  refine wp_iadd hW.1 dL_law_779 ?_
  refine wp_eqi (nI_add (10 * k) 1) ?_
  refine wp_sld hW (j := 10 * k + 1) rfl (by omega) dL_law_780 ?_
  refine wp_aload_n hW.1 0 dL_law_781 rfl rfl ?_
  refine wp_iload_n hW.1 3 dL_law_782 rfl rfl ?_
  refine wp_iconst hW.1 2 dL_law_783 (by decide) ?_
  refine wp_iadd hW.1 dL_law_784 ?_
  refine wp_eqi (nI_add (10 * k) 2) ?_
  refine wp_sld hW (j := 10 * k + 2) rfl (by omega) dL_law_785 ?_
  refine wp_callV hW.1 (As := [.int (xs (10 * k + 1)), .int (xs (10 * k + 2))]) (rest := []) dL_law_786 kL_law_89 (hL.1.1.ob 0 (by decide) rfl) (c_end _ hL.1 (xs (10 * k + 1)) (xs (10 * k + 2))) rfl (Nat.le_of_ble_eq_true rfl) (by decide) ⟨by show cells + 0 ≤ 600000; omega, by show slots + 0 ≤ 7302250; omega⟩ ?_
  rintro _ T1 I1 J1 R1 ⟨rfl, hF, hK1⟩
  have hM1 := hL.fr hF
  refine wp_widen (k := cells + 0) (n := slots + 0) (Nat.le_refl _) (Nat.le_refl _) ?_
  change WP E 4 (cells + 0) (slots + 0) T1 I1 J1 R1 789 [(0, .ref b), (1, .ref (ca 0)), (2, .ref m), (3, .int (nI (10 * k)))] [.int _]
  refine wp_aload_n hW.1 2 dL_law_789 rfl rfl ?_
  refine wp_aload_n hW.1 0 dL_law_790 rfl rfl ?_
  refine wp_iload_n hW.1 3 dL_law_791 rfl rfl ?_
  refine wp_iconst hW.1 1 dL_law_792 (by decide) ?_
  refine wp_iadd hW.1 dL_law_793 ?_
  refine wp_eqi (nI_add (10 * k) 1) ?_
  refine wp_sld hW (j := 10 * k + 1) rfl (by omega) dL_law_794 ?_
  refine wp_aload_n hW.1 0 dL_law_795 rfl rfl ?_
  refine wp_iload_n hW.1 3 dL_law_796 rfl rfl ?_
  refine wp_iconst hW.1 2 dL_law_797 (by decide) ?_
  refine wp_iadd hW.1 dL_law_798 ?_
  refine wp_eqi (nI_add (10 * k) 2) ?_
  refine wp_sld hW (j := 10 * k + 2) rfl (by omega) dL_law_799 ?_
  refine wp_callV hW.1 (As := [.int (xs (10 * k + 1)), .int (xs (10 * k + 2))]) (rest := [.int _]) dL_law_800 kL_law_93 hM1.1.ob (m_end _ hM1.1 hM1.2.1 hL.1.okG (xs (10 * k + 1)) (xs (10 * k + 2))) rfl (Nat.le_of_ble_eq_true rfl) (by decide) ⟨by show cells + 0 + 0 ≤ 600000; omega, by show slots + 0 + 0 ≤ 7302250; omega⟩ ?_
  rintro _ _ I2 J2 _ ⟨rfl, rfl, rfl, hX⟩
  have hL2 := LI.z hK1 hM1 hX
  change WP E 4 (cells + 0 + 0) (slots + 0 + 0) T1 I2 J2 R1 803 [(0, .ref b), (1, .ref (ca 0)), (2, .ref m), (3, .int (nI (10 * k)))] [.int _, .int _]
  refine wp_icmp_eq hW.1 1377 dL_law_803 (by decide) (fun _ => ?_) (fun z => absurd rfl z)
  refine wp_widen (k := cells + 2) (n := slots + 18) (by omega) (by omega) ?_
  exact hn _ _ _ _ _ _ hL2
set_option maxRecDepth 100000 in
set_option maxHeartbeats 4000000 in
theorem law_17 {E : gEnv} {b L : Nat} {xs : Nat → Int32} (hW : LW E b L xs) {k cells slots : Nat} (hk : 10 * k + 10 ≤ L) (hc : cells + 2 ≤ 600000) (hs : slots + 18 ≤ 7302250) {T : gSh} {I : gI} {J : gJ} {R : gR} {ca : Nat → Nat} {m : Nat} {ad : Nat → Nat} {a : gI} {n : gJ} (hL : LI T I J R ca m ad a n) (hn : ∀ (T : gSh) (I : gI) (J : gJ) (R : gR) (a : gI) (n : gJ), LI T I J R ca m ad a n → WP E 4 (cells + 2) (slots + 18) T I J R 1377 [(0, .ref b), (1, .ref (ca 0)), (2, .ref m), (3, .int (nI (10 * k)))] []) : WP E 4 cells slots T I J R 808 [(0, .ref b), (1, .ref (ca 0)), (2, .ref m), (3, .int (nI (10 * k)))] [] := by
  refine wp_aload_n hW.1 1 dL_law_808 rfl rfl ?_
  refine wp_aload_n hW.1 0 dL_law_809 rfl rfl ?_
  refine wp_iload_n hW.1 3 dL_law_810 rfl rfl ?_
  refine wp_iconst hW.1 1 dL_law_811 (by decide) ?_
  refine wp_iadd hW.1 dL_law_812 ?_
  refine wp_eqi (nI_add (10 * k) 1) ?_
  refine wp_sld hW (j := 10 * k + 1) rfl (by omega) dL_law_813 ?_
  refine wp_aload_n hW.1 0 dL_law_814 rfl rfl ?_
  refine wp_iload_n hW.1 3 dL_law_815 rfl rfl ?_
  refine wp_iconst hW.1 2 dL_law_816 (by decide) ?_
  refine wp_iadd hW.1 dL_law_817 ?_
  refine wp_eqi (nI_add (10 * k) 2) ?_
  refine wp_sld hW (j := 10 * k + 2) rfl (by omega) dL_law_818 ?_
  refine wp_aload_n hW.1 0 dL_law_819 rfl rfl ?_
  refine wp_iload_n hW.1 3 dL_law_820 rfl rfl ?_
  refine wp_iconst hW.1 3 dL_law_821 (by decide) ?_
  refine wp_iadd hW.1 dL_law_822 ?_
  refine wp_eqi (nI_add (10 * k) 3) ?_
  refine wp_sld hW (j := 10 * k + 3) rfl (by omega) dL_law_823 ?_
  refine wp_aload_n hW.1 0 dL_law_824 rfl rfl ?_
  refine wp_iload_n hW.1 3 dL_law_825 rfl rfl ?_
  refine wp_iconst hW.1 4 dL_law_826 (by decide) ?_
  refine wp_iadd hW.1 dL_law_827 ?_
  refine wp_eqi (nI_add (10 * k) 4) ?_
  refine wp_sld hW (j := 10 * k + 4) rfl (by omega) dL_law_828 ?_
  refine wp_aload_n hW.1 0 dL_law_829 rfl rfl ?_
  refine wp_iload_n hW.1 3 dL_law_830 rfl rfl ?_
  refine wp_iconst hW.1 5 dL_law_831 (by decide) ?_
  refine wp_iadd hW.1 dL_law_832 ?_
  refine wp_eqi (nI_add (10 * k) 5) ?_
  refine wp_sld hW (j := 10 * k + 5) rfl (by omega) dL_law_833 ?_
  refine wp_callV hW.1 (As := [.int (xs (10 * k + 1)), .int (xs (10 * k + 2)), .int (xs (10 * k + 3)), .int (xs (10 * k + 4)), .int (xs (10 * k + 5))]) (rest := []) dL_law_834 kL_law_94 (hL.1.1.ob 0 (by decide) rfl) (c_has _ hL.1 (xs (10 * k + 1)) (xs (10 * k + 2)) (xs (10 * k + 3)) (xs (10 * k + 4)) (xs (10 * k + 5))) rfl (Nat.le_of_ble_eq_true rfl) (by decide) ⟨by show cells + 1 ≤ 600000; omega, by show slots + 5 ≤ 7302250; omega⟩ ?_
  rintro _ T1 I1 J1 R1 ⟨rfl, hF, hK1⟩
  have hM1 := hL.fr hF
  refine wp_widen (k := cells + 1) (n := slots + 5) (Nat.le_refl _) (Nat.le_refl _) ?_
  change WP E 4 (cells + 1) (slots + 5) T1 I1 J1 R1 837 [(0, .ref b), (1, .ref (ca 0)), (2, .ref m), (3, .int (nI (10 * k)))] [.int _]
  refine wp_aload_n hW.1 2 dL_law_837 rfl rfl ?_
  refine wp_aload_n hW.1 0 dL_law_838 rfl rfl ?_
  refine wp_iload_n hW.1 3 dL_law_839 rfl rfl ?_
  refine wp_iconst hW.1 1 dL_law_840 (by decide) ?_
  refine wp_iadd hW.1 dL_law_841 ?_
  refine wp_eqi (nI_add (10 * k) 1) ?_
  refine wp_sld hW (j := 10 * k + 1) rfl (by omega) dL_law_842 ?_
  refine wp_aload_n hW.1 0 dL_law_843 rfl rfl ?_
  refine wp_iload_n hW.1 3 dL_law_844 rfl rfl ?_
  refine wp_iconst hW.1 2 dL_law_845 (by decide) ?_
  refine wp_iadd hW.1 dL_law_846 ?_
  refine wp_eqi (nI_add (10 * k) 2) ?_
  refine wp_sld hW (j := 10 * k + 2) rfl (by omega) dL_law_847 ?_
  refine wp_aload_n hW.1 0 dL_law_848 rfl rfl ?_
  refine wp_iload_n hW.1 3 dL_law_849 rfl rfl ?_
  refine wp_iconst hW.1 3 dL_law_850 (by decide) ?_
  refine wp_iadd hW.1 dL_law_851 ?_
  refine wp_eqi (nI_add (10 * k) 3) ?_
  refine wp_sld hW (j := 10 * k + 3) rfl (by omega) dL_law_852 ?_
  refine wp_aload_n hW.1 0 dL_law_853 rfl rfl ?_
  refine wp_iload_n hW.1 3 dL_law_854 rfl rfl ?_
  refine wp_iconst hW.1 4 dL_law_855 (by decide) ?_
  refine wp_iadd hW.1 dL_law_856 ?_
  refine wp_eqi (nI_add (10 * k) 4) ?_
  refine wp_sld hW (j := 10 * k + 4) rfl (by omega) dL_law_857 ?_
  refine wp_aload_n hW.1 0 dL_law_858 rfl rfl ?_
  refine wp_iload_n hW.1 3 dL_law_859 rfl rfl ?_
  refine wp_iconst hW.1 5 dL_law_860 (by decide) ?_
  refine wp_iadd hW.1 dL_law_861 ?_
  refine wp_eqi (nI_add (10 * k) 5) ?_
  refine wp_sld hW (j := 10 * k + 5) rfl (by omega) dL_law_862 ?_
  refine wp_callV hW.1 (As := [.int (xs (10 * k + 1)), .int (xs (10 * k + 2)), .int (xs (10 * k + 3)), .int (xs (10 * k + 4)), .int (xs (10 * k + 5))]) (rest := [.int _]) dL_law_863 kL_law_98 hM1.1.ob (m_has _ hM1.1 hM1.2.1 hL.1.okG (xs (10 * k + 1)) (xs (10 * k + 2)) (xs (10 * k + 3)) (xs (10 * k + 4)) (xs (10 * k + 5))) rfl (Nat.le_of_ble_eq_true rfl) (by decide) ⟨by show cells + 1 + 0 ≤ 600000; omega, by show slots + 5 + 0 ≤ 7302250; omega⟩ ?_
  rintro _ _ I2 J2 _ ⟨rfl, rfl, rfl, hX⟩
  have hL2 := LI.z hK1 hM1 hX
  change WP E 4 (cells + 1 + 0) (slots + 5 + 0) T1 I2 J2 R1 866 [(0, .ref b), (1, .ref (ca 0)), (2, .ref m), (3, .int (nI (10 * k)))] [.int _, .int _]
  refine wp_icmp_eq hW.1 1377 dL_law_866 (by decide) (fun _ => ?_) (fun z => absurd rfl z)
  refine wp_widen (k := cells + 2) (n := slots + 18) (by omega) (by omega) ?_
  exact hn _ _ _ _ _ _ hL2
set_option maxRecDepth 100000 in
set_option maxHeartbeats 4000000 in
theorem law_18 {E : gEnv} {b L : Nat} {xs : Nat → Int32} (hW : LW E b L xs) {k cells slots : Nat} (hk : 10 * k + 10 ≤ L) (hc : cells + 2 ≤ 600000) (hs : slots + 18 ≤ 7302250) {T : gSh} {I : gI} {J : gJ} {R : gR} {ca : Nat → Nat} {m : Nat} {ad : Nat → Nat} {a : gI} {n : gJ} (hL : LI T I J R ca m ad a n) (hn : ∀ (T : gSh) (I : gI) (J : gJ) (R : gR) (a : gI) (n : gJ), LI T I J R ca m ad a n → WP E 4 (cells + 2) (slots + 18) T I J R 1377 [(0, .ref b), (1, .ref (ca 0)), (2, .ref m), (3, .int (nI (10 * k)))] []) : WP E 4 cells slots T I J R 871 [(0, .ref b), (1, .ref (ca 0)), (2, .ref m), (3, .int (nI (10 * k)))] [] := by
  refine wp_aload_n hW.1 1 dL_law_871 rfl rfl ?_
  refine wp_aload_n hW.1 0 dL_law_872 rfl rfl ?_
  refine wp_iload_n hW.1 3 dL_law_873 rfl rfl ?_
  refine wp_iconst hW.1 1 dL_law_874 (by decide) ?_
  refine wp_iadd hW.1 dL_law_875 ?_
  refine wp_eqi (nI_add (10 * k) 1) ?_
  refine wp_sld hW (j := 10 * k + 1) rfl (by omega) dL_law_876 ?_
  refine wp_aload_n hW.1 0 dL_law_877 rfl rfl ?_
  refine wp_iload_n hW.1 3 dL_law_878 rfl rfl ?_
  refine wp_iconst hW.1 2 dL_law_879 (by decide) ?_
  refine wp_iadd hW.1 dL_law_880 ?_
  refine wp_eqi (nI_add (10 * k) 2) ?_
  refine wp_sld hW (j := 10 * k + 2) rfl (by omega) dL_law_881 ?_
  refine wp_aload_n hW.1 0 dL_law_882 rfl rfl ?_
  refine wp_iload_n hW.1 3 dL_law_883 rfl rfl ?_
  refine wp_iconst hW.1 3 dL_law_884 (by decide) ?_
  refine wp_iadd hW.1 dL_law_885 ?_
  refine wp_eqi (nI_add (10 * k) 3) ?_
  refine wp_sld hW (j := 10 * k + 3) rfl (by omega) dL_law_886 ?_
  refine wp_aload_n hW.1 0 dL_law_887 rfl rfl ?_
  refine wp_iload_n hW.1 3 dL_law_888 rfl rfl ?_
  refine wp_iconst hW.1 4 dL_law_889 (by decide) ?_
  refine wp_iadd hW.1 dL_law_890 ?_
  refine wp_eqi (nI_add (10 * k) 4) ?_
  refine wp_sld hW (j := 10 * k + 4) rfl (by omega) dL_law_891 ?_
  refine wp_aload_n hW.1 0 dL_law_892 rfl rfl ?_
  refine wp_iload_n hW.1 3 dL_law_893 rfl rfl ?_
  refine wp_iconst hW.1 5 dL_law_894 (by decide) ?_
  refine wp_iadd hW.1 dL_law_895 ?_
  refine wp_eqi (nI_add (10 * k) 5) ?_
  refine wp_sld hW (j := 10 * k + 5) rfl (by omega) dL_law_896 ?_
  refine wp_callV hW.1 (As := [.int (xs (10 * k + 1)), .int (xs (10 * k + 2)), .int (xs (10 * k + 3)), .int (xs (10 * k + 4)), .int (xs (10 * k + 5))]) (rest := []) dL_law_897 kL_law_99 (hL.1.1.ob 0 (by decide) rfl) (c_left _ hL.1 (xs (10 * k + 1)) (xs (10 * k + 2)) (xs (10 * k + 3)) (xs (10 * k + 4)) (xs (10 * k + 5))) rfl (Nat.le_of_ble_eq_true rfl) (by decide) ⟨by show cells + 1 ≤ 600000; omega, by show slots + 5 ≤ 7302250; omega⟩ ?_
  rintro _ T1 I1 J1 R1 ⟨rfl, hF, hK1⟩
  have hM1 := hL.fr hF
  refine wp_widen (k := cells + 1) (n := slots + 5) (Nat.le_refl _) (Nat.le_refl _) ?_
  change WP E 4 (cells + 1) (slots + 5) T1 I1 J1 R1 900 [(0, .ref b), (1, .ref (ca 0)), (2, .ref m), (3, .int (nI (10 * k)))] [.int _]
  refine wp_aload_n hW.1 2 dL_law_900 rfl rfl ?_
  refine wp_aload_n hW.1 0 dL_law_901 rfl rfl ?_
  refine wp_iload_n hW.1 3 dL_law_902 rfl rfl ?_
  refine wp_iconst hW.1 1 dL_law_903 (by decide) ?_
  refine wp_iadd hW.1 dL_law_904 ?_
  refine wp_eqi (nI_add (10 * k) 1) ?_
  refine wp_sld hW (j := 10 * k + 1) rfl (by omega) dL_law_905 ?_
  refine wp_aload_n hW.1 0 dL_law_906 rfl rfl ?_
  refine wp_iload_n hW.1 3 dL_law_907 rfl rfl ?_
  refine wp_iconst hW.1 2 dL_law_908 (by decide) ?_
  refine wp_iadd hW.1 dL_law_909 ?_
  refine wp_eqi (nI_add (10 * k) 2) ?_
  refine wp_sld hW (j := 10 * k + 2) rfl (by omega) dL_law_910 ?_
  refine wp_aload_n hW.1 0 dL_law_911 rfl rfl ?_
  refine wp_iload_n hW.1 3 dL_law_912 rfl rfl ?_
  refine wp_iconst hW.1 3 dL_law_913 (by decide) ?_
  refine wp_iadd hW.1 dL_law_914 ?_
  refine wp_eqi (nI_add (10 * k) 3) ?_
  refine wp_sld hW (j := 10 * k + 3) rfl (by omega) dL_law_915 ?_
  refine wp_aload_n hW.1 0 dL_law_916 rfl rfl ?_
  refine wp_iload_n hW.1 3 dL_law_917 rfl rfl ?_
  refine wp_iconst hW.1 4 dL_law_918 (by decide) ?_
  refine wp_iadd hW.1 dL_law_919 ?_
  refine wp_eqi (nI_add (10 * k) 4) ?_
  refine wp_sld hW (j := 10 * k + 4) rfl (by omega) dL_law_920 ?_
  refine wp_aload_n hW.1 0 dL_law_921 rfl rfl ?_
  refine wp_iload_n hW.1 3 dL_law_922 rfl rfl ?_
  refine wp_iconst hW.1 5 dL_law_923 (by decide) ?_
  refine wp_iadd hW.1 dL_law_924 ?_
  refine wp_eqi (nI_add (10 * k) 5) ?_
  refine wp_sld hW (j := 10 * k + 5) rfl (by omega) dL_law_925 ?_
  refine wp_callV hW.1 (As := [.int (xs (10 * k + 1)), .int (xs (10 * k + 2)), .int (xs (10 * k + 3)), .int (xs (10 * k + 4)), .int (xs (10 * k + 5))]) (rest := [.int _]) dL_law_926 kL_law_102 hM1.1.ob (m_left _ hM1.1 hM1.2.1 hL.1.okG (xs (10 * k + 1)) (xs (10 * k + 2)) (xs (10 * k + 3)) (xs (10 * k + 4)) (xs (10 * k + 5))) rfl (Nat.le_of_ble_eq_true rfl) (by decide) ⟨by show cells + 1 + 0 ≤ 600000; omega, by show slots + 5 + 0 ≤ 7302250; omega⟩ ?_
  rintro _ _ I2 J2 _ ⟨rfl, rfl, rfl, hX⟩
  have hL2 := LI.z hK1 hM1 hX
  change WP E 4 (cells + 1 + 0) (slots + 5 + 0) T1 I2 J2 R1 929 [(0, .ref b), (1, .ref (ca 0)), (2, .ref m), (3, .int (nI (10 * k)))] [.int _, .int _]
  refine wp_icmp_eq hW.1 1377 dL_law_929 (by decide) (fun _ => ?_) (fun z => absurd rfl z)
  refine wp_widen (k := cells + 2) (n := slots + 18) (by omega) (by omega) ?_
  exact hn _ _ _ _ _ _ hL2
set_option maxRecDepth 100000 in
set_option maxHeartbeats 4000000 in
theorem law_19 {E : gEnv} {b L : Nat} {xs : Nat → Int32} (hW : LW E b L xs) {k cells slots : Nat} (hk : 10 * k + 10 ≤ L) (hc : cells + 2 ≤ 600000) (hs : slots + 18 ≤ 7302250) {T : gSh} {I : gI} {J : gJ} {R : gR} {ca : Nat → Nat} {m : Nat} {ad : Nat → Nat} {a : gI} {n : gJ} (hL : LI T I J R ca m ad a n) (hn : ∀ (T : gSh) (I : gI) (J : gJ) (R : gR) (a : gI) (n : gJ), LI T I J R ca m ad a n → WP E 4 (cells + 2) (slots + 18) T I J R 1377 [(0, .ref b), (1, .ref (ca 0)), (2, .ref m), (3, .int (nI (10 * k)))] []) : WP E 4 cells slots T I J R 934 [(0, .ref b), (1, .ref (ca 0)), (2, .ref m), (3, .int (nI (10 * k)))] [] := by
  refine wp_aload_n hW.1 1 dL_law_934 rfl rfl ?_
  refine wp_aload_n hW.1 0 dL_law_935 rfl rfl ?_
  refine wp_iload_n hW.1 3 dL_law_936 rfl rfl ?_
  refine wp_iconst hW.1 1 dL_law_937 (by decide) ?_
  refine wp_iadd hW.1 dL_law_938 ?_
  refine wp_eqi (nI_add (10 * k) 1) ?_
  refine wp_sld hW (j := 10 * k + 1) rfl (by omega) dL_law_939 ?_
  refine wp_aload_n hW.1 0 dL_law_940 rfl rfl ?_
  refine wp_iload_n hW.1 3 dL_law_941 rfl rfl ?_
  refine wp_iconst hW.1 2 dL_law_942 (by decide) ?_
  refine wp_iadd hW.1 dL_law_943 ?_
  refine wp_eqi (nI_add (10 * k) 2) ?_
  refine wp_sld hW (j := 10 * k + 2) rfl (by omega) dL_law_944 ?_
  refine wp_aload_n hW.1 0 dL_law_945 rfl rfl ?_
  refine wp_iload_n hW.1 3 dL_law_946 rfl rfl ?_
  refine wp_iconst hW.1 3 dL_law_947 (by decide) ?_
  refine wp_iadd hW.1 dL_law_948 ?_
  refine wp_eqi (nI_add (10 * k) 3) ?_
  refine wp_sld hW (j := 10 * k + 3) rfl (by omega) dL_law_949 ?_
  refine wp_aload_n hW.1 0 dL_law_950 rfl rfl ?_
  refine wp_iload_n hW.1 3 dL_law_951 rfl rfl ?_
  refine wp_iconst hW.1 4 dL_law_952 (by decide) ?_
  refine wp_iadd hW.1 dL_law_953 ?_
  refine wp_eqi (nI_add (10 * k) 4) ?_
  refine wp_sld hW (j := 10 * k + 4) rfl (by omega) dL_law_954 ?_
  refine wp_callV hW.1 (As := [.int (xs (10 * k + 1)), .int (xs (10 * k + 2)), .int (xs (10 * k + 3)), .int (xs (10 * k + 4))]) (rest := []) dL_law_955 kL_law_103 (hL.1.1.ob 0 (by decide) rfl) (c_option _ hL.1 (xs (10 * k + 1)) (xs (10 * k + 2)) (xs (10 * k + 3)) (xs (10 * k + 4))) rfl (Nat.le_of_ble_eq_true rfl) (by decide) ⟨by show cells + 1 ≤ 600000; omega, by show slots + 4 ≤ 7302250; omega⟩ ?_
  rintro _ T1 I1 J1 R1 ⟨rfl, hF, hK1⟩
  have hM1 := hL.fr hF
  refine wp_widen (k := cells + 1) (n := slots + 4) (Nat.le_refl _) (Nat.le_refl _) ?_
  change WP E 4 (cells + 1) (slots + 4) T1 I1 J1 R1 958 [(0, .ref b), (1, .ref (ca 0)), (2, .ref m), (3, .int (nI (10 * k)))] [.int _]
  refine wp_aload_n hW.1 2 dL_law_958 rfl rfl ?_
  refine wp_aload_n hW.1 0 dL_law_959 rfl rfl ?_
  refine wp_iload_n hW.1 3 dL_law_960 rfl rfl ?_
  refine wp_iconst hW.1 1 dL_law_961 (by decide) ?_
  refine wp_iadd hW.1 dL_law_962 ?_
  refine wp_eqi (nI_add (10 * k) 1) ?_
  refine wp_sld hW (j := 10 * k + 1) rfl (by omega) dL_law_963 ?_
  refine wp_aload_n hW.1 0 dL_law_964 rfl rfl ?_
  refine wp_iload_n hW.1 3 dL_law_965 rfl rfl ?_
  refine wp_iconst hW.1 2 dL_law_966 (by decide) ?_
  refine wp_iadd hW.1 dL_law_967 ?_
  refine wp_eqi (nI_add (10 * k) 2) ?_
  refine wp_sld hW (j := 10 * k + 2) rfl (by omega) dL_law_968 ?_
  refine wp_aload_n hW.1 0 dL_law_969 rfl rfl ?_
  refine wp_iload_n hW.1 3 dL_law_970 rfl rfl ?_
  refine wp_iconst hW.1 3 dL_law_971 (by decide) ?_
  refine wp_iadd hW.1 dL_law_972 ?_
  refine wp_eqi (nI_add (10 * k) 3) ?_
  refine wp_sld hW (j := 10 * k + 3) rfl (by omega) dL_law_973 ?_
  refine wp_aload_n hW.1 0 dL_law_974 rfl rfl ?_
  refine wp_iload_n hW.1 3 dL_law_975 rfl rfl ?_
  refine wp_iconst hW.1 4 dL_law_976 (by decide) ?_
  refine wp_iadd hW.1 dL_law_977 ?_
  refine wp_eqi (nI_add (10 * k) 4) ?_
  refine wp_sld hW (j := 10 * k + 4) rfl (by omega) dL_law_978 ?_
  refine wp_callV hW.1 (As := [.int (xs (10 * k + 1)), .int (xs (10 * k + 2)), .int (xs (10 * k + 3)), .int (xs (10 * k + 4))]) (rest := [.int _]) dL_law_979 kL_law_107 hM1.1.ob (m_option _ hM1.1 hM1.2.1 hL.1.okO (xs (10 * k + 1)) (xs (10 * k + 2)) (xs (10 * k + 3)) (xs (10 * k + 4))) rfl (Nat.le_of_ble_eq_true rfl) (by decide) ⟨by show cells + 1 + 0 ≤ 600000; omega, by show slots + 4 + 0 ≤ 7302250; omega⟩ ?_
  rintro _ _ I2 J2 _ ⟨rfl, rfl, rfl, hX⟩
  have hL2 := LI.z hK1 hM1 hX
  change WP E 4 (cells + 1 + 0) (slots + 4 + 0) T1 I2 J2 R1 982 [(0, .ref b), (1, .ref (ca 0)), (2, .ref m), (3, .int (nI (10 * k)))] [.int _, .int _]
  refine wp_icmp_eq hW.1 1377 dL_law_982 (by decide) (fun _ => ?_) (fun z => absurd rfl z)
  refine wp_widen (k := cells + 2) (n := slots + 18) (by omega) (by omega) ?_
  exact hn _ _ _ _ _ _ hL2
set_option maxRecDepth 100000 in
set_option maxHeartbeats 4000000 in
theorem law_20 {E : gEnv} {b L : Nat} {xs : Nat → Int32} (hW : LW E b L xs) {k cells slots : Nat} (hk : 10 * k + 10 ≤ L) (hc : cells + 2 ≤ 600000) (hs : slots + 18 ≤ 7302250) {T : gSh} {I : gI} {J : gJ} {R : gR} {ca : Nat → Nat} {m : Nat} {ad : Nat → Nat} {a : gI} {n : gJ} (hL : LI T I J R ca m ad a n) (hn : ∀ (T : gSh) (I : gI) (J : gJ) (R : gR) (a : gI) (n : gJ), LI T I J R ca m ad a n → WP E 4 (cells + 2) (slots + 18) T I J R 1377 [(0, .ref b), (1, .ref (ca 0)), (2, .ref m), (3, .int (nI (10 * k)))] []) : WP E 4 cells slots T I J R 987 [(0, .ref b), (1, .ref (ca 0)), (2, .ref m), (3, .int (nI (10 * k)))] [] := by
  refine wp_aload_n hW.1 1 dL_law_987 rfl rfl ?_
  refine wp_aload_n hW.1 0 dL_law_988 rfl rfl ?_
  refine wp_iload_n hW.1 3 dL_law_989 rfl rfl ?_
  refine wp_iconst hW.1 1 dL_law_990 (by decide) ?_
  refine wp_iadd hW.1 dL_law_991 ?_
  refine wp_eqi (nI_add (10 * k) 1) ?_
  refine wp_sld hW (j := 10 * k + 1) rfl (by omega) dL_law_992 ?_
  refine wp_aload_n hW.1 0 dL_law_993 rfl rfl ?_
  refine wp_iload_n hW.1 3 dL_law_994 rfl rfl ?_
  refine wp_iconst hW.1 2 dL_law_995 (by decide) ?_
  refine wp_iadd hW.1 dL_law_996 ?_
  refine wp_eqi (nI_add (10 * k) 2) ?_
  refine wp_sld hW (j := 10 * k + 2) rfl (by omega) dL_law_997 ?_
  refine wp_aload_n hW.1 0 dL_law_998 rfl rfl ?_
  refine wp_iload_n hW.1 3 dL_law_999 rfl rfl ?_
  refine wp_iconst hW.1 3 dL_law_1000 (by decide) ?_
  refine wp_iadd hW.1 dL_law_1001 ?_
  refine wp_eqi (nI_add (10 * k) 3) ?_
  refine wp_sld hW (j := 10 * k + 3) rfl (by omega) dL_law_1002 ?_
  refine wp_aload_n hW.1 0 dL_law_1003 rfl rfl ?_
  refine wp_iload_n hW.1 3 dL_law_1004 rfl rfl ?_
  refine wp_iconst hW.1 4 dL_law_1005 (by decide) ?_
  refine wp_iadd hW.1 dL_law_1006 ?_
  refine wp_eqi (nI_add (10 * k) 4) ?_
  refine wp_sld hW (j := 10 * k + 4) rfl (by omega) dL_law_1007 ?_
  refine wp_aload_n hW.1 0 dL_law_1008 rfl rfl ?_
  refine wp_iload_n hW.1 3 dL_law_1009 rfl rfl ?_
  refine wp_iconst hW.1 5 dL_law_1010 (by decide) ?_
  refine wp_iadd hW.1 dL_law_1011 ?_
  refine wp_eqi (nI_add (10 * k) 5) ?_
  refine wp_sld hW (j := 10 * k + 5) rfl (by omega) dL_law_1012 ?_
  refine wp_aload_n hW.1 0 dL_law_1013 rfl rfl ?_
  refine wp_iload_n hW.1 3 dL_law_1014 rfl rfl ?_
  refine wp_bipush hW.1 6 dL_law_1015 (by decide) ?_
  refine wp_iadd hW.1 dL_law_1017 ?_
  refine wp_eqi (nI_add (10 * k) 6) ?_
  refine wp_sld hW (j := 10 * k + 6) rfl (by omega) dL_law_1018 ?_
  refine wp_aload_n hW.1 0 dL_law_1019 rfl rfl ?_
  refine wp_iload_n hW.1 3 dL_law_1020 rfl rfl ?_
  refine wp_bipush hW.1 7 dL_law_1021 (by decide) ?_
  refine wp_iadd hW.1 dL_law_1023 ?_
  refine wp_eqi (nI_add (10 * k) 7) ?_
  refine wp_sld hW (j := 10 * k + 7) rfl (by omega) dL_law_1024 ?_
  refine wp_aload_n hW.1 0 dL_law_1025 rfl rfl ?_
  refine wp_iload_n hW.1 3 dL_law_1026 rfl rfl ?_
  refine wp_bipush hW.1 8 dL_law_1027 (by decide) ?_
  refine wp_iadd hW.1 dL_law_1029 ?_
  refine wp_eqi (nI_add (10 * k) 8) ?_
  refine wp_sld hW (j := 10 * k + 8) rfl (by omega) dL_law_1030 ?_
  refine wp_callV hW.1 (As := [.int (xs (10 * k + 1)), .int (xs (10 * k + 2)), .int (xs (10 * k + 3)), .int (xs (10 * k + 4)), .int (xs (10 * k + 5)), .int (xs (10 * k + 6)), .int (xs (10 * k + 7)), .int (xs (10 * k + 8))]) (rest := []) dL_law_1031 kL_law_108 (hL.1.1.ob 0 (by decide) rfl) (c_may _ hL.1 (xs (10 * k + 1)) (xs (10 * k + 2)) (xs (10 * k + 3)) (xs (10 * k + 4)) (xs (10 * k + 5)) (xs (10 * k + 6)) (xs (10 * k + 7)) (xs (10 * k + 8))) rfl (Nat.le_of_ble_eq_true rfl) (by decide) ⟨by show cells + 1 ≤ 600000; omega, by show slots + 5 ≤ 7302250; omega⟩ ?_
  rintro _ T1 I1 J1 R1 ⟨rfl, hF, hK1⟩
  have hM1 := hL.fr hF
  refine wp_widen (k := cells + 1) (n := slots + 5) (Nat.le_refl _) (Nat.le_refl _) ?_
  change WP E 4 (cells + 1) (slots + 5) T1 I1 J1 R1 1034 [(0, .ref b), (1, .ref (ca 0)), (2, .ref m), (3, .int (nI (10 * k)))] [.int _]
  refine wp_aload_n hW.1 2 dL_law_1034 rfl rfl ?_
  refine wp_aload_n hW.1 0 dL_law_1035 rfl rfl ?_
  refine wp_iload_n hW.1 3 dL_law_1036 rfl rfl ?_
  refine wp_iconst hW.1 1 dL_law_1037 (by decide) ?_
  refine wp_iadd hW.1 dL_law_1038 ?_
  refine wp_eqi (nI_add (10 * k) 1) ?_
  refine wp_sld hW (j := 10 * k + 1) rfl (by omega) dL_law_1039 ?_
  refine wp_aload_n hW.1 0 dL_law_1040 rfl rfl ?_
  refine wp_iload_n hW.1 3 dL_law_1041 rfl rfl ?_
  refine wp_iconst hW.1 2 dL_law_1042 (by decide) ?_
  refine wp_iadd hW.1 dL_law_1043 ?_
  refine wp_eqi (nI_add (10 * k) 2) ?_
  refine wp_sld hW (j := 10 * k + 2) rfl (by omega) dL_law_1044 ?_
  refine wp_aload_n hW.1 0 dL_law_1045 rfl rfl ?_
  refine wp_iload_n hW.1 3 dL_law_1046 rfl rfl ?_
  refine wp_iconst hW.1 3 dL_law_1047 (by decide) ?_
  refine wp_iadd hW.1 dL_law_1048 ?_
  refine wp_eqi (nI_add (10 * k) 3) ?_
  refine wp_sld hW (j := 10 * k + 3) rfl (by omega) dL_law_1049 ?_
  refine wp_aload_n hW.1 0 dL_law_1050 rfl rfl ?_
  refine wp_iload_n hW.1 3 dL_law_1051 rfl rfl ?_
  refine wp_iconst hW.1 4 dL_law_1052 (by decide) ?_
  refine wp_iadd hW.1 dL_law_1053 ?_
  refine wp_eqi (nI_add (10 * k) 4) ?_
  refine wp_sld hW (j := 10 * k + 4) rfl (by omega) dL_law_1054 ?_
  refine wp_aload_n hW.1 0 dL_law_1055 rfl rfl ?_
  refine wp_iload_n hW.1 3 dL_law_1056 rfl rfl ?_
  refine wp_iconst hW.1 5 dL_law_1057 (by decide) ?_
  refine wp_iadd hW.1 dL_law_1058 ?_
  refine wp_eqi (nI_add (10 * k) 5) ?_
  refine wp_sld hW (j := 10 * k + 5) rfl (by omega) dL_law_1059 ?_
  refine wp_aload_n hW.1 0 dL_law_1060 rfl rfl ?_
  refine wp_iload_n hW.1 3 dL_law_1061 rfl rfl ?_
  refine wp_bipush hW.1 6 dL_law_1062 (by decide) ?_
  refine wp_iadd hW.1 dL_law_1064 ?_
  refine wp_eqi (nI_add (10 * k) 6) ?_
  refine wp_sld hW (j := 10 * k + 6) rfl (by omega) dL_law_1065 ?_
  refine wp_aload_n hW.1 0 dL_law_1066 rfl rfl ?_
  refine wp_iload_n hW.1 3 dL_law_1067 rfl rfl ?_
  refine wp_bipush hW.1 7 dL_law_1068 (by decide) ?_
  refine wp_iadd hW.1 dL_law_1070 ?_
  refine wp_eqi (nI_add (10 * k) 7) ?_
  refine wp_sld hW (j := 10 * k + 7) rfl (by omega) dL_law_1071 ?_
  refine wp_aload_n hW.1 0 dL_law_1072 rfl rfl ?_
  refine wp_iload_n hW.1 3 dL_law_1073 rfl rfl ?_
  refine wp_bipush hW.1 8 dL_law_1074 (by decide) ?_
  refine wp_iadd hW.1 dL_law_1076 ?_
  refine wp_eqi (nI_add (10 * k) 8) ?_
  refine wp_sld hW (j := 10 * k + 8) rfl (by omega) dL_law_1077 ?_
  refine wp_callV hW.1 (As := [.int (xs (10 * k + 1)), .int (xs (10 * k + 2)), .int (xs (10 * k + 3)), .int (xs (10 * k + 4)), .int (xs (10 * k + 5)), .int (xs (10 * k + 6)), .int (xs (10 * k + 7)), .int (xs (10 * k + 8))]) (rest := [.int _]) dL_law_1078 kL_law_112 hM1.1.ob (m_may _ hM1.1 hM1.2.1 hL.1.okN hL.1.okB hL.1.okG hL.1.okO (xs (10 * k + 1)) (xs (10 * k + 2)) (xs (10 * k + 3)) (xs (10 * k + 4)) (xs (10 * k + 5)) (xs (10 * k + 6)) (xs (10 * k + 7)) (xs (10 * k + 8))) rfl (Nat.le_of_ble_eq_true rfl) (by decide) ⟨by show cells + 1 + 0 ≤ 600000; omega, by show slots + 5 + 0 ≤ 7302250; omega⟩ ?_
  rintro _ _ I2 J2 _ ⟨rfl, rfl, rfl, hX⟩
  have hL2 := LI.z hK1 hM1 hX
  change WP E 4 (cells + 1 + 0) (slots + 5 + 0) T1 I2 J2 R1 1081 [(0, .ref b), (1, .ref (ca 0)), (2, .ref m), (3, .int (nI (10 * k)))] [.int _, .int _]
  refine wp_icmp_eq hW.1 1377 dL_law_1081 (by decide) (fun _ => ?_) (fun z => absurd rfl z)
  refine wp_widen (k := cells + 2) (n := slots + 18) (by omega) (by omega) ?_
  exact hn _ _ _ _ _ _ hL2
set_option maxRecDepth 100000 in
set_option maxHeartbeats 4000000 in
theorem law_21 {E : gEnv} {b L : Nat} {xs : Nat → Int32} (hW : LW E b L xs) {k cells slots : Nat} (hk : 10 * k + 10 ≤ L) (hc : cells + 2 ≤ 600000) (hs : slots + 18 ≤ 7302250) {T : gSh} {I : gI} {J : gJ} {R : gR} {ca : Nat → Nat} {m : Nat} {ad : Nat → Nat} {a : gI} {n : gJ} (hL : LI T I J R ca m ad a n) (hn : ∀ (T : gSh) (I : gI) (J : gJ) (R : gR) (a : gI) (n : gJ), LI T I J R ca m ad a n → WP E 4 (cells + 2) (slots + 18) T I J R 1377 [(0, .ref b), (1, .ref (ca 0)), (2, .ref m), (3, .int (nI (10 * k)))] []) : WP E 4 cells slots T I J R 1086 [(0, .ref b), (1, .ref (ca 0)), (2, .ref m), (3, .int (nI (10 * k)))] [] := by
  refine wp_aload_n hW.1 1 dL_law_1086 rfl rfl ?_
  refine wp_callV hW.1 (As := []) (rest := []) dL_law_1087 kL_law_113 (hL.1.1.ob 0 (by decide) rfl) (c_upperQ _ hL.1 ) rfl (Nat.le_of_ble_eq_true rfl) (by decide) ⟨by show cells + 0 ≤ 600000; omega, by show slots + 0 ≤ 7302250; omega⟩ ?_
  rintro _ T1 I1 J1 R1 ⟨rfl, hF, hK1⟩
  have hM1 := hL.fr hF
  refine wp_widen (k := cells + 0) (n := slots + 0) (Nat.le_refl _) (Nat.le_refl _) ?_
  change WP E 4 (cells + 0) (slots + 0) T1 I1 J1 R1 1090 [(0, .ref b), (1, .ref (ca 0)), (2, .ref m), (3, .int (nI (10 * k)))] [.long _]
  refine wp_aload_n hW.1 2 dL_law_1090 rfl rfl ?_
  refine wp_callV hW.1 (As := []) (rest := [.long _]) dL_law_1091 kL_law_117 hM1.1.ob (m_upperZ _ hM1.1 hM1.2.1  ) rfl (Nat.le_of_ble_eq_true rfl) (by decide) ⟨by show cells + 0 + 0 ≤ 600000; omega, by show slots + 0 + 0 ≤ 7302250; omega⟩ ?_
  rintro _ _ I2 J2 _ ⟨rfl, rfl, rfl, hX⟩
  have hL2 := LI.z hK1 hM1 hX
  change WP E 4 (cells + 0 + 0) (slots + 0 + 0) T1 I2 J2 R1 1094 [(0, .ref b), (1, .ref (ca 0)), (2, .ref m), (3, .int (nI (10 * k)))] [.long _, .long _]
  refine wp_lcmp hW.1 dL_law_1094 ?_
  refine wp_if_eq hW.1 1377 dL_law_1095 (by decide) (fun _ => ?_) (fun z => absurd (lc_self _) z)
  refine wp_widen (k := cells + 2) (n := slots + 18) (by omega) (by omega) ?_
  exact hn _ _ _ _ _ _ hL2
set_option maxRecDepth 100000 in
set_option maxHeartbeats 4000000 in
theorem law_22 {E : gEnv} {b L : Nat} {xs : Nat → Int32} (hW : LW E b L xs) {k cells slots : Nat} (hk : 10 * k + 10 ≤ L) (hc : cells + 2 ≤ 600000) (hs : slots + 18 ≤ 7302250) {T : gSh} {I : gI} {J : gJ} {R : gR} {ca : Nat → Nat} {m : Nat} {ad : Nat → Nat} {a : gI} {n : gJ} (hL : LI T I J R ca m ad a n) (hn : ∀ (T : gSh) (I : gI) (J : gJ) (R : gR) (a : gI) (n : gJ), LI T I J R ca m ad a n → WP E 4 (cells + 2) (slots + 18) T I J R 1377 [(0, .ref b), (1, .ref (ca 0)), (2, .ref m), (3, .int (nI (10 * k)))] []) : WP E 4 cells slots T I J R 1100 [(0, .ref b), (1, .ref (ca 0)), (2, .ref m), (3, .int (nI (10 * k)))] [] := by
  refine wp_aload_n hW.1 1 dL_law_1100 rfl rfl ?_
  refine wp_callV hW.1 (As := []) (rest := []) dL_law_1101 kL_law_118 (hL.1.1.ob 0 (by decide) rfl) (c_lowerQ _ hL.1 ) rfl (Nat.le_of_ble_eq_true rfl) (by decide) ⟨by show cells + 0 ≤ 600000; omega, by show slots + 0 ≤ 7302250; omega⟩ ?_
  rintro _ T1 I1 J1 R1 ⟨rfl, hF, hK1⟩
  have hM1 := hL.fr hF
  refine wp_widen (k := cells + 0) (n := slots + 0) (Nat.le_refl _) (Nat.le_refl _) ?_
  change WP E 4 (cells + 0) (slots + 0) T1 I1 J1 R1 1104 [(0, .ref b), (1, .ref (ca 0)), (2, .ref m), (3, .int (nI (10 * k)))] [.long _]
  refine wp_aload_n hW.1 2 dL_law_1104 rfl rfl ?_
  refine wp_callV hW.1 (As := []) (rest := [.long _]) dL_law_1105 kL_law_121 hM1.1.ob (m_lowerZ _ hM1.1 hM1.2.1  ) rfl (Nat.le_of_ble_eq_true rfl) (by decide) ⟨by show cells + 0 + 0 ≤ 600000; omega, by show slots + 0 + 0 ≤ 7302250; omega⟩ ?_
  rintro _ _ I2 J2 _ ⟨rfl, rfl, rfl, hX⟩
  have hL2 := LI.z hK1 hM1 hX
  change WP E 4 (cells + 0 + 0) (slots + 0 + 0) T1 I2 J2 R1 1108 [(0, .ref b), (1, .ref (ca 0)), (2, .ref m), (3, .int (nI (10 * k)))] [.long _, .long _]
  refine wp_lcmp hW.1 dL_law_1108 ?_
  refine wp_if_eq hW.1 1377 dL_law_1109 (by decide) (fun _ => ?_) (fun z => absurd (lc_self _) z)
  refine wp_widen (k := cells + 2) (n := slots + 18) (by omega) (by omega) ?_
  exact hn _ _ _ _ _ _ hL2
set_option maxRecDepth 100000 in
set_option maxHeartbeats 4000000 in
theorem law_23 {E : gEnv} {b L : Nat} {xs : Nat → Int32} (hW : LW E b L xs) {k cells slots : Nat} (hk : 10 * k + 10 ≤ L) (hc : cells + 2 ≤ 600000) (hs : slots + 18 ≤ 7302250) {T : gSh} {I : gI} {J : gJ} {R : gR} {ca : Nat → Nat} {m : Nat} {ad : Nat → Nat} {a : gI} {n : gJ} (hL : LI T I J R ca m ad a n) (hn : ∀ (T : gSh) (I : gI) (J : gJ) (R : gR) (a : gI) (n : gJ), LI T I J R ca m ad a n → WP E 4 (cells + 2) (slots + 18) T I J R 1377 [(0, .ref b), (1, .ref (ca 0)), (2, .ref m), (3, .int (nI (10 * k)))] []) : WP E 4 cells slots T I J R 1114 [(0, .ref b), (1, .ref (ca 0)), (2, .ref m), (3, .int (nI (10 * k)))] [] := by
  refine wp_aload_n hW.1 1 dL_law_1114 rfl rfl ?_
  refine wp_aload_n hW.1 0 dL_law_1115 rfl rfl ?_
  refine wp_iload_n hW.1 3 dL_law_1116 rfl rfl ?_
  refine wp_iconst hW.1 1 dL_law_1117 (by decide) ?_
  refine wp_iadd hW.1 dL_law_1118 ?_
  refine wp_eqi (nI_add (10 * k) 1) ?_
  refine wp_sld hW (j := 10 * k + 1) rfl (by omega) dL_law_1119 ?_
  refine wp_aload_n hW.1 0 dL_law_1120 rfl rfl ?_
  refine wp_iload_n hW.1 3 dL_law_1121 rfl rfl ?_
  refine wp_iconst hW.1 2 dL_law_1122 (by decide) ?_
  refine wp_iadd hW.1 dL_law_1123 ?_
  refine wp_eqi (nI_add (10 * k) 2) ?_
  refine wp_sld hW (j := 10 * k + 2) rfl (by omega) dL_law_1124 ?_
  refine wp_aload_n hW.1 0 dL_law_1125 rfl rfl ?_
  refine wp_iload_n hW.1 3 dL_law_1126 rfl rfl ?_
  refine wp_iconst hW.1 3 dL_law_1127 (by decide) ?_
  refine wp_iadd hW.1 dL_law_1128 ?_
  refine wp_eqi (nI_add (10 * k) 3) ?_
  refine wp_sld hW (j := 10 * k + 3) rfl (by omega) dL_law_1129 ?_
  refine wp_aload_n hW.1 0 dL_law_1130 rfl rfl ?_
  refine wp_iload_n hW.1 3 dL_law_1131 rfl rfl ?_
  refine wp_iconst hW.1 4 dL_law_1132 (by decide) ?_
  refine wp_iadd hW.1 dL_law_1133 ?_
  refine wp_eqi (nI_add (10 * k) 4) ?_
  refine wp_sld hW (j := 10 * k + 4) rfl (by omega) dL_law_1134 ?_
  refine wp_aload_n hW.1 0 dL_law_1135 rfl rfl ?_
  refine wp_iload_n hW.1 3 dL_law_1136 rfl rfl ?_
  refine wp_iconst hW.1 5 dL_law_1137 (by decide) ?_
  refine wp_iadd hW.1 dL_law_1138 ?_
  refine wp_eqi (nI_add (10 * k) 5) ?_
  refine wp_sld hW (j := 10 * k + 5) rfl (by omega) dL_law_1139 ?_
  refine wp_callV hW.1 (As := [.int (xs (10 * k + 1)), .int (xs (10 * k + 2)), .int (xs (10 * k + 3)), .int (xs (10 * k + 4)), .int (xs (10 * k + 5))]) (rest := []) dL_law_1140 kL_law_122 (hL.1.1.ob 0 (by decide) rfl) (c_auction _ hL.1 (xs (10 * k + 1)) (xs (10 * k + 2)) (xs (10 * k + 3)) (xs (10 * k + 4)) (xs (10 * k + 5))) rfl (Nat.le_of_ble_eq_true rfl) (by decide) ⟨by show cells + 2 ≤ 600000; omega, by show slots + 18 ≤ 7302250; omega⟩ ?_
  rintro _ T1 I1 J1 R1 ⟨rfl, hF, hK1⟩
  have hM1 := hL.fr hF
  refine wp_widen (k := cells + 2) (n := slots + 18) (Nat.le_refl _) (Nat.le_refl _) ?_
  change WP E 4 (cells + 2) (slots + 18) T1 I1 J1 R1 1143 [(0, .ref b), (1, .ref (ca 0)), (2, .ref m), (3, .int (nI (10 * k)))] [.int _]
  refine wp_aload_n hW.1 2 dL_law_1143 rfl rfl ?_
  refine wp_aload_n hW.1 0 dL_law_1144 rfl rfl ?_
  refine wp_iload_n hW.1 3 dL_law_1145 rfl rfl ?_
  refine wp_iconst hW.1 1 dL_law_1146 (by decide) ?_
  refine wp_iadd hW.1 dL_law_1147 ?_
  refine wp_eqi (nI_add (10 * k) 1) ?_
  refine wp_sld hW (j := 10 * k + 1) rfl (by omega) dL_law_1148 ?_
  refine wp_aload_n hW.1 0 dL_law_1149 rfl rfl ?_
  refine wp_iload_n hW.1 3 dL_law_1150 rfl rfl ?_
  refine wp_iconst hW.1 2 dL_law_1151 (by decide) ?_
  refine wp_iadd hW.1 dL_law_1152 ?_
  refine wp_eqi (nI_add (10 * k) 2) ?_
  refine wp_sld hW (j := 10 * k + 2) rfl (by omega) dL_law_1153 ?_
  refine wp_aload_n hW.1 0 dL_law_1154 rfl rfl ?_
  refine wp_iload_n hW.1 3 dL_law_1155 rfl rfl ?_
  refine wp_iconst hW.1 3 dL_law_1156 (by decide) ?_
  refine wp_iadd hW.1 dL_law_1157 ?_
  refine wp_eqi (nI_add (10 * k) 3) ?_
  refine wp_sld hW (j := 10 * k + 3) rfl (by omega) dL_law_1158 ?_
  refine wp_aload_n hW.1 0 dL_law_1159 rfl rfl ?_
  refine wp_iload_n hW.1 3 dL_law_1160 rfl rfl ?_
  refine wp_iconst hW.1 4 dL_law_1161 (by decide) ?_
  refine wp_iadd hW.1 dL_law_1162 ?_
  refine wp_eqi (nI_add (10 * k) 4) ?_
  refine wp_sld hW (j := 10 * k + 4) rfl (by omega) dL_law_1163 ?_
  refine wp_aload_n hW.1 0 dL_law_1164 rfl rfl ?_
  refine wp_iload_n hW.1 3 dL_law_1165 rfl rfl ?_
  refine wp_iconst hW.1 5 dL_law_1166 (by decide) ?_
  refine wp_iadd hW.1 dL_law_1167 ?_
  refine wp_eqi (nI_add (10 * k) 5) ?_
  refine wp_sld hW (j := 10 * k + 5) rfl (by omega) dL_law_1168 ?_
  refine wp_callV hW.1 (As := [.int (xs (10 * k + 1)), .int (xs (10 * k + 2)), .int (xs (10 * k + 3)), .int (xs (10 * k + 4)), .int (xs (10 * k + 5))]) (rest := [.int _]) dL_law_1169 kL_law_125 hM1.1.ob (m_auction _ hM1.1 hM1.2.1 hL.1.okN (xs (10 * k + 1)) (xs (10 * k + 2)) (xs (10 * k + 3)) (xs (10 * k + 4)) (xs (10 * k + 5))) rfl (Nat.le_of_ble_eq_true rfl) (by decide) ⟨by show cells + 2 + 0 ≤ 600000; omega, by show slots + 18 + 0 ≤ 7302250; omega⟩ ?_
  rintro _ _ I2 J2 _ ⟨rfl, rfl, rfl, hX⟩
  have hL2 := LI.z hK1 hM1 hX
  change WP E 4 (cells + 2 + 0) (slots + 18 + 0) T1 I2 J2 R1 1172 [(0, .ref b), (1, .ref (ca 0)), (2, .ref m), (3, .int (nI (10 * k)))] [.int _, .int _]
  refine wp_icmp_eq hW.1 1377 dL_law_1172 (by decide) (fun _ => ?_) (fun z => absurd rfl z)
  refine wp_widen (k := cells + 2) (n := slots + 18) (by omega) (by omega) ?_
  exact hn _ _ _ _ _ _ hL2
set_option maxRecDepth 100000 in
set_option maxHeartbeats 4000000 in
theorem law_24 {E : gEnv} {b L : Nat} {xs : Nat → Int32} (hW : LW E b L xs) {k cells slots : Nat} (hk : 10 * k + 10 ≤ L) (hc : cells + 2 ≤ 600000) (hs : slots + 18 ≤ 7302250) {T : gSh} {I : gI} {J : gJ} {R : gR} {ca : Nat → Nat} {m : Nat} {ad : Nat → Nat} {a : gI} {n : gJ} (hL : LI T I J R ca m ad a n) (hn : ∀ (T : gSh) (I : gI) (J : gJ) (R : gR) (a : gI) (n : gJ), LI T I J R ca m ad a n → WP E 4 (cells + 2) (slots + 18) T I J R 1377 [(0, .ref b), (1, .ref (ca 0)), (2, .ref m), (3, .int (nI (10 * k)))] []) : WP E 4 cells slots T I J R 1177 [(0, .ref b), (1, .ref (ca 0)), (2, .ref m), (3, .int (nI (10 * k)))] [] := by
  refine wp_aload_n hW.1 1 dL_law_1177 rfl rfl ?_
  refine wp_aload_n hW.1 0 dL_law_1178 rfl rfl ?_
  refine wp_iload_n hW.1 3 dL_law_1179 rfl rfl ?_
  refine wp_iconst hW.1 1 dL_law_1180 (by decide) ?_
  refine wp_iadd hW.1 dL_law_1181 ?_
  refine wp_eqi (nI_add (10 * k) 1) ?_
  refine wp_sld hW (j := 10 * k + 1) rfl (by omega) dL_law_1182 ?_
  refine wp_callV hW.1 (As := [.int (xs (10 * k + 1))]) (rest := []) dL_law_1183 kL_law_126 (hL.1.1.ob 0 (by decide) rfl) (c_sold _ hL.1 (xs (10 * k + 1))) rfl (Nat.le_of_ble_eq_true rfl) (by decide) ⟨by show cells + 0 ≤ 600000; omega, by show slots + 0 ≤ 7302250; omega⟩ ?_
  rintro _ T1 I1 J1 R1 ⟨rfl, hF, hK1⟩
  have hM1 := hL.fr hF
  refine wp_widen (k := cells + 0) (n := slots + 0) (Nat.le_refl _) (Nat.le_refl _) ?_
  change WP E 4 (cells + 0) (slots + 0) T1 I1 J1 R1 1186 [(0, .ref b), (1, .ref (ca 0)), (2, .ref m), (3, .int (nI (10 * k)))] [.int _]
  refine wp_aload_n hW.1 2 dL_law_1186 rfl rfl ?_
  refine wp_aload_n hW.1 0 dL_law_1187 rfl rfl ?_
  refine wp_iload_n hW.1 3 dL_law_1188 rfl rfl ?_
  refine wp_iconst hW.1 1 dL_law_1189 (by decide) ?_
  refine wp_iadd hW.1 dL_law_1190 ?_
  refine wp_eqi (nI_add (10 * k) 1) ?_
  refine wp_sld hW (j := 10 * k + 1) rfl (by omega) dL_law_1191 ?_
  refine wp_callV hW.1 (As := [.int (xs (10 * k + 1))]) (rest := [.int _]) dL_law_1192 kL_law_130 hM1.1.ob (m_sold _ hM1.1 hM1.2.1  (xs (10 * k + 1))) rfl (Nat.le_of_ble_eq_true rfl) (by decide) ⟨by show cells + 0 + 0 ≤ 600000; omega, by show slots + 0 + 0 ≤ 7302250; omega⟩ ?_
  rintro _ _ I2 J2 _ ⟨rfl, rfl, rfl, hX⟩
  have hL2 := LI.z hK1 hM1 hX
  change WP E 4 (cells + 0 + 0) (slots + 0 + 0) T1 I2 J2 R1 1195 [(0, .ref b), (1, .ref (ca 0)), (2, .ref m), (3, .int (nI (10 * k)))] [.int _, .int _]
  refine wp_icmp_eq hW.1 1377 dL_law_1195 (by decide) (fun _ => ?_) (fun z => absurd rfl z)
  refine wp_widen (k := cells + 2) (n := slots + 18) (by omega) (by omega) ?_
  exact hn _ _ _ _ _ _ hL2
set_option maxRecDepth 100000 in
set_option maxHeartbeats 4000000 in
theorem law_25 {E : gEnv} {b L : Nat} {xs : Nat → Int32} (hW : LW E b L xs) {k cells slots : Nat} (hk : 10 * k + 10 ≤ L) (hc : cells + 2 ≤ 600000) (hs : slots + 18 ≤ 7302250) {T : gSh} {I : gI} {J : gJ} {R : gR} {ca : Nat → Nat} {m : Nat} {ad : Nat → Nat} {a : gI} {n : gJ} (hL : LI T I J R ca m ad a n) (hn : ∀ (T : gSh) (I : gI) (J : gJ) (R : gR) (a : gI) (n : gJ), LI T I J R ca m ad a n → WP E 4 (cells + 2) (slots + 18) T I J R 1377 [(0, .ref b), (1, .ref (ca 0)), (2, .ref m), (3, .int (nI (10 * k)))] []) : WP E 4 cells slots T I J R 1200 [(0, .ref b), (1, .ref (ca 0)), (2, .ref m), (3, .int (nI (10 * k)))] [] := by
  refine wp_aload_n hW.1 1 dL_law_1200 rfl rfl ?_
  refine wp_aload_n hW.1 0 dL_law_1201 rfl rfl ?_
  refine wp_iload_n hW.1 3 dL_law_1202 rfl rfl ?_
  refine wp_iconst hW.1 1 dL_law_1203 (by decide) ?_
  refine wp_iadd hW.1 dL_law_1204 ?_
  refine wp_eqi (nI_add (10 * k) 1) ?_
  refine wp_sld hW (j := 10 * k + 1) rfl (by omega) dL_law_1205 ?_
  refine wp_aload_n hW.1 0 dL_law_1206 rfl rfl ?_
  refine wp_iload_n hW.1 3 dL_law_1207 rfl rfl ?_
  refine wp_iconst hW.1 2 dL_law_1208 (by decide) ?_
  refine wp_iadd hW.1 dL_law_1209 ?_
  refine wp_eqi (nI_add (10 * k) 2) ?_
  refine wp_sld hW (j := 10 * k + 2) rfl (by omega) dL_law_1210 ?_
  refine wp_aload_n hW.1 0 dL_law_1211 rfl rfl ?_
  refine wp_iload_n hW.1 3 dL_law_1212 rfl rfl ?_
  refine wp_iconst hW.1 3 dL_law_1213 (by decide) ?_
  refine wp_iadd hW.1 dL_law_1214 ?_
  refine wp_eqi (nI_add (10 * k) 3) ?_
  refine wp_sld hW (j := 10 * k + 3) rfl (by omega) dL_law_1215 ?_
  refine wp_aload_n hW.1 0 dL_law_1216 rfl rfl ?_
  refine wp_iload_n hW.1 3 dL_law_1217 rfl rfl ?_
  refine wp_iconst hW.1 4 dL_law_1218 (by decide) ?_
  refine wp_iadd hW.1 dL_law_1219 ?_
  refine wp_eqi (nI_add (10 * k) 4) ?_
  refine wp_sld hW (j := 10 * k + 4) rfl (by omega) dL_law_1220 ?_
  refine wp_aload_n hW.1 0 dL_law_1221 rfl rfl ?_
  refine wp_iload_n hW.1 3 dL_law_1222 rfl rfl ?_
  refine wp_iconst hW.1 5 dL_law_1223 (by decide) ?_
  refine wp_iadd hW.1 dL_law_1224 ?_
  refine wp_eqi (nI_add (10 * k) 5) ?_
  refine wp_sld hW (j := 10 * k + 5) rfl (by omega) dL_law_1225 ?_
  refine wp_aload_n hW.1 0 dL_law_1226 rfl rfl ?_
  refine wp_iload_n hW.1 3 dL_law_1227 rfl rfl ?_
  refine wp_bipush hW.1 6 dL_law_1228 (by decide) ?_
  refine wp_iadd hW.1 dL_law_1230 ?_
  refine wp_eqi (nI_add (10 * k) 6) ?_
  refine wp_sld hW (j := 10 * k + 6) rfl (by omega) dL_law_1231 ?_
  refine wp_aload_n hW.1 0 dL_law_1232 rfl rfl ?_
  refine wp_iload_n hW.1 3 dL_law_1233 rfl rfl ?_
  refine wp_bipush hW.1 7 dL_law_1234 (by decide) ?_
  refine wp_iadd hW.1 dL_law_1236 ?_
  refine wp_eqi (nI_add (10 * k) 7) ?_
  refine wp_sld hW (j := 10 * k + 7) rfl (by omega) dL_law_1237 ?_
  refine wp_aload_n hW.1 0 dL_law_1238 rfl rfl ?_
  refine wp_iload_n hW.1 3 dL_law_1239 rfl rfl ?_
  refine wp_bipush hW.1 8 dL_law_1240 (by decide) ?_
  refine wp_iadd hW.1 dL_law_1242 ?_
  refine wp_eqi (nI_add (10 * k) 8) ?_
  refine wp_sld hW (j := 10 * k + 8) rfl (by omega) dL_law_1243 ?_
  refine wp_aload_n hW.1 0 dL_law_1244 rfl rfl ?_
  refine wp_iload_n hW.1 3 dL_law_1245 rfl rfl ?_
  refine wp_bipush hW.1 9 dL_law_1246 (by decide) ?_
  refine wp_iadd hW.1 dL_law_1248 ?_
  refine wp_eqi (nI_add (10 * k) 9) ?_
  refine wp_sld hW (j := 10 * k + 9) rfl (by omega) dL_law_1249 ?_
  refine wp_callV hW.1 (As := [.int (xs (10 * k + 1)), .int (xs (10 * k + 2)), .int (xs (10 * k + 3)), .int (xs (10 * k + 4)), .int (xs (10 * k + 5)), .int (xs (10 * k + 6)), .int (xs (10 * k + 7)), .int (xs (10 * k + 8)), .int (xs (10 * k + 9))]) (rest := []) dL_law_1250 kL_law_131 (hL.1.1.ob 0 (by decide) rfl) (c_offer _ hL.1 (xs (10 * k + 1)) (xs (10 * k + 2)) (xs (10 * k + 3)) (xs (10 * k + 4)) (xs (10 * k + 5)) (xs (10 * k + 6)) (xs (10 * k + 7)) (xs (10 * k + 8)) (xs (10 * k + 9))) rfl (Nat.le_of_ble_eq_true rfl) (by decide) ⟨by show cells + 2 ≤ 600000; omega, by show slots + 10 ≤ 7302250; omega⟩ ?_
  rintro _ T1 I1 J1 R1 ⟨rfl, hF, hK1⟩
  have hM1 := hL.fr hF
  refine wp_widen (k := cells + 2) (n := slots + 10) (Nat.le_refl _) (Nat.le_refl _) ?_
  change WP E 4 (cells + 2) (slots + 10) T1 I1 J1 R1 1253 [(0, .ref b), (1, .ref (ca 0)), (2, .ref m), (3, .int (nI (10 * k)))] [.int _]
  refine wp_aload_n hW.1 2 dL_law_1253 rfl rfl ?_
  refine wp_aload_n hW.1 0 dL_law_1254 rfl rfl ?_
  refine wp_iload_n hW.1 3 dL_law_1255 rfl rfl ?_
  refine wp_iconst hW.1 1 dL_law_1256 (by decide) ?_
  refine wp_iadd hW.1 dL_law_1257 ?_
  refine wp_eqi (nI_add (10 * k) 1) ?_
  refine wp_sld hW (j := 10 * k + 1) rfl (by omega) dL_law_1258 ?_
  refine wp_aload_n hW.1 0 dL_law_1259 rfl rfl ?_
  refine wp_iload_n hW.1 3 dL_law_1260 rfl rfl ?_
  refine wp_iconst hW.1 2 dL_law_1261 (by decide) ?_
  refine wp_iadd hW.1 dL_law_1262 ?_
  refine wp_eqi (nI_add (10 * k) 2) ?_
  refine wp_sld hW (j := 10 * k + 2) rfl (by omega) dL_law_1263 ?_
  refine wp_aload_n hW.1 0 dL_law_1264 rfl rfl ?_
  refine wp_iload_n hW.1 3 dL_law_1265 rfl rfl ?_
  refine wp_iconst hW.1 3 dL_law_1266 (by decide) ?_
  refine wp_iadd hW.1 dL_law_1267 ?_
  refine wp_eqi (nI_add (10 * k) 3) ?_
  refine wp_sld hW (j := 10 * k + 3) rfl (by omega) dL_law_1268 ?_
  refine wp_aload_n hW.1 0 dL_law_1269 rfl rfl ?_
  refine wp_iload_n hW.1 3 dL_law_1270 rfl rfl ?_
  refine wp_iconst hW.1 4 dL_law_1271 (by decide) ?_
  refine wp_iadd hW.1 dL_law_1272 ?_
  refine wp_eqi (nI_add (10 * k) 4) ?_
  refine wp_sld hW (j := 10 * k + 4) rfl (by omega) dL_law_1273 ?_
  refine wp_aload_n hW.1 0 dL_law_1274 rfl rfl ?_
  refine wp_iload_n hW.1 3 dL_law_1275 rfl rfl ?_
  refine wp_iconst hW.1 5 dL_law_1276 (by decide) ?_
  refine wp_iadd hW.1 dL_law_1277 ?_
  refine wp_eqi (nI_add (10 * k) 5) ?_
  refine wp_sld hW (j := 10 * k + 5) rfl (by omega) dL_law_1278 ?_
  refine wp_aload_n hW.1 0 dL_law_1279 rfl rfl ?_
  refine wp_iload_n hW.1 3 dL_law_1280 rfl rfl ?_
  refine wp_bipush hW.1 6 dL_law_1281 (by decide) ?_
  refine wp_iadd hW.1 dL_law_1283 ?_
  refine wp_eqi (nI_add (10 * k) 6) ?_
  refine wp_sld hW (j := 10 * k + 6) rfl (by omega) dL_law_1284 ?_
  refine wp_aload_n hW.1 0 dL_law_1285 rfl rfl ?_
  refine wp_iload_n hW.1 3 dL_law_1286 rfl rfl ?_
  refine wp_bipush hW.1 7 dL_law_1287 (by decide) ?_
  refine wp_iadd hW.1 dL_law_1289 ?_
  refine wp_eqi (nI_add (10 * k) 7) ?_
  refine wp_sld hW (j := 10 * k + 7) rfl (by omega) dL_law_1290 ?_
  refine wp_aload_n hW.1 0 dL_law_1291 rfl rfl ?_
  refine wp_iload_n hW.1 3 dL_law_1292 rfl rfl ?_
  refine wp_bipush hW.1 8 dL_law_1293 (by decide) ?_
  refine wp_iadd hW.1 dL_law_1295 ?_
  refine wp_eqi (nI_add (10 * k) 8) ?_
  refine wp_sld hW (j := 10 * k + 8) rfl (by omega) dL_law_1296 ?_
  refine wp_aload_n hW.1 0 dL_law_1297 rfl rfl ?_
  refine wp_iload_n hW.1 3 dL_law_1298 rfl rfl ?_
  refine wp_bipush hW.1 9 dL_law_1299 (by decide) ?_
  refine wp_iadd hW.1 dL_law_1301 ?_
  refine wp_eqi (nI_add (10 * k) 9) ?_
  refine wp_sld hW (j := 10 * k + 9) rfl (by omega) dL_law_1302 ?_
  refine wp_callV hW.1 (As := [.int (xs (10 * k + 1)), .int (xs (10 * k + 2)), .int (xs (10 * k + 3)), .int (xs (10 * k + 4)), .int (xs (10 * k + 5)), .int (xs (10 * k + 6)), .int (xs (10 * k + 7)), .int (xs (10 * k + 8)), .int (xs (10 * k + 9))]) (rest := [.int _]) dL_law_1303 kL_law_135 hM1.1.ob (m_offer _ hM1.1 hM1.2.1 hL.1.okN hL.1.okB hL.1.okG hL.1.okO hL.1.okF (xs (10 * k + 1)) (xs (10 * k + 2)) (xs (10 * k + 3)) (xs (10 * k + 4)) (xs (10 * k + 5)) (xs (10 * k + 6)) (xs (10 * k + 7)) (xs (10 * k + 8)) (xs (10 * k + 9))) rfl (Nat.le_of_ble_eq_true rfl) (by decide) ⟨by show cells + 2 + 0 ≤ 600000; omega, by show slots + 10 + 0 ≤ 7302250; omega⟩ ?_
  rintro _ _ I2 J2 _ ⟨rfl, rfl, rfl, hX⟩
  have hL2 := LI.z hK1 hM1 hX
  change WP E 4 (cells + 2 + 0) (slots + 10 + 0) T1 I2 J2 R1 1306 [(0, .ref b), (1, .ref (ca 0)), (2, .ref m), (3, .int (nI (10 * k)))] [.int _, .int _]
  refine wp_icmp_eq hW.1 1377 dL_law_1306 (by decide) (fun _ => ?_) (fun z => absurd rfl z)
  refine wp_widen (k := cells + 2) (n := slots + 18) (by omega) (by omega) ?_
  exact hn _ _ _ _ _ _ hL2
set_option maxRecDepth 100000 in
set_option maxHeartbeats 4000000 in
theorem law_26 {E : gEnv} {b L : Nat} {xs : Nat → Int32} (hW : LW E b L xs) {k cells slots : Nat} (hk : 10 * k + 10 ≤ L) (hc : cells + 2 ≤ 600000) (hs : slots + 18 ≤ 7302250) {T : gSh} {I : gI} {J : gJ} {R : gR} {ca : Nat → Nat} {m : Nat} {ad : Nat → Nat} {a : gI} {n : gJ} (hL : LI T I J R ca m ad a n) (hn : ∀ (T : gSh) (I : gI) (J : gJ) (R : gR) (a : gI) (n : gJ), LI T I J R ca m ad a n → WP E 4 (cells + 2) (slots + 18) T I J R 1377 [(0, .ref b), (1, .ref (ca 0)), (2, .ref m), (3, .int (nI (10 * k)))] []) : WP E 4 cells slots T I J R 1311 [(0, .ref b), (1, .ref (ca 0)), (2, .ref m), (3, .int (nI (10 * k)))] [] := by
  refine wp_aload_n hW.1 1 dL_law_1311 rfl rfl ?_
  refine wp_aload_n hW.1 0 dL_law_1312 rfl rfl ?_
  refine wp_iload_n hW.1 3 dL_law_1313 rfl rfl ?_
  refine wp_iconst hW.1 1 dL_law_1314 (by decide) ?_
  refine wp_iadd hW.1 dL_law_1315 ?_
  refine wp_eqi (nI_add (10 * k) 1) ?_
  refine wp_sld hW (j := 10 * k + 1) rfl (by omega) dL_law_1316 ?_
  refine wp_aload_n hW.1 0 dL_law_1317 rfl rfl ?_
  refine wp_iload_n hW.1 3 dL_law_1318 rfl rfl ?_
  refine wp_iconst hW.1 2 dL_law_1319 (by decide) ?_
  refine wp_iadd hW.1 dL_law_1320 ?_
  refine wp_eqi (nI_add (10 * k) 2) ?_
  refine wp_sld hW (j := 10 * k + 2) rfl (by omega) dL_law_1321 ?_
  refine wp_callV hW.1 (As := [.int (xs (10 * k + 1)), .int (xs (10 * k + 2))]) (rest := []) dL_law_1322 kL_law_136 (hL.1.1.ob 0 (by decide) rfl) (c_take _ hL.1 (xs (10 * k + 1)) (xs (10 * k + 2))) rfl (Nat.le_of_ble_eq_true rfl) (by decide) ⟨by show cells + 1 ≤ 600000; omega, by show slots + 5 ≤ 7302250; omega⟩ ?_
  rintro _ T1 I1 J1 R1 ⟨rfl, hF, hK1⟩
  have hM1 := hL.fr hF
  refine wp_widen (k := cells + 1) (n := slots + 5) (Nat.le_refl _) (Nat.le_refl _) ?_
  change WP E 4 (cells + 1) (slots + 5) T1 I1 J1 R1 1325 [(0, .ref b), (1, .ref (ca 0)), (2, .ref m), (3, .int (nI (10 * k)))] [.int _]
  refine wp_aload_n hW.1 2 dL_law_1325 rfl rfl ?_
  refine wp_aload_n hW.1 0 dL_law_1326 rfl rfl ?_
  refine wp_iload_n hW.1 3 dL_law_1327 rfl rfl ?_
  refine wp_iconst hW.1 1 dL_law_1328 (by decide) ?_
  refine wp_iadd hW.1 dL_law_1329 ?_
  refine wp_eqi (nI_add (10 * k) 1) ?_
  refine wp_sld hW (j := 10 * k + 1) rfl (by omega) dL_law_1330 ?_
  refine wp_aload_n hW.1 0 dL_law_1331 rfl rfl ?_
  refine wp_iload_n hW.1 3 dL_law_1332 rfl rfl ?_
  refine wp_iconst hW.1 2 dL_law_1333 (by decide) ?_
  refine wp_iadd hW.1 dL_law_1334 ?_
  refine wp_eqi (nI_add (10 * k) 2) ?_
  refine wp_sld hW (j := 10 * k + 2) rfl (by omega) dL_law_1335 ?_
  refine wp_callV hW.1 (As := [.int (xs (10 * k + 1)), .int (xs (10 * k + 2))]) (rest := [.int _]) dL_law_1336 kL_law_139 hM1.1.ob (m_take _ hM1.1 hM1.2.1 hL.1.okG hL.1.okO hL.1.okF (xs (10 * k + 1)) (xs (10 * k + 2))) rfl (Nat.le_of_ble_eq_true rfl) (by decide) ⟨by show cells + 1 + 0 ≤ 600000; omega, by show slots + 5 + 0 ≤ 7302250; omega⟩ ?_
  rintro _ _ I2 J2 _ ⟨rfl, rfl, rfl, hX⟩
  have hL2 := LI.z hK1 hM1 hX
  change WP E 4 (cells + 1 + 0) (slots + 5 + 0) T1 I2 J2 R1 1339 [(0, .ref b), (1, .ref (ca 0)), (2, .ref m), (3, .int (nI (10 * k)))] [.int _, .int _]
  refine wp_icmp_eq hW.1 1377 dL_law_1339 (by decide) (fun _ => ?_) (fun z => absurd rfl z)
  refine wp_widen (k := cells + 2) (n := slots + 18) (by omega) (by omega) ?_
  exact hn _ _ _ _ _ _ hL2
set_option maxRecDepth 100000 in
set_option maxHeartbeats 4000000 in
theorem law_27 {E : gEnv} {b L : Nat} {xs : Nat → Int32} (hW : LW E b L xs) {k cells slots : Nat} (hk : 10 * k + 10 ≤ L) (hc : cells + 2 ≤ 600000) (hs : slots + 18 ≤ 7302250) {T : gSh} {I : gI} {J : gJ} {R : gR} {ca : Nat → Nat} {m : Nat} {ad : Nat → Nat} {a : gI} {n : gJ} (hL : LI T I J R ca m ad a n) (hn : ∀ (T : gSh) (I : gI) (J : gJ) (R : gR) (a : gI) (n : gJ), LI T I J R ca m ad a n → WP E 4 (cells + 2) (slots + 18) T I J R 1377 [(0, .ref b), (1, .ref (ca 0)), (2, .ref m), (3, .int (nI (10 * k)))] []) : WP E 4 cells slots T I J R 1344 [(0, .ref b), (1, .ref (ca 0)), (2, .ref m), (3, .int (nI (10 * k)))] [] := by
  refine wp_aload_n hW.1 1 dL_law_1344 rfl rfl ?_
  refine wp_aload_n hW.1 0 dL_law_1345 rfl rfl ?_
  refine wp_iload_n hW.1 3 dL_law_1346 rfl rfl ?_
  refine wp_iconst hW.1 1 dL_law_1347 (by decide) ?_
  refine wp_iadd hW.1 dL_law_1348 ?_
  refine wp_eqi (nI_add (10 * k) 1) ?_
  refine wp_sld hW (j := 10 * k + 1) rfl (by omega) dL_law_1349 ?_
  refine wp_aload_n hW.1 0 dL_law_1350 rfl rfl ?_
  refine wp_iload_n hW.1 3 dL_law_1351 rfl rfl ?_
  refine wp_iconst hW.1 2 dL_law_1352 (by decide) ?_
  refine wp_iadd hW.1 dL_law_1353 ?_
  refine wp_eqi (nI_add (10 * k) 2) ?_
  refine wp_sld hW (j := 10 * k + 2) rfl (by omega) dL_law_1354 ?_
  refine wp_callV hW.1 (As := [.int (xs (10 * k + 1)), .int (xs (10 * k + 2))]) (rest := []) dL_law_1355 kL_law_140 (hL.1.1.ob 0 (by decide) rfl) (c_state _ hL.1 (xs (10 * k + 1)) (xs (10 * k + 2))) rfl (Nat.le_of_ble_eq_true rfl) (by decide) ⟨by show cells + 0 ≤ 600000; omega, by show slots + 0 ≤ 7302250; omega⟩ ?_
  rintro _ T1 I1 J1 R1 ⟨rfl, hF, hK1⟩
  have hM1 := hL.fr hF
  refine wp_widen (k := cells + 0) (n := slots + 0) (Nat.le_refl _) (Nat.le_refl _) ?_
  change WP E 4 (cells + 0) (slots + 0) T1 I1 J1 R1 1358 [(0, .ref b), (1, .ref (ca 0)), (2, .ref m), (3, .int (nI (10 * k)))] [.int _]
  refine wp_aload_n hW.1 2 dL_law_1358 rfl rfl ?_
  refine wp_aload_n hW.1 0 dL_law_1359 rfl rfl ?_
  refine wp_iload_n hW.1 3 dL_law_1360 rfl rfl ?_
  refine wp_iconst hW.1 1 dL_law_1361 (by decide) ?_
  refine wp_iadd hW.1 dL_law_1362 ?_
  refine wp_eqi (nI_add (10 * k) 1) ?_
  refine wp_sld hW (j := 10 * k + 1) rfl (by omega) dL_law_1363 ?_
  refine wp_aload_n hW.1 0 dL_law_1364 rfl rfl ?_
  refine wp_iload_n hW.1 3 dL_law_1365 rfl rfl ?_
  refine wp_iconst hW.1 2 dL_law_1366 (by decide) ?_
  refine wp_iadd hW.1 dL_law_1367 ?_
  refine wp_eqi (nI_add (10 * k) 2) ?_
  refine wp_sld hW (j := 10 * k + 2) rfl (by omega) dL_law_1368 ?_
  refine wp_callV hW.1 (As := [.int (xs (10 * k + 1)), .int (xs (10 * k + 2))]) (rest := [.int _]) dL_law_1369 kL_law_143 hM1.1.ob (m_state _ hM1.1 hM1.2.1 hL.1.okF (xs (10 * k + 1)) (xs (10 * k + 2))) rfl (Nat.le_of_ble_eq_true rfl) (by decide) ⟨by show cells + 0 + 0 ≤ 600000; omega, by show slots + 0 + 0 ≤ 7302250; omega⟩ ?_
  rintro _ _ I2 J2 _ ⟨rfl, rfl, rfl, hX⟩
  have hL2 := LI.z hK1 hM1 hX
  change WP E 4 (cells + 0 + 0) (slots + 0 + 0) T1 I2 J2 R1 1372 [(0, .ref b), (1, .ref (ca 0)), (2, .ref m), (3, .int (nI (10 * k)))] [.int _, .int _]
  refine wp_icmp_eq hW.1 1377 dL_law_1372 (by decide) (fun _ => ?_) (fun z => absurd rfl z)
  refine wp_widen (k := cells + 2) (n := slots + 18) (by omega) (by omega) ?_
  exact hn _ _ _ _ _ _ hL2

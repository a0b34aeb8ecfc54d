/-! the law's cases -/
section CASES
variable (g : GG) {A A0 : Nat → Nat → Nat} {B : Nat} {σ : ST} {x : XT} {M : Mem}
theorem case_purge (hI : INV B σ) (hB : 2000000 ≤ B ∧ B + 1000 < 2147483648) (hA : AK A0 A) (hW : W2 g A σ σ x M) (hb : rbk σ x.rb) {bk bn i : Nat} {PL : PO} (hK : LK g A0 B bk bn PL i) (hi : i + 3 < g.L) (hL : g.L ≤ 2048) : tri g mL_law (bk + 16) (bn + 1000) PL M 648 [(0, .ref g.b), (1, .ref (A0 0 0)), (2, .ref (A0 20 0)), (3, .ref (A0 22 0)), (4, .int (nI i))] [] := by
  have hl := l_purge g hI hB hW (g.xs (i + 1)) (g.xs (i + 2))
  rw [hA.c, hA.o] at hl
  have hoc := oc_purge σ (g.xs (i + 1)) (g.xs (i + 2))
  refine z_aload_n dL_law_648 rfl rfl ?_
  refine z_aload_n dL_law_649 rfl rfl ?_
  refine z_iload dL_law_650 rfl ?_
  refine z_ic ki_1 dL_law_652 ?_
  refine z_iadd dL_law_653 ?_
  refine z_sld dL_law_654 (nI_add i 1) (by omega) hL ?_
  refine z_aload_n dL_law_655 rfl rfl ?_
  refine z_iload dL_law_656 rfl ?_
  refine z_ic ki_2 dL_law_658 ?_
  refine z_iadd dL_law_659 ?_
  refine z_sld dL_law_660 (nI_add i 2) (by omega) hL ?_
  refine z_aload_n dL_law_661 rfl rfl ?_
  refine z_isXQ (dd := mL_purge) dL_law_662 cw_RL_106 rfl ⟨by decide, by decide⟩ (n := 4) (by decide +kernel) hl ⟨⟨by decide, by decide⟩, by omega, by omega⟩ rfl rfl (Nat.le_of_ble_eq_true rfl) (fun M662 hQ662 => ?_)
  refine z_istore dL_law_665 (by decide) ?_
  refine z_aload_n dL_law_667 rfl rfl ?_
  refine z_aload_n dL_law_668 rfl rfl ?_
  refine z_iload dL_law_669 rfl ?_
  refine z_ic ki_1 dL_law_671 ?_
  refine z_iadd dL_law_672 ?_
  refine z_sld dL_law_673 (nI_add i 1) (by omega) hL ?_
  refine z_aload_n dL_law_674 rfl rfl ?_
  refine z_iload dL_law_675 rfl ?_
  refine z_ic ki_2 dL_law_677 ?_
  refine z_iadd dL_law_678 ?_
  refine z_sld dL_law_679 (nI_add i 2) (by omega) hL ?_
  obtain ⟨A2, τ, rc, f, hA2, ⟨hI2, hs2, hr2⟩, hf2, hW2⟩ := hQ662
  have hMm := hW2.m
  have hmc := m_purge g (x := (x.srch rc).sout f) hI hb hW2 (g.xs (i + 1)) (g.xs (i + 2))
  rw [hA2.m, hA.m] at hMm hmc
  refine z_ivQ dL_law_680 cv_RL_108 hMm (hmc) ⟨⟨by decide, by decide⟩, (by first | exact Nat.zero_le _ | decide | omega), (by first | exact Nat.zero_le _ | decide | omega)⟩ rfl rfl (Nat.le_of_ble_eq_true rfl) (fun M680 hQ680 => ?_)
  refine z_istore dL_law_683 (by decide) ?_
  refine z_aload_n dL_law_685 rfl rfl ?_
  obtain ⟨x2, hW3, ht3, ho3, hr3⟩ := hQ680
  have hM3 := hW3.m
  have hth := c_X6_thrown g hW3
  rw [hA2.m, hA.m] at hM3 hth
  rw [ht3] at hth
  refine z_ivI dL_law_686 cv_RL_81 hM3 (hth) ⟨⟨by decide, by decide⟩, (by first | exact Nat.zero_le _ | decide | omega), (by first | exact Nat.zero_le _ | decide | omega)⟩ rfl rfl (Nat.le_of_ble_eq_true rfl) ?_
  refine z_iload dL_law_689 rfl ?_
  refine z_icmp_eq (tgt := 696) dL_law_691 (by decide) (fun h691 => ?_) (fun h691 => absurd rfl h691)
  refine z_iload dL_law_696 rfl ?_
  refine z_if_ne (tgt := 713) dL_law_698 (by decide) (fun h698 => ?_) (fun h698 => ?_)
  · refine z_goto (tgt := 1314) dL_law_713 (by decide) ?_
    refine tri.take 5 ?_
    exact hK.go (hA.trans hA2) hI2 hs2 hr2 hb rfl hW3 hr3 (by omega) (by omega)
  · refine z_aload_n dL_law_701 rfl rfl ?_
    refine z_ic ki_0 dL_law_702 ?_
    have h0 := nz0 (by omega) h698
    have hO3 := hW3.out_
    rw [hA2.o, hA.o] at hO3
    have hans := (congrFun ho3 0).trans (hf2 h0)
    refine z_laload dL_law_703 hO3 rfl (by decide) (by decide) ?_
    refine z_iload dL_law_704 rfl ?_
    refine z_i2l dL_law_706 ?_
    refine z_lcmp dL_law_707 ?_
    refine z_if_eq (tgt := 713) dL_law_708 (by decide) (fun h708 => ?_) (fun h708 => absurd (by rw [hans]; exact lg_self _) h708)
    refine z_goto (tgt := 1314) dL_law_713 (by decide) ?_
    refine tri.take 5 ?_
    exact hK.go (hA.trans hA2) hI2 hs2 hr2 hb rfl hW3 hr3 (by omega) (by omega)
theorem case_versions (hI : INV B σ) (hB : 2000000 ≤ B ∧ B + 1000 < 2147483648) (hA : AK A0 A) (hW : W2 g A σ σ x M) (hb : rbk σ x.rb) {bk bn i : Nat} {PL : PO} (hK : LK g A0 B bk bn PL i) (hi : i + 3 < g.L) (hL : g.L ≤ 2048) : tri g mL_law (bk + 16) (bn + 1000) PL M 716 [(0, .ref g.b), (1, .ref (A0 0 0)), (2, .ref (A0 20 0)), (3, .ref (A0 22 0)), (4, .int (nI i))] [] := by
  have hl := l_versions g hI hB hW (g.xs (i + 1))
  rw [hA.c, hA.o] at hl
  have hoc := oc_versions σ (g.xs (i + 1))
  refine z_aload_n dL_law_716 rfl rfl ?_
  refine z_aload_n dL_law_717 rfl rfl ?_
  refine z_iload dL_law_718 rfl ?_
  refine z_ic ki_1 dL_law_720 ?_
  refine z_iadd dL_law_721 ?_
  refine z_sld dL_law_722 (nI_add i 1) (by omega) hL ?_
  refine z_aload_n dL_law_723 rfl rfl ?_
  refine z_isXQ (dd := mL_versions) dL_law_724 cw_RL_109 rfl ⟨by decide, by decide⟩ (n := 3) (by decide +kernel) hl ⟨⟨by decide, by decide⟩, by omega, by omega⟩ rfl rfl (Nat.le_of_ble_eq_true rfl) (fun M724 hQ724 => ?_)
  refine z_istore dL_law_727 (by decide) ?_
  refine z_aload_n dL_law_729 rfl rfl ?_
  refine z_aload_n dL_law_730 rfl rfl ?_
  refine z_iload dL_law_731 rfl ?_
  refine z_ic ki_1 dL_law_733 ?_
  refine z_iadd dL_law_734 ?_
  refine z_sld dL_law_735 (nI_add i 1) (by omega) hL ?_
  obtain ⟨A2, τ, rc, f, hA2, ⟨hI2, hs2, hr2⟩, hf2, hW2⟩ := hQ724
  have hMm := hW2.m
  have hmc := m_versions g (x := (x.srch rc).sout f) hI hb hW2 (g.xs (i + 1))
  rw [hA2.m, hA.m] at hMm hmc
  refine z_ivQ dL_law_736 cv_RL_111 hMm (hmc) ⟨⟨by decide, by decide⟩, (by first | exact Nat.zero_le _ | decide | omega), (by first | exact Nat.zero_le _ | decide | omega)⟩ rfl rfl (Nat.le_of_ble_eq_true rfl) (fun M736 hQ736 => ?_)
  refine z_istore dL_law_739 (by decide) ?_
  refine z_aload_n dL_law_741 rfl rfl ?_
  obtain ⟨x2, hW3, ht3, ho3, hr3⟩ := hQ736
  have hM3 := hW3.m
  have hth := c_X6_thrown g hW3
  rw [hA2.m, hA.m] at hM3 hth
  rw [ht3] at hth
  refine z_ivI dL_law_742 cv_RL_81 hM3 (hth) ⟨⟨by decide, by decide⟩, (by first | exact Nat.zero_le _ | decide | omega), (by first | exact Nat.zero_le _ | decide | omega)⟩ rfl rfl (Nat.le_of_ble_eq_true rfl) ?_
  refine z_iload dL_law_745 rfl ?_
  refine z_icmp_eq (tgt := 752) dL_law_747 (by decide) (fun h747 => ?_) (fun h747 => absurd rfl h747)
  refine z_iload dL_law_752 rfl ?_
  refine z_if_ne (tgt := 769) dL_law_754 (by decide) (fun h754 => ?_) (fun h754 => ?_)
  · refine z_goto (tgt := 1314) dL_law_769 (by decide) ?_
    refine tri.take 5 ?_
    exact hK.go (hA.trans hA2) hI2 hs2 hr2 hb rfl hW3 hr3 (by omega) (by omega)
  · refine z_aload_n dL_law_757 rfl rfl ?_
    refine z_ic ki_0 dL_law_758 ?_
    have h0 := nz0 (by omega) h754
    have hO3 := hW3.out_
    rw [hA2.o, hA.o] at hO3
    have hans := (congrFun ho3 0).trans (hf2 h0)
    refine z_laload dL_law_759 hO3 rfl (by decide) (by decide) ?_
    refine z_iload dL_law_760 rfl ?_
    refine z_i2l dL_law_762 ?_
    refine z_lcmp dL_law_763 ?_
    refine z_if_eq (tgt := 769) dL_law_764 (by decide) (fun h764 => ?_) (fun h764 => absurd (by rw [hans]; exact lg_self _) h764)
    refine z_goto (tgt := 1314) dL_law_769 (by decide) ?_
    refine tri.take 5 ?_
    exact hK.go (hA.trans hA2) hI2 hs2 hr2 hb rfl hW3 hr3 (by omega) (by omega)
theorem case_unitOf (hI : INV B σ) (hB : 2000000 ≤ B ∧ B + 1000 < 2147483648) (hA : AK A0 A) (hW : W2 g A σ σ x M) (hb : rbk σ x.rb) {bk bn i : Nat} {PL : PO} (hK : LK g A0 B bk bn PL i) (hi : i + 3 < g.L) (hL : g.L ≤ 2048) : tri g mL_law (bk + 16) (bn + 1000) PL M 772 [(0, .ref g.b), (1, .ref (A0 0 0)), (2, .ref (A0 20 0)), (3, .ref (A0 22 0)), (4, .int (nI i))] [] := by
  have hl := l_unitOf g hI hB hW (g.xs (i + 1)) (g.xs (i + 2))
  rw [hA.c, hA.o] at hl
  have hoc := oc_unitOf σ (g.xs (i + 1)) (g.xs (i + 2))
  refine z_aload_n dL_law_772 rfl rfl ?_
  refine z_aload_n dL_law_773 rfl rfl ?_
  refine z_iload dL_law_774 rfl ?_
  refine z_ic ki_1 dL_law_776 ?_
  refine z_iadd dL_law_777 ?_
  refine z_sld dL_law_778 (nI_add i 1) (by omega) hL ?_
  refine z_aload_n dL_law_779 rfl rfl ?_
  refine z_iload dL_law_780 rfl ?_
  refine z_ic ki_2 dL_law_782 ?_
  refine z_iadd dL_law_783 ?_
  refine z_sld dL_law_784 (nI_add i 2) (by omega) hL ?_
  refine z_aload_n dL_law_785 rfl rfl ?_
  refine z_isXQ (dd := mL_unitOf) dL_law_786 cw_RL_112 rfl ⟨by decide, by decide⟩ (n := 4) (by decide +kernel) hl ⟨⟨by decide, by decide⟩, by omega, by omega⟩ rfl rfl (Nat.le_of_ble_eq_true rfl) (fun M786 hQ786 => ?_)
  refine z_istore dL_law_789 (by decide) ?_
  refine z_aload_n dL_law_791 rfl rfl ?_
  refine z_aload_n dL_law_792 rfl rfl ?_
  refine z_iload dL_law_793 rfl ?_
  refine z_ic ki_1 dL_law_795 ?_
  refine z_iadd dL_law_796 ?_
  refine z_sld dL_law_797 (nI_add i 1) (by omega) hL ?_
  refine z_aload_n dL_law_798 rfl rfl ?_
  refine z_iload dL_law_799 rfl ?_
  refine z_ic ki_2 dL_law_801 ?_
  refine z_iadd dL_law_802 ?_
  refine z_sld dL_law_803 (nI_add i 2) (by omega) hL ?_
  obtain ⟨A2, τ, rc, f, hA2, ⟨hI2, hs2, hr2⟩, hf2, hW2⟩ := hQ786
  have hMm := hW2.m
  have hmc := m_unitOf g (x := (x.srch rc).sout f) hI hb hW2 (g.xs (i + 1)) (g.xs (i + 2))
  rw [hA2.m, hA.m] at hMm hmc
  refine z_ivQ dL_law_804 cv_RL_114 hMm (hmc) ⟨⟨by decide, by decide⟩, (by first | exact Nat.zero_le _ | decide | omega), (by first | exact Nat.zero_le _ | decide | omega)⟩ rfl rfl (Nat.le_of_ble_eq_true rfl) (fun M804 hQ804 => ?_)
  refine z_istore dL_law_807 (by decide) ?_
  refine z_aload_n dL_law_809 rfl rfl ?_
  obtain ⟨x2, hW3, ht3, ho3, hr3⟩ := hQ804
  have hM3 := hW3.m
  have hth := c_X6_thrown g hW3
  rw [hA2.m, hA.m] at hM3 hth
  rw [ht3] at hth
  refine z_ivI dL_law_810 cv_RL_81 hM3 (hth) ⟨⟨by decide, by decide⟩, (by first | exact Nat.zero_le _ | decide | omega), (by first | exact Nat.zero_le _ | decide | omega)⟩ rfl rfl (Nat.le_of_ble_eq_true rfl) ?_
  refine z_iload dL_law_813 rfl ?_
  refine z_icmp_eq (tgt := 820) dL_law_815 (by decide) (fun h815 => ?_) (fun h815 => absurd rfl h815)
  refine z_iload dL_law_820 rfl ?_
  refine z_if_ne (tgt := 837) dL_law_822 (by decide) (fun h822 => ?_) (fun h822 => ?_)
  · refine z_goto (tgt := 1314) dL_law_837 (by decide) ?_
    refine tri.take 5 ?_
    exact hK.go (hA.trans hA2) hI2 hs2 hr2 hb rfl hW3 hr3 (by omega) (by omega)
  · refine z_aload_n dL_law_825 rfl rfl ?_
    refine z_ic ki_0 dL_law_826 ?_
    have h0 := nz0 (by omega) h822
    have hO3 := hW3.out_
    rw [hA2.o, hA.o] at hO3
    have hans := (congrFun ho3 0).trans (hf2 h0)
    refine z_laload dL_law_827 hO3 rfl (by decide) (by decide) ?_
    refine z_iload dL_law_828 rfl ?_
    refine z_i2l dL_law_830 ?_
    refine z_lcmp dL_law_831 ?_
    refine z_if_eq (tgt := 837) dL_law_832 (by decide) (fun h832 => ?_) (fun h832 => absurd (by rw [hans]; exact lg_self _) h832)
    refine z_goto (tgt := 1314) dL_law_837 (by decide) ?_
    refine tri.take 5 ?_
    exact hK.go (hA.trans hA2) hI2 hs2 hr2 hb rfl hW3 hr3 (by omega) (by omega)
theorem case_read (hI : INV B σ) (hB : 2000000 ≤ B ∧ B + 1000 < 2147483648) (hA : AK A0 A) (hW : W2 g A σ σ x M) (hb : rbk σ x.rb) {bk bn i : Nat} {PL : PO} (hK : LK g A0 B bk bn PL i) (hi : i + 3 < g.L) (hL : g.L ≤ 2048) : tri g mL_law (bk + 16) (bn + 1000) PL M 840 [(0, .ref g.b), (1, .ref (A0 0 0)), (2, .ref (A0 20 0)), (3, .ref (A0 22 0)), (4, .int (nI i))] [] := by
  have hl := l_read g hI hB hW (g.xs (i + 1)) (g.xs (i + 2))
  rw [hA.c, hA.o] at hl
  have hoc := oc_read σ (g.xs (i + 1)) (g.xs (i + 2))
  refine z_aload_n dL_law_840 rfl rfl ?_
  refine z_aload_n dL_law_841 rfl rfl ?_
  refine z_iload dL_law_842 rfl ?_
  refine z_ic ki_1 dL_law_844 ?_
  refine z_iadd dL_law_845 ?_
  refine z_sld dL_law_846 (nI_add i 1) (by omega) hL ?_
  refine z_aload_n dL_law_847 rfl rfl ?_
  refine z_iload dL_law_848 rfl ?_
  refine z_ic ki_2 dL_law_850 ?_
  refine z_iadd dL_law_851 ?_
  refine z_sld dL_law_852 (nI_add i 2) (by omega) hL ?_
  refine z_aload_n dL_law_853 rfl rfl ?_
  refine z_isXQ (dd := mL_read) dL_law_854 cw_RL_115 rfl ⟨by decide, by decide⟩ (n := 4) (by decide +kernel) hl ⟨⟨by decide, by decide⟩, by omega, by omega⟩ rfl rfl (Nat.le_of_ble_eq_true rfl) (fun M854 hQ854 => ?_)
  refine z_istore dL_law_857 (by decide) ?_
  refine z_aload_n dL_law_859 rfl rfl ?_
  refine z_aload_n dL_law_860 rfl rfl ?_
  refine z_iload dL_law_861 rfl ?_
  refine z_ic ki_1 dL_law_863 ?_
  refine z_iadd dL_law_864 ?_
  refine z_sld dL_law_865 (nI_add i 1) (by omega) hL ?_
  refine z_aload_n dL_law_866 rfl rfl ?_
  refine z_iload dL_law_867 rfl ?_
  refine z_ic ki_2 dL_law_869 ?_
  refine z_iadd dL_law_870 ?_
  refine z_sld dL_law_871 (nI_add i 2) (by omega) hL ?_
  obtain ⟨A2, τ, rc, f, hA2, ⟨hI2, hs2, hr2⟩, hf2, hW2⟩ := hQ854
  have hMm := hW2.m
  have hmc := m_read g (x := (x.srch rc).sout f) hI hb hW2 (g.xs (i + 1)) (g.xs (i + 2))
  rw [hA2.m, hA.m] at hMm hmc
  refine z_ivQ dL_law_872 cv_RL_117 hMm (hmc) ⟨⟨by decide, by decide⟩, (by first | exact Nat.zero_le _ | decide | omega), (by first | exact Nat.zero_le _ | decide | omega)⟩ rfl rfl (Nat.le_of_ble_eq_true rfl) (fun M872 hQ872 => ?_)
  refine z_istore dL_law_875 (by decide) ?_
  refine z_aload_n dL_law_877 rfl rfl ?_
  obtain ⟨x2, hW3, ht3, ho3, hr3⟩ := hQ872
  have hM3 := hW3.m
  have hth := c_X6_thrown g hW3
  rw [hA2.m, hA.m] at hM3 hth
  rw [ht3] at hth
  refine z_ivI dL_law_878 cv_RL_81 hM3 (hth) ⟨⟨by decide, by decide⟩, (by first | exact Nat.zero_le _ | decide | omega), (by first | exact Nat.zero_le _ | decide | omega)⟩ rfl rfl (Nat.le_of_ble_eq_true rfl) ?_
  refine z_iload dL_law_881 rfl ?_
  refine z_icmp_eq (tgt := 888) dL_law_883 (by decide) (fun h883 => ?_) (fun h883 => absurd rfl h883)
  refine z_iload dL_law_888 rfl ?_
  refine z_if_ne (tgt := 905) dL_law_890 (by decide) (fun h890 => ?_) (fun h890 => ?_)
  · refine z_goto (tgt := 1314) dL_law_905 (by decide) ?_
    refine tri.take 5 ?_
    exact hK.go (hA.trans hA2) hI2 hs2 hr2 hb rfl hW3 hr3 (by omega) (by omega)
  · refine z_aload_n dL_law_893 rfl rfl ?_
    refine z_ic ki_0 dL_law_894 ?_
    have h0 := nz0 (by omega) h890
    have hO3 := hW3.out_
    rw [hA2.o, hA.o] at hO3
    have hans := (congrFun ho3 0).trans (hf2 h0)
    refine z_laload dL_law_895 hO3 rfl (by decide) (by decide) ?_
    refine z_iload dL_law_896 rfl ?_
    refine z_i2l dL_law_898 ?_
    refine z_lcmp dL_law_899 ?_
    refine z_if_eq (tgt := 905) dL_law_900 (by decide) (fun h900 => ?_) (fun h900 => absurd (by rw [hans]; exact lg_self _) h900)
    refine z_goto (tgt := 1314) dL_law_905 (by decide) ?_
    refine tri.take 5 ?_
    exact hK.go (hA.trans hA2) hI2 hs2 hr2 hb rfl hW3 hr3 (by omega) (by omega)
theorem case_atRisk (hI : INV B σ) (hB : 2000000 ≤ B ∧ B + 1000 < 2147483648) (hA : AK A0 A) (hW : W2 g A σ σ x M) (hb : rbk σ x.rb) {bk bn i : Nat} {PL : PO} (hK : LK g A0 B bk bn PL i) (hi : i + 3 < g.L) (hL : g.L ≤ 2048) : tri g mL_law (bk + 16) (bn + 1000) PL M 908 [(0, .ref g.b), (1, .ref (A0 0 0)), (2, .ref (A0 20 0)), (3, .ref (A0 22 0)), (4, .int (nI i))] [] := by
  have hl := l_atRisk g hI hB hW (g.xs (i + 1))
  rw [hA.c, hA.o] at hl
  have hoc := oc_atRisk σ (g.xs (i + 1))
  refine z_aload_n dL_law_908 rfl rfl ?_
  refine z_aload_n dL_law_909 rfl rfl ?_
  refine z_iload dL_law_910 rfl ?_
  refine z_ic ki_1 dL_law_912 ?_
  refine z_iadd dL_law_913 ?_
  refine z_sld dL_law_914 (nI_add i 1) (by omega) hL ?_
  refine z_aload_n dL_law_915 rfl rfl ?_
  refine z_isXQ (dd := mL_atRisk) dL_law_916 cw_RL_118 rfl ⟨by decide, by decide⟩ (n := 3) (by decide +kernel) hl ⟨⟨by decide, by decide⟩, by omega, by omega⟩ rfl rfl (Nat.le_of_ble_eq_true rfl) (fun M916 hQ916 => ?_)
  refine z_istore dL_law_919 (by decide) ?_
  refine z_aload_n dL_law_921 rfl rfl ?_
  refine z_aload_n dL_law_922 rfl rfl ?_
  refine z_iload dL_law_923 rfl ?_
  refine z_ic ki_1 dL_law_925 ?_
  refine z_iadd dL_law_926 ?_
  refine z_sld dL_law_927 (nI_add i 1) (by omega) hL ?_
  obtain ⟨A2, τ, rc, f, hA2, ⟨hI2, hs2, hr2⟩, hf2, hW2⟩ := hQ916
  have hMm := hW2.m
  have hmc := m_atRisk g (x := (x.srch rc).sout f) hI hb hW2 (g.xs (i + 1))
  rw [hA2.m, hA.m] at hMm hmc
  refine z_ivQ dL_law_928 cv_RL_120 hMm (hmc) ⟨⟨by decide, by decide⟩, (by first | exact Nat.zero_le _ | decide | omega), (by first | exact Nat.zero_le _ | decide | omega)⟩ rfl rfl (Nat.le_of_ble_eq_true rfl) (fun M928 hQ928 => ?_)
  refine z_istore dL_law_931 (by decide) ?_
  refine z_aload_n dL_law_933 rfl rfl ?_
  obtain ⟨x2, hW3, ht3, ho3, hr3⟩ := hQ928
  have hM3 := hW3.m
  have hth := c_X6_thrown g hW3
  rw [hA2.m, hA.m] at hM3 hth
  rw [ht3] at hth
  refine z_ivI dL_law_934 cv_RL_81 hM3 (hth) ⟨⟨by decide, by decide⟩, (by first | exact Nat.zero_le _ | decide | omega), (by first | exact Nat.zero_le _ | decide | omega)⟩ rfl rfl (Nat.le_of_ble_eq_true rfl) ?_
  refine z_iload dL_law_937 rfl ?_
  refine z_icmp_eq (tgt := 944) dL_law_939 (by decide) (fun h939 => ?_) (fun h939 => absurd rfl h939)
  refine z_iload dL_law_944 rfl ?_
  refine z_if_ne (tgt := 961) dL_law_946 (by decide) (fun h946 => ?_) (fun h946 => ?_)
  · refine z_goto (tgt := 1314) dL_law_961 (by decide) ?_
    refine tri.take 5 ?_
    exact hK.go (hA.trans hA2) hI2 hs2 hr2 hb rfl hW3 hr3 (by omega) (by omega)
  · refine z_aload_n dL_law_949 rfl rfl ?_
    refine z_ic ki_0 dL_law_950 ?_
    have h0 := nz0 (by omega) h946
    have hO3 := hW3.out_
    rw [hA2.o, hA.o] at hO3
    have hans := (congrFun ho3 0).trans (hf2 h0)
    refine z_laload dL_law_951 hO3 rfl (by decide) (by decide) ?_
    refine z_iload dL_law_952 rfl ?_
    refine z_i2l dL_law_954 ?_
    refine z_lcmp dL_law_955 ?_
    refine z_if_eq (tgt := 961) dL_law_956 (by decide) (fun h956 => ?_) (fun h956 => absurd (by rw [hans]; exact lg_self _) h956)
    refine z_goto (tgt := 1314) dL_law_961 (by decide) ?_
    refine tri.take 5 ?_
    exact hK.go (hA.trans hA2) hI2 hs2 hr2 hb rfl hW3 hr3 (by omega) (by omega)
theorem case_units (hI : INV B σ) (hB : 2000000 ≤ B ∧ B + 1000 < 2147483648) (hA : AK A0 A) (hW : W2 g A σ σ x M) (hb : rbk σ x.rb) {bk bn i : Nat} {PL : PO} (hK : LK g A0 B bk bn PL i) (hi : i + 3 < g.L) (hL : g.L ≤ 2048) : tri g mL_law (bk + 16) (bn + 1000) PL M 964 [(0, .ref g.b), (1, .ref (A0 0 0)), (2, .ref (A0 20 0)), (3, .ref (A0 22 0)), (4, .int (nI i))] [] := by
  have hc := c_X5_units g hW hI.wf hI.cap hI.nd
  have hAl := hW.hall
  have hMo := hW.m
  rw [hA.c] at hc hAl
  rw [hA.m] at hMo
  have hmc := c_X6_units g hW hI.wf
  rw [hA.m] at hmc
  refine z_aload_n dL_law_964 rfl rfl ?_
  refine z_ivI dL_law_965 cv_RL_121 hAl (hc) ⟨⟨by decide, by decide⟩, (by first | exact Nat.zero_le _ | decide | omega), (by first | exact Nat.zero_le _ | decide | omega)⟩ rfl rfl (Nat.le_of_ble_eq_true rfl) ?_
  refine z_aload_n dL_law_968 rfl rfl ?_
  refine z_ivQ dL_law_969 cv_RL_124 hMo (hmc) ⟨⟨by decide, by decide⟩, (by first | exact Nat.zero_le _ | decide | omega), (by first | exact Nat.zero_le _ | decide | omega)⟩ rfl rfl (Nat.le_of_ble_eq_true rfl) (fun M969 hQ969 => ?_)
  refine z_icmp_eq (tgt := 1314) dL_law_972 (by decide) (fun h972 => ?_) (fun h972 => absurd rfl h972)
  exact (hK A _ _ _ hA (hI.up (Nat.le_add_right _ _)) hQ969 hb).wk (by omega) (by omega)
end CASES

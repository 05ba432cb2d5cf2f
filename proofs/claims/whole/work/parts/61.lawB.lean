section LAW
variable {G : GP} {X : CX} {Q : State → Prop} {M : Mem} {b N t : Nat} {sc : Nat → Int32} {s : Sg} {lq : Int32}
theorem law_c10 (F : FX G X RL cL_law (some .boolean) 10 600000 7302249) (hX : scr G X b N sc) (ht : 6 * t + 6 ≤ N) (I : Inv G M s lq) (tail : ∀ M2 s2 lq2, Inv G M2 s2 lq2 → V G X 832 382631 Q M2 none 918 (LL G b t) []) : V G X 832 382631 Q M none 568 (LL G b t) [] := by
  obtain ⟨hC, hM, hK⟩ := I
  obtain ⟨fs, ho⟩ := hC.obj
  have h60 : sNq s ≤ 60 := hM.2.2.2.2.1
  have hmo : sMo s ≤ 2000 := hM.2.2.2.2.2.2.1
  have hN := hX.2.2
  refine V_aload_n F dL_law_568 rfl ?_
  refine V_aload_n F dL_law_569 rfl ?_
  refine V_iload_n F dL_law_570 rfl ?_
  refine V_iconst F dL_law_571 ki_1 ?_
  refine V_iadd F dL_law_572 ?_
  refine V_sld F hX dL_law_573 (6 * t + 1) (by simp only [nI_add]) (by omega) ?_
  refine V_aload_n F dL_law_574 rfl ?_
  refine V_iload_n F dL_law_575 rfl ?_
  refine V_iconst F dL_law_576 ki_2 ?_
  refine V_iadd F dL_law_577 ?_
  refine V_sld F hX dL_law_578 (6 * t + 2) (by simp only [nI_add]) (by omega) ?_
  refine V_aload_n F dL_law_579 rfl ?_
  refine V_iload_n F dL_law_580 rfl ?_
  refine V_iconst F dL_law_581 ki_3 ?_
  refine V_iadd F dL_law_582 ?_
  refine V_sld F hX dL_law_583 (6 * t + 3) (by simp only [nI_add]) (by omega) ?_
  refine V_ivP F iv_L_60 dL_law_584 (As := [_, _, _]) (c_X6_root hC _ _ _) ho rfl rfl rfl rfl ?_
  rintro _ M1 _ ⟨rfl, hC1, e1, rfl⟩
  have hM1 := hM.frame (fun z hz => e1 z (Or.inr hz))
  obtain ⟨fs1, ho1⟩ := hM1.obj
  refine V_aload_n F dL_law_587 rfl ?_
  refine V_aload_n F dL_law_588 rfl ?_
  refine V_iload_n F dL_law_589 rfl ?_
  refine V_iconst F dL_law_590 ki_1 ?_
  refine V_iadd F dL_law_591 ?_
  refine V_sld F hX dL_law_592 (6 * t + 1) (by simp only [nI_add]) (by omega) ?_
  refine V_aload_n F dL_law_593 rfl ?_
  refine V_iload_n F dL_law_594 rfl ?_
  refine V_iconst F dL_law_595 ki_2 ?_
  refine V_iadd F dL_law_596 ?_
  refine V_sld F hX dL_law_597 (6 * t + 2) (by simp only [nI_add]) (by omega) ?_
  refine V_aload_n F dL_law_598 rfl ?_
  refine V_iload_n F dL_law_599 rfl ?_
  refine V_iconst F dL_law_600 ki_3 ?_
  refine V_iadd F dL_law_601 ?_
  refine V_sld F hX dL_law_602 (6 * t + 3) (by simp only [nI_add]) (by omega) ?_
  refine V_ivP F iv_L_63 dL_law_603 (As := [_, _, _]) (c_X7_root hM1 hK.st _ _ _) ho1 rfl rfl rfl rfl ?_
  rintro _ M2 _ ⟨rfl, hM2, e2, rfl⟩
  refine V_icmp_eq F 918 dL_law_606 (by decide) (fun _ => ?_) (fun c => absurd rfl c)
  exact tail M2 _ _ ⟨hC1.frame (fun z z1 z2 => e2 z z2), hM2, hK⟩
theorem law_c11 (F : FX G X RL cL_law (some .boolean) 10 600000 7302249) (hX : scr G X b N sc) (ht : 6 * t + 6 ≤ N) (I : Inv G M s lq) (tail : ∀ M2 s2 lq2, Inv G M2 s2 lq2 → V G X 832 382631 Q M2 none 918 (LL G b t) []) : V G X 832 382631 Q M none 611 (LL G b t) [] := by
  obtain ⟨hC, hM, hK⟩ := I
  obtain ⟨fs, ho⟩ := hC.obj
  have h60 : sNq s ≤ 60 := hM.2.2.2.2.1
  have hmo : sMo s ≤ 2000 := hM.2.2.2.2.2.2.1
  have hN := hX.2.2
  refine V_aload_n F dL_law_611 rfl ?_
  refine V_aload_n F dL_law_612 rfl ?_
  refine V_iload_n F dL_law_613 rfl ?_
  refine V_iconst F dL_law_614 ki_1 ?_
  refine V_iadd F dL_law_615 ?_
  refine V_sld F hX dL_law_616 (6 * t + 1) (by simp only [nI_add]) (by omega) ?_
  refine V_aload_n F dL_law_617 rfl ?_
  refine V_iload_n F dL_law_618 rfl ?_
  refine V_iconst F dL_law_619 ki_2 ?_
  refine V_iadd F dL_law_620 ?_
  refine V_sld F hX dL_law_621 (6 * t + 2) (by simp only [nI_add]) (by omega) ?_
  refine V_ivP F iv_L_64 dL_law_622 (As := [_, _]) (c_X6_same hC _ _) ho rfl rfl rfl rfl ?_
  rintro _ M1 _ ⟨rfl, hC1, e1, rfl⟩
  have hM1 := hM.frame (fun z hz => e1 z (Or.inr hz))
  obtain ⟨fs1, ho1⟩ := hM1.obj
  refine V_aload_n F dL_law_625 rfl ?_
  refine V_aload_n F dL_law_626 rfl ?_
  refine V_iload_n F dL_law_627 rfl ?_
  refine V_iconst F dL_law_628 ki_1 ?_
  refine V_iadd F dL_law_629 ?_
  refine V_sld F hX dL_law_630 (6 * t + 1) (by simp only [nI_add]) (by omega) ?_
  refine V_aload_n F dL_law_631 rfl ?_
  refine V_iload_n F dL_law_632 rfl ?_
  refine V_iconst F dL_law_633 ki_2 ?_
  refine V_iadd F dL_law_634 ?_
  refine V_sld F hX dL_law_635 (6 * t + 2) (by simp only [nI_add]) (by omega) ?_
  refine V_ivP F iv_L_67 dL_law_636 (As := [_, _]) (c_X7_same hM1 hK.st _ _) ho1 rfl rfl rfl rfl ?_
  rintro _ M2 _ ⟨rfl, hM2, e2, rfl⟩
  refine V_icmp_eq F 918 dL_law_639 (by decide) (fun _ => ?_) (fun c => absurd rfl c)
  exact tail M2 _ _ ⟨hC1.frame (fun z z1 z2 => e2 z z2), hM2, hK⟩
theorem law_c12 (F : FX G X RL cL_law (some .boolean) 10 600000 7302249) (hX : scr G X b N sc) (ht : 6 * t + 6 ≤ N) (I : Inv G M s lq) (tail : ∀ M2 s2 lq2, Inv G M2 s2 lq2 → V G X 832 382631 Q M2 none 918 (LL G b t) []) : V G X 832 382631 Q M none 644 (LL G b t) [] := by
  obtain ⟨hC, hM, hK⟩ := I
  obtain ⟨fs, ho⟩ := hC.obj
  have h60 : sNq s ≤ 60 := hM.2.2.2.2.1
  have hmo : sMo s ≤ 2000 := hM.2.2.2.2.2.2.1
  have hN := hX.2.2
  refine V_aload_n F dL_law_644 rfl ?_
  refine V_aload_n F dL_law_645 rfl ?_
  refine V_iload_n F dL_law_646 rfl ?_
  refine V_iconst F dL_law_647 ki_1 ?_
  refine V_iadd F dL_law_648 ?_
  refine V_sld F hX dL_law_649 (6 * t + 1) (by simp only [nI_add]) (by omega) ?_
  refine V_aload_n F dL_law_650 rfl ?_
  refine V_iload_n F dL_law_651 rfl ?_
  refine V_iconst F dL_law_652 ki_2 ?_
  refine V_iadd F dL_law_653 ?_
  refine V_sld F hX dL_law_654 (6 * t + 2) (by simp only [nI_add]) (by omega) ?_
  refine V_aload_n F dL_law_655 rfl ?_
  refine V_iload_n F dL_law_656 rfl ?_
  refine V_iconst F dL_law_657 ki_3 ?_
  refine V_iadd F dL_law_658 ?_
  refine V_sld F hX dL_law_659 (6 * t + 3) (by simp only [nI_add]) (by omega) ?_
  refine V_aload_n F dL_law_660 rfl ?_
  refine V_iload_n F dL_law_661 rfl ?_
  refine V_iconst F dL_law_662 ki_4 ?_
  refine V_iadd F dL_law_663 ?_
  refine V_sld F hX dL_law_664 (6 * t + 4) (by simp only [nI_add]) (by omega) ?_
  refine V_ivP F iv_L_68 dL_law_665 (As := [_, _, _, _]) (c_X6_touch hC _ _ _ _) ho rfl rfl rfl rfl ?_
  rintro _ M1 _ ⟨rfl, hC1, e1, rfl⟩
  have hM1 := hM.frame (fun z hz => e1 z (Or.inr hz))
  obtain ⟨fs1, ho1⟩ := hM1.obj
  refine V_aload_n F dL_law_668 rfl ?_
  refine V_aload_n F dL_law_669 rfl ?_
  refine V_iload_n F dL_law_670 rfl ?_
  refine V_iconst F dL_law_671 ki_1 ?_
  refine V_iadd F dL_law_672 ?_
  refine V_sld F hX dL_law_673 (6 * t + 1) (by simp only [nI_add]) (by omega) ?_
  refine V_aload_n F dL_law_674 rfl ?_
  refine V_iload_n F dL_law_675 rfl ?_
  refine V_iconst F dL_law_676 ki_2 ?_
  refine V_iadd F dL_law_677 ?_
  refine V_sld F hX dL_law_678 (6 * t + 2) (by simp only [nI_add]) (by omega) ?_
  refine V_aload_n F dL_law_679 rfl ?_
  refine V_iload_n F dL_law_680 rfl ?_
  refine V_iconst F dL_law_681 ki_3 ?_
  refine V_iadd F dL_law_682 ?_
  refine V_sld F hX dL_law_683 (6 * t + 3) (by simp only [nI_add]) (by omega) ?_
  refine V_aload_n F dL_law_684 rfl ?_
  refine V_iload_n F dL_law_685 rfl ?_
  refine V_iconst F dL_law_686 ki_4 ?_
  refine V_iadd F dL_law_687 ?_
  refine V_sld F hX dL_law_688 (6 * t + 4) (by simp only [nI_add]) (by omega) ?_
  refine V_ivP F iv_L_72 dL_law_689 (As := [_, _, _, _]) (c_X7_touch hM1 _ _ _ _) ho1 rfl rfl rfl rfl ?_
  rintro _ M2 _ ⟨rfl, hM2, e2, rfl⟩
  refine V_icmp_eq F 918 dL_law_692 (by decide) (fun _ => ?_) (fun c => absurd rfl c)
  exact tail M2 _ _ ⟨hC1.frame (fun z z1 z2 => e2 z z2), hM2, hK⟩
theorem law_c13 (F : FX G X RL cL_law (some .boolean) 10 600000 7302249) (hX : scr G X b N sc) (ht : 6 * t + 6 ≤ N) (I : Inv G M s lq) (tail : ∀ M2 s2 lq2, Inv G M2 s2 lq2 → V G X 832 382631 Q M2 none 918 (LL G b t) []) : V G X 832 382631 Q M none 697 (LL G b t) [] := by
  obtain ⟨hC, hM, hK⟩ := I
  obtain ⟨fs, ho⟩ := hC.obj
  have h60 : sNq s ≤ 60 := hM.2.2.2.2.1
  have hmo : sMo s ≤ 2000 := hM.2.2.2.2.2.2.1
  have hN := hX.2.2
  refine V_aload_n F dL_law_697 rfl ?_
  refine V_aload_n F dL_law_698 rfl ?_
  refine V_iload_n F dL_law_699 rfl ?_
  refine V_iconst F dL_law_700 ki_1 ?_
  refine V_iadd F dL_law_701 ?_
  refine V_sld F hX dL_law_702 (6 * t + 1) (by simp only [nI_add]) (by omega) ?_
  refine V_aload_n F dL_law_703 rfl ?_
  refine V_iload_n F dL_law_704 rfl ?_
  refine V_iconst F dL_law_705 ki_2 ?_
  refine V_iadd F dL_law_706 ?_
  refine V_sld F hX dL_law_707 (6 * t + 2) (by simp only [nI_add]) (by omega) ?_
  refine V_ivP F iv_L_73 dL_law_708 (As := [_, _]) (c_X6_list hC _ _) ho rfl rfl rfl rfl ?_
  rintro _ M1 _ ⟨j, rfl, hC1, e1, rfl⟩
  have hM1 := hM.frame (fun z hz => e1 z (Or.inr hz))
  obtain ⟨fs1, ho1⟩ := hM1.obj
  obtain ⟨r, H, ev, kg, back⟩ := hK.clist h60 (sc (6 * t + 1)) (sc (6 * t + 2)) j
  refine V_aload_n F dL_law_711 rfl ?_
  refine V_aload_n F dL_law_712 rfl ?_
  refine V_iload_n F dL_law_713 rfl ?_
  refine V_iconst F dL_law_714 ki_1 ?_
  refine V_iadd F dL_law_715 ?_
  refine V_sld F hX dL_law_716 (6 * t + 1) (by simp only [nI_add]) (by omega) ?_
  refine V_aload_n F dL_law_717 rfl ?_
  refine V_iload_n F dL_law_718 rfl ?_
  refine V_iconst F dL_law_719 ki_2 ?_
  refine V_iadd F dL_law_720 ?_
  refine V_sld F hX dL_law_721 (6 * t + 2) (by simp only [nI_add]) (by omega) ?_
  refine V_ivP F iv_L_76 dL_law_722 (As := [_, _]) (c_X7_list hM1 hK.st _ _ H) ho1 rfl rfl rfl rfl ?_
  rintro _ M2 _ ⟨rfl, hM2, e2, rfl⟩
  refine V_icmp_eq F 918 dL_law_725 (by decide) (fun _ => ?_) (fun c => absurd ev c)
  exact tail M2 _ _ ⟨hC1.frame (fun z z1 z2 => e2 z z2), back _ _ _ hM2, kg⟩
theorem law_c14 (F : FX G X RL cL_law (some .boolean) 10 600000 7302249) (hX : scr G X b N sc) (ht : 6 * t + 6 ≤ N) (I : Inv G M s lq) (tail : ∀ M2 s2 lq2, Inv G M2 s2 lq2 → V G X 832 382631 Q M2 none 918 (LL G b t) []) : V G X 832 382631 Q M none 730 (LL G b t) [] := by
  obtain ⟨hC, hM, hK⟩ := I
  obtain ⟨fs, ho⟩ := hC.obj
  have h60 : sNq s ≤ 60 := hM.2.2.2.2.1
  have hmo : sMo s ≤ 2000 := hM.2.2.2.2.2.2.1
  have hN := hX.2.2
  refine V_aload_n F dL_law_730 rfl ?_
  refine V_aload_n F dL_law_731 rfl ?_
  refine V_iload_n F dL_law_732 rfl ?_
  refine V_iconst F dL_law_733 ki_1 ?_
  refine V_iadd F dL_law_734 ?_
  refine V_sld F hX dL_law_735 (6 * t + 1) (by simp only [nI_add]) (by omega) ?_
  refine V_aload_n F dL_law_736 rfl ?_
  refine V_iload_n F dL_law_737 rfl ?_
  refine V_iconst F dL_law_738 ki_2 ?_
  refine V_iadd F dL_law_739 ?_
  refine V_sld F hX dL_law_740 (6 * t + 2) (by simp only [nI_add]) (by omega) ?_
  refine V_ivP F iv_L_77 dL_law_741 (As := [_, _]) (c_X6_listed hC _ _) ho rfl rfl rfl rfl ?_
  rintro _ M1 _ ⟨rfl, hC1, e1, rfl⟩
  have hM1 := hM.frame (fun z hz => e1 z (Or.inr hz))
  obtain ⟨fs1, ho1⟩ := hM1.obj
  refine V_aload_n F dL_law_744 rfl ?_
  refine V_aload_n F dL_law_745 rfl ?_
  refine V_iload_n F dL_law_746 rfl ?_
  refine V_iconst F dL_law_747 ki_1 ?_
  refine V_iadd F dL_law_748 ?_
  refine V_sld F hX dL_law_749 (6 * t + 1) (by simp only [nI_add]) (by omega) ?_
  refine V_aload_n F dL_law_750 rfl ?_
  refine V_iload_n F dL_law_751 rfl ?_
  refine V_iconst F dL_law_752 ki_2 ?_
  refine V_iadd F dL_law_753 ?_
  refine V_sld F hX dL_law_754 (6 * t + 2) (by simp only [nI_add]) (by omega) ?_
  refine V_ivP F iv_L_80 dL_law_755 (As := [_, _]) (c_X7_listed hM1 _ _) ho1 rfl rfl rfl rfl ?_
  rintro _ M2 _ ⟨rfl, hM2, e2, rfl⟩
  refine V_icmp_eq F 918 dL_law_758 (by decide) (fun _ => ?_) (fun c => absurd rfl c)
  exact tail M2 _ _ ⟨hC1.frame (fun z z1 z2 => e2 z z2), hM2, hK⟩
theorem law_c15 (F : FX G X RL cL_law (some .boolean) 10 600000 7302249) (hX : scr G X b N sc) (ht : 6 * t + 6 ≤ N) (I : Inv G M s lq) (tail : ∀ M2 s2 lq2, Inv G M2 s2 lq2 → V G X 832 382631 Q M2 none 918 (LL G b t) []) : V G X 832 382631 Q M none 763 (LL G b t) [] := by
  obtain ⟨hC, hM, hK⟩ := I
  obtain ⟨fs, ho⟩ := hC.obj
  have h60 : sNq s ≤ 60 := hM.2.2.2.2.1
  have hmo : sMo s ≤ 2000 := hM.2.2.2.2.2.2.1
  have hN := hX.2.2
  refine V_aload_n F dL_law_763 rfl ?_
  refine V_aload_n F dL_law_764 rfl ?_
  refine V_iload_n F dL_law_765 rfl ?_
  refine V_iconst F dL_law_766 ki_1 ?_
  refine V_iadd F dL_law_767 ?_
  refine V_sld F hX dL_law_768 (6 * t + 1) (by simp only [nI_add]) (by omega) ?_
  refine V_ivP F iv_L_81 dL_law_769 (As := [_]) (c_X6_find hC _) ho rfl rfl rfl rfl ?_
  rintro _ M1 _ ⟨rfl, hC1, e1, rfl⟩
  have hM1 := hM.frame (fun z hz => e1 z (Or.inr hz))
  obtain ⟨fs1, ho1⟩ := hM1.obj
  refine V_aload_n F dL_law_772 rfl ?_
  refine V_aload_n F dL_law_773 rfl ?_
  refine V_iload_n F dL_law_774 rfl ?_
  refine V_iconst F dL_law_775 ki_1 ?_
  refine V_iadd F dL_law_776 ?_
  refine V_sld F hX dL_law_777 (6 * t + 1) (by simp only [nI_add]) (by omega) ?_
  refine V_ivR F iv_L_84 dL_law_778 (As := [_]) (c_X7_find hM1 _) ho1 rfl rfl rfl rfl ?_
  refine V_icmp_eq F 918 dL_law_781 (by decide) (fun _ => ?_) (fun c => absurd rfl c)
  exact tail M1 _ _ ⟨hC1, hM1, hK⟩
theorem law_c16 (F : FX G X RL cL_law (some .boolean) 10 600000 7302249) (hX : scr G X b N sc) (ht : 6 * t + 6 ≤ N) (I : Inv G M s lq) (tail : ∀ M2 s2 lq2, Inv G M2 s2 lq2 → V G X 832 382631 Q M2 none 918 (LL G b t) []) : V G X 832 382631 Q M none 786 (LL G b t) [] := by
  obtain ⟨hC, hM, hK⟩ := I
  obtain ⟨fs, ho⟩ := hC.obj
  have h60 : sNq s ≤ 60 := hM.2.2.2.2.1
  have hmo : sMo s ≤ 2000 := hM.2.2.2.2.2.2.1
  have hN := hX.2.2
  refine V_aload_n F dL_law_786 rfl ?_
  refine V_aload_n F dL_law_787 rfl ?_
  refine V_iload_n F dL_law_788 rfl ?_
  refine V_iconst F dL_law_789 ki_1 ?_
  refine V_iadd F dL_law_790 ?_
  refine V_sld F hX dL_law_791 (6 * t + 1) (by simp only [nI_add]) (by omega) ?_
  refine V_ivP F iv_L_85 dL_law_792 (As := [_]) (c_X6_left hC _) ho rfl rfl rfl rfl ?_
  rintro _ M1 _ ⟨rfl, hC1, e1, rfl⟩
  have hM1 := hM.frame (fun z hz => e1 z (Or.inr hz))
  obtain ⟨fs1, ho1⟩ := hM1.obj
  refine V_aload_n F dL_law_795 rfl ?_
  refine V_aload_n F dL_law_796 rfl ?_
  refine V_iload_n F dL_law_797 rfl ?_
  refine V_iconst F dL_law_798 ki_1 ?_
  refine V_iadd F dL_law_799 ?_
  refine V_sld F hX dL_law_800 (6 * t + 1) (by simp only [nI_add]) (by omega) ?_
  refine V_ivP F iv_L_88 dL_law_801 (As := [_]) (c_X7_left hM1 hK.lq _) ho1 rfl rfl rfl rfl ?_
  rintro _ M2 _ ⟨rfl, hM2, e2, rfl⟩
  refine V_icmp_eq F 918 dL_law_804 (by decide) (fun _ => ?_) (fun c => absurd (hK.cleft h60 hmo _).symm c)
  exact tail M2 _ _ ⟨hC1.frame (fun z z1 z2 => e2 z z2), hM2, hK⟩
theorem law_c17 (F : FX G X RL cL_law (some .boolean) 10 600000 7302249) (hX : scr G X b N sc) (ht : 6 * t + 6 ≤ N) (I : Inv G M s lq) (tail : ∀ M2 s2 lq2, Inv G M2 s2 lq2 → V G X 832 382631 Q M2 none 918 (LL G b t) []) : V G X 832 382631 Q M none 809 (LL G b t) [] := by
  obtain ⟨hC, hM, hK⟩ := I
  obtain ⟨fs, ho⟩ := hC.obj
  have h60 : sNq s ≤ 60 := hM.2.2.2.2.1
  have hmo : sMo s ≤ 2000 := hM.2.2.2.2.2.2.1
  have hN := hX.2.2
  refine V_aload_n F dL_law_809 rfl ?_
  refine V_aload_n F dL_law_810 rfl ?_
  refine V_iload_n F dL_law_811 rfl ?_
  refine V_iconst F dL_law_812 ki_1 ?_
  refine V_iadd F dL_law_813 ?_
  refine V_sld F hX dL_law_814 (6 * t + 1) (by simp only [nI_add]) (by omega) ?_
  refine V_ivP F iv_L_89 dL_law_815 (As := [_]) (c_X6_seen hC _) ho rfl rfl rfl rfl ?_
  rintro _ M1 _ ⟨rfl, hC1, e1, rfl⟩
  have hM1 := hM.frame (fun z hz => e1 z (Or.inr hz))
  obtain ⟨fs1, ho1⟩ := hM1.obj
  refine V_aload_n F dL_law_818 rfl ?_
  refine V_aload_n F dL_law_819 rfl ?_
  refine V_iload_n F dL_law_820 rfl ?_
  refine V_iconst F dL_law_821 ki_1 ?_
  refine V_iadd F dL_law_822 ?_
  refine V_sld F hX dL_law_823 (6 * t + 1) (by simp only [nI_add]) (by omega) ?_
  refine V_ivP F iv_L_92 dL_law_824 (As := [_]) (c_X7_seen hM1 hK.se _) ho1 rfl rfl rfl rfl ?_
  rintro _ M2 _ ⟨rfl, hM2, e2, rfl⟩
  refine V_icmp_eq F 918 dL_law_827 (by decide) (fun _ => ?_) (fun c => absurd rfl c)
  exact tail M2 _ _ ⟨hC1.frame (fun z z1 z2 => e2 z z2), hM2, hK⟩
theorem law_c18 (F : FX G X RL cL_law (some .boolean) 10 600000 7302249) (hX : scr G X b N sc) (ht : 6 * t + 6 ≤ N) (I : Inv G M s lq) (tail : ∀ M2 s2 lq2, Inv G M2 s2 lq2 → V G X 832 382631 Q M2 none 918 (LL G b t) []) : V G X 832 382631 Q M none 832 (LL G b t) [] := by
  obtain ⟨hC, hM, hK⟩ := I
  obtain ⟨fs, ho⟩ := hC.obj
  have h60 : sNq s ≤ 60 := hM.2.2.2.2.1
  have hmo : sMo s ≤ 2000 := hM.2.2.2.2.2.2.1
  have hN := hX.2.2
  refine V_aload_n F dL_law_832 rfl ?_
  refine V_aload_n F dL_law_833 rfl ?_
  refine V_iload_n F dL_law_834 rfl ?_
  refine V_iconst F dL_law_835 ki_1 ?_
  refine V_iadd F dL_law_836 ?_
  refine V_sld F hX dL_law_837 (6 * t + 1) (by simp only [nI_add]) (by omega) ?_
  refine V_aload_n F dL_law_838 rfl ?_
  refine V_iload_n F dL_law_839 rfl ?_
  refine V_iconst F dL_law_840 ki_2 ?_
  refine V_iadd F dL_law_841 ?_
  refine V_sld F hX dL_law_842 (6 * t + 2) (by simp only [nI_add]) (by omega) ?_
  refine V_aload_n F dL_law_843 rfl ?_
  refine V_iload_n F dL_law_844 rfl ?_
  refine V_iconst F dL_law_845 ki_3 ?_
  refine V_iadd F dL_law_846 ?_
  refine V_sld F hX dL_law_847 (6 * t + 3) (by simp only [nI_add]) (by omega) ?_
  refine V_aload_n F dL_law_848 rfl ?_
  refine V_iload_n F dL_law_849 rfl ?_
  refine V_iconst F dL_law_850 ki_4 ?_
  refine V_iadd F dL_law_851 ?_
  refine V_sld F hX dL_law_852 (6 * t + 4) (by simp only [nI_add]) (by omega) ?_
  refine V_aload_n F dL_law_853 rfl ?_
  refine V_iload_n F dL_law_854 rfl ?_
  refine V_iconst F dL_law_855 ki_5 ?_
  refine V_iadd F dL_law_856 ?_
  refine V_sld F hX dL_law_857 (6 * t + 5) (by simp only [nI_add]) (by omega) ?_
  refine V_ivP F iv_L_93 dL_law_858 (As := [_, _, _, _, _]) (c_X6_chain hC _ _ _ _ _) ho rfl rfl rfl rfl ?_
  rintro _ M1 _ ⟨rfl, hC1, e1, rfl⟩
  have hM1 := hM.frame (fun z hz => e1 z (Or.inr hz))
  obtain ⟨fs1, ho1⟩ := hM1.obj
  refine V_aload_n F dL_law_861 rfl ?_
  refine V_aload_n F dL_law_862 rfl ?_
  refine V_iload_n F dL_law_863 rfl ?_
  refine V_iconst F dL_law_864 ki_1 ?_
  refine V_iadd F dL_law_865 ?_
  refine V_sld F hX dL_law_866 (6 * t + 1) (by simp only [nI_add]) (by omega) ?_
  refine V_aload_n F dL_law_867 rfl ?_
  refine V_iload_n F dL_law_868 rfl ?_
  refine V_iconst F dL_law_869 ki_2 ?_
  refine V_iadd F dL_law_870 ?_
  refine V_sld F hX dL_law_871 (6 * t + 2) (by simp only [nI_add]) (by omega) ?_
  refine V_aload_n F dL_law_872 rfl ?_
  refine V_iload_n F dL_law_873 rfl ?_
  refine V_iconst F dL_law_874 ki_3 ?_
  refine V_iadd F dL_law_875 ?_
  refine V_sld F hX dL_law_876 (6 * t + 3) (by simp only [nI_add]) (by omega) ?_
  refine V_aload_n F dL_law_877 rfl ?_
  refine V_iload_n F dL_law_878 rfl ?_
  refine V_iconst F dL_law_879 ki_4 ?_
  refine V_iadd F dL_law_880 ?_
  refine V_sld F hX dL_law_881 (6 * t + 4) (by simp only [nI_add]) (by omega) ?_
  refine V_aload_n F dL_law_882 rfl ?_
  refine V_iload_n F dL_law_883 rfl ?_
  refine V_iconst F dL_law_884 ki_5 ?_
  refine V_iadd F dL_law_885 ?_
  refine V_sld F hX dL_law_886 (6 * t + 5) (by simp only [nI_add]) (by omega) ?_
  refine V_ivP F iv_L_96 dL_law_887 (As := [_, _, _, _, _]) (c_X7_chain hM1 _ _ _ _ _) ho1 rfl rfl rfl rfl ?_
  rintro _ M2 _ ⟨rfl, hM2, e2, rfl⟩
  refine V_icmp_eq F 918 dL_law_890 (by decide) (fun _ => ?_) (fun c => absurd rfl c)
  exact tail M2 _ _ ⟨hC1.frame (fun z z1 z2 => e2 z z2), hM2, hK⟩
theorem law_c19 (F : FX G X RL cL_law (some .boolean) 10 600000 7302249) (hX : scr G X b N sc) (ht : 6 * t + 6 ≤ N) (I : Inv G M s lq) (tail : ∀ M2 s2 lq2, Inv G M2 s2 lq2 → V G X 832 382631 Q M2 none 918 (LL G b t) []) : V G X 832 382631 Q M none 895 (LL G b t) [] := by
  obtain ⟨hC, hM, hK⟩ := I
  obtain ⟨fs, ho⟩ := hC.obj
  have h60 : sNq s ≤ 60 := hM.2.2.2.2.1
  have hmo : sMo s ≤ 2000 := hM.2.2.2.2.2.2.1
  have hN := hX.2.2
  refine V_aload_n F dL_law_895 rfl ?_
  refine V_aload_n F dL_law_896 rfl ?_
  refine V_iload_n F dL_law_897 rfl ?_
  refine V_iconst F dL_law_898 ki_1 ?_
  refine V_iadd F dL_law_899 ?_
  refine V_sld F hX dL_law_900 (6 * t + 1) (by simp only [nI_add]) (by omega) ?_
  refine V_ivP F iv_L_97 dL_law_901 (As := [_]) (c_X6_count hC _) ho rfl rfl rfl rfl ?_
  rintro _ M1 _ ⟨rfl, hC1, e1, rfl⟩
  have hM1 := hM.frame (fun z hz => e1 z (Or.inr hz))
  obtain ⟨fs1, ho1⟩ := hM1.obj
  refine V_aload_n F dL_law_904 rfl ?_
  refine V_aload_n F dL_law_905 rfl ?_
  refine V_iload_n F dL_law_906 rfl ?_
  refine V_iconst F dL_law_907 ki_1 ?_
  refine V_iadd F dL_law_908 ?_
  refine V_sld F hX dL_law_909 (6 * t + 1) (by simp only [nI_add]) (by omega) ?_
  refine V_ivP F iv_L_100 dL_law_910 (As := [_]) (c_X7_count hM1 _) ho1 rfl rfl rfl rfl ?_
  rintro _ M2 _ ⟨rfl, hM2, e2, rfl⟩
  refine V_icmp_eq F 918 dL_law_913 (by decide) (fun _ => ?_) (fun c => absurd rfl c)
  exact tail M2 _ _ ⟨hC1.frame (fun z z1 z2 => e2 z z2), hM2, hK⟩
end LAW

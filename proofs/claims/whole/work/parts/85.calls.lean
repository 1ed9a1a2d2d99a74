/-! THE LAW: its calls, on -/
set_option maxRecDepth 100000 in
set_option maxHeartbeats 4000000 in
theorem lw_back {E : EN} {G : CX} {n i : Nat} {xs : Nat → Int32} {M : Mem} {S : GS} (H : lwH E G n xs) (hS : lwS M S) (hi : i + 4 ≤ n) (kk : ∀ (M' : Mem) (S' : GS), lwS M' S' → AW E mL_law G 78 1218 1038 [vS 40, vR 0, vR 65, vI i] [] M') : AW E mL_law G 78 1218 573 [vS 40, vR 0, vR 65, vI i] [] M := by
  obtain ⟨pA, pM, hR, hX, hb, hbA, hL⟩ := H
  obtain ⟨hx, hy, hw, hwx⟩ := hS
  refine A_aload_n dL_law_573 rfl ?_
  refine A_aload_nS dL_law_574 rfl ?_
  refine A_iload_n dL_law_575 rfl ?_
  refine A_iconst dL_law_576 (by decide) ?_
  refine A_iadd dL_law_577 ⟨by omega, by omega⟩ ?_
  refine A_sld dL_law_578 hX hb hbA (by omega) (by omega) ?_
  refine A_vI1 (mj := mX7_back) dL_law_579 hR (by decide) ok_X7_back mv_X7_back ml_RL_79 pA.1 rfl rfl rfl (x_back pA hx hw) (fun zx Mx gx kx qx => ?_)
  obtain ⟨a1, a2, a3⟩ := qx
  have hy1 := rY_65 hy hw.1 a2
  refine A_aload_n dL_law_582 rfl ?_
  refine A_aload_nS dL_law_583 rfl ?_
  refine A_iload_n dL_law_584 rfl ?_
  refine A_iconst dL_law_585 (by decide) ?_
  refine A_iadd dL_law_586 ⟨by omega, by omega⟩ ?_
  refine A_sld dL_law_587 hX hb hbA (by omega) (by omega) ?_
  refine A_vI1 (mj := mX8_back) dL_law_588 hR (by decide) ok_X8_back mv_X8_back ml_RL_82 pM.1 rfl rfl rfl (m_back (m := 65) pM hy1 hw) (fun zm Mm gm km qm => ?_)
  obtain ⟨b1, b2, b3⟩ := qm
  have hx1 := rX_65 a1 b2
  refine A_icmp_eq (tgt := 1038) dL_law_591 (by decide) (fun h => kk _ _ ⟨hx1, b1, (w_back _ hw), (wx_back _ hwx)⟩) (fun h => absurd (a3.trans b3.symm) h)

set_option maxRecDepth 100000 in
set_option maxHeartbeats 4000000 in
theorem lw_later {E : EN} {G : CX} {n i : Nat} {xs : Nat → Int32} {M : Mem} {S : GS} (H : lwH E G n xs) (hS : lwS M S) (hi : i + 4 ≤ n) (kk : ∀ (M' : Mem) (S' : GS), lwS M' S' → AW E mL_law G 78 1218 1038 [vS 40, vR 0, vR 65, vI i] [] M') : AW E mL_law G 78 1218 596 [vS 40, vR 0, vR 65, vI i] [] M := by
  obtain ⟨pA, pM, hR, hX, hb, hbA, hL⟩ := H
  obtain ⟨hx, hy, hw, hwx⟩ := hS
  refine A_aload_n dL_law_596 rfl ?_
  refine A_aload_nS dL_law_597 rfl ?_
  refine A_iload_n dL_law_598 rfl ?_
  refine A_iconst dL_law_599 (by decide) ?_
  refine A_iadd dL_law_600 ⟨by omega, by omega⟩ ?_
  refine A_sld dL_law_601 hX hb hbA (by omega) (by omega) ?_
  refine A_aload_nS dL_law_602 rfl ?_
  refine A_iload_n dL_law_603 rfl ?_
  refine A_iconst dL_law_604 (by decide) ?_
  refine A_iadd dL_law_605 ⟨by omega, by omega⟩ ?_
  refine A_sld dL_law_606 hX hb hbA (by omega) (by omega) ?_
  refine A_aload_nS dL_law_607 rfl ?_
  refine A_iload_n dL_law_608 rfl ?_
  refine A_iconst dL_law_609 (by decide) ?_
  refine A_iadd dL_law_610 ⟨by omega, by omega⟩ ?_
  refine A_sld dL_law_611 hX hb hbA (by omega) (by omega) ?_
  refine A_vI3 (mj := mX7_later) dL_law_612 hR (by decide) ok_X7_later mv_X7_later ml_RL_83 pA.1 rfl rfl rfl (x_later pA hx hw) (fun zx Mx gx kx qx => ?_)
  obtain ⟨a1, a2, a3⟩ := qx
  have hy1 := rY_65 hy hw.1 a2
  refine A_aload_n dL_law_615 rfl ?_
  refine A_aload_nS dL_law_616 rfl ?_
  refine A_iload_n dL_law_617 rfl ?_
  refine A_iconst dL_law_618 (by decide) ?_
  refine A_iadd dL_law_619 ⟨by omega, by omega⟩ ?_
  refine A_sld dL_law_620 hX hb hbA (by omega) (by omega) ?_
  refine A_aload_nS dL_law_621 rfl ?_
  refine A_iload_n dL_law_622 rfl ?_
  refine A_iconst dL_law_623 (by decide) ?_
  refine A_iadd dL_law_624 ⟨by omega, by omega⟩ ?_
  refine A_sld dL_law_625 hX hb hbA (by omega) (by omega) ?_
  refine A_aload_nS dL_law_626 rfl ?_
  refine A_iload_n dL_law_627 rfl ?_
  refine A_iconst dL_law_628 (by decide) ?_
  refine A_iadd dL_law_629 ⟨by omega, by omega⟩ ?_
  refine A_sld dL_law_630 hX hb hbA (by omega) (by omega) ?_
  refine A_vI3 (mj := mX8_later) dL_law_631 hR (by decide) ok_X8_later mv_X8_later ml_RL_87 pM.1 rfl rfl rfl (m_later (m := 65) pM hy1 hw) (fun zm Mm gm km qm => ?_)
  obtain ⟨b1, b2, b3⟩ := qm
  have hx1 := rX_65 a1 b2
  refine A_icmp_eq (tgt := 1038) dL_law_634 (by decide) (fun h => kk _ _ ⟨hx1, b1, hw, hwx⟩) (fun h => absurd (a3.trans b3.symm) h)

set_option maxRecDepth 100000 in
set_option maxHeartbeats 4000000 in
theorem lw_filed {E : EN} {G : CX} {n i : Nat} {xs : Nat → Int32} {M : Mem} {S : GS} (H : lwH E G n xs) (hS : lwS M S) (hi : i + 4 ≤ n) (kk : ∀ (M' : Mem) (S' : GS), lwS M' S' → AW E mL_law G 78 1218 1038 [vS 40, vR 0, vR 65, vI i] [] M') : AW E mL_law G 78 1218 639 [vS 40, vR 0, vR 65, vI i] [] M := by
  obtain ⟨pA, pM, hR, hX, hb, hbA, hL⟩ := H
  obtain ⟨hx, hy, hw, hwx⟩ := hS
  refine A_aload_n dL_law_639 rfl ?_
  refine A_aload_nS dL_law_640 rfl ?_
  refine A_iload_n dL_law_641 rfl ?_
  refine A_iconst dL_law_642 (by decide) ?_
  refine A_iadd dL_law_643 ⟨by omega, by omega⟩ ?_
  refine A_sld dL_law_644 hX hb hbA (by omega) (by omega) ?_
  refine A_vI1 (mj := mX7_filed) dL_law_645 hR (by decide) ok_X7_filed mv_X7_filed ml_RL_88 pA.1 rfl rfl rfl (x_filed pA hx hw) (fun zx Mx gx kx qx => ?_)
  obtain ⟨a1, a2, a3⟩ := qx
  have hy1 := rY_65 hy hw.1 a2
  refine A_aload_n dL_law_648 rfl ?_
  refine A_aload_nS dL_law_649 rfl ?_
  refine A_iload_n dL_law_650 rfl ?_
  refine A_iconst dL_law_651 (by decide) ?_
  refine A_iadd dL_law_652 ⟨by omega, by omega⟩ ?_
  refine A_sld dL_law_653 hX hb hbA (by omega) (by omega) ?_
  refine A_vI1 (mj := mX8_filed) dL_law_654 hR (by decide) ok_X8_filed mv_X8_filed ml_RL_91 pM.1 rfl rfl rfl (m_filed (m := 65) pM hy1 hw) (fun zm Mm gm km qm => ?_)
  obtain ⟨b1, b2, b3⟩ := qm
  have hx1 := rX_65 a1 b2
  refine A_icmp_eq (tgt := 1038) dL_law_657 (by decide) (fun h => kk _ _ ⟨hx1, b1, hw, hwx⟩) (fun h => absurd (a3.trans b3.symm) h)

set_option maxRecDepth 100000 in
set_option maxHeartbeats 4000000 in
theorem lw_queue {E : EN} {G : CX} {n i : Nat} {xs : Nat → Int32} {M : Mem} {S : GS} (H : lwH E G n xs) (hS : lwS M S) (hi : i + 4 ≤ n) (kk : ∀ (M' : Mem) (S' : GS), lwS M' S' → AW E mL_law G 78 1218 1038 [vS 40, vR 0, vR 65, vI i] [] M') : AW E mL_law G 78 1218 662 [vS 40, vR 0, vR 65, vI i] [] M := by
  obtain ⟨pA, pM, hR, hX, hb, hbA, hL⟩ := H
  obtain ⟨hx, hy, hw, hwx⟩ := hS
  refine A_aload_n dL_law_662 rfl ?_
  refine A_aload_nS dL_law_663 rfl ?_
  refine A_iload_n dL_law_664 rfl ?_
  refine A_iconst dL_law_665 (by decide) ?_
  refine A_iadd dL_law_666 ⟨by omega, by omega⟩ ?_
  refine A_sld dL_law_667 hX hb hbA (by omega) (by omega) ?_
  refine A_aload_nS dL_law_668 rfl ?_
  refine A_iload_n dL_law_669 rfl ?_
  refine A_iconst dL_law_670 (by decide) ?_
  refine A_iadd dL_law_671 ⟨by omega, by omega⟩ ?_
  refine A_sld dL_law_672 hX hb hbA (by omega) (by omega) ?_
  refine A_vI2 (mj := mX7_queue) dL_law_673 hR (by decide) ok_X7_queue mv_X7_queue ml_RL_92 pA.1 rfl rfl rfl (x_queue pA hx hw) (fun zx Mx gx kx qx => ?_)
  obtain ⟨a1, a2, a3⟩ := qx
  have hy1 := rY_65 hy hw.1 a2
  refine A_aload_n dL_law_676 rfl ?_
  refine A_aload_nS dL_law_677 rfl ?_
  refine A_iload_n dL_law_678 rfl ?_
  refine A_iconst dL_law_679 (by decide) ?_
  refine A_iadd dL_law_680 ⟨by omega, by omega⟩ ?_
  refine A_sld dL_law_681 hX hb hbA (by omega) (by omega) ?_
  refine A_aload_nS dL_law_682 rfl ?_
  refine A_iload_n dL_law_683 rfl ?_
  refine A_iconst dL_law_684 (by decide) ?_
  refine A_iadd dL_law_685 ⟨by omega, by omega⟩ ?_
  refine A_sld dL_law_686 hX hb hbA (by omega) (by omega) ?_
  refine A_vI2 (mj := mX8_queue) dL_law_687 hR (by decide) ok_X8_queue mv_X8_queue ml_RL_95 pM.1 rfl rfl rfl (m_queue (m := 65) pM hy1 hw) (fun zm Mm gm km qm => ?_)
  obtain ⟨b1, b2, b3⟩ := qm
  have hx1 := rX_65 a1 b2
  refine A_icmp_eq (tgt := 1038) dL_law_690 (by decide) (fun h => kk _ _ ⟨hx1, b1, hw, hwx⟩) (fun h => absurd (a3.trans b3.symm) h)

set_option maxRecDepth 100000 in
set_option maxHeartbeats 4000000 in
theorem lw_honey {E : EN} {G : CX} {n i : Nat} {xs : Nat → Int32} {M : Mem} {S : GS} (H : lwH E G n xs) (hS : lwS M S) (hi : i + 4 ≤ n) (kk : ∀ (M' : Mem) (S' : GS), lwS M' S' → AW E mL_law G 78 1218 1038 [vS 40, vR 0, vR 65, vI i] [] M') : AW E mL_law G 78 1218 695 [vS 40, vR 0, vR 65, vI i] [] M := by
  obtain ⟨pA, pM, hR, hX, hb, hbA, hL⟩ := H
  obtain ⟨hx, hy, hw, hwx⟩ := hS
  refine A_aload_n dL_law_695 rfl ?_
  refine A_aload_nS dL_law_696 rfl ?_
  refine A_iload_n dL_law_697 rfl ?_
  refine A_iconst dL_law_698 (by decide) ?_
  refine A_iadd dL_law_699 ⟨by omega, by omega⟩ ?_
  refine A_sld dL_law_700 hX hb hbA (by omega) (by omega) ?_
  refine A_aload_nS dL_law_701 rfl ?_
  refine A_iload_n dL_law_702 rfl ?_
  refine A_iconst dL_law_703 (by decide) ?_
  refine A_iadd dL_law_704 ⟨by omega, by omega⟩ ?_
  refine A_sld dL_law_705 hX hb hbA (by omega) (by omega) ?_
  refine A_aload_nS dL_law_706 rfl ?_
  refine A_iload_n dL_law_707 rfl ?_
  refine A_iconst dL_law_708 (by decide) ?_
  refine A_iadd dL_law_709 ⟨by omega, by omega⟩ ?_
  refine A_sld dL_law_710 hX hb hbA (by omega) (by omega) ?_
  refine A_vI3 (mj := mX7_honey) dL_law_711 hR (by decide) ok_X7_honey mv_X7_honey ml_RL_96 pA.1 rfl rfl rfl (x_honey pA hx hw) (fun zx Mx gx kx qx => ?_)
  obtain ⟨a1, a2, a3⟩ := qx
  have hy1 := rY_65 hy hw.1 a2
  refine A_aload_n dL_law_714 rfl ?_
  refine A_aload_nS dL_law_715 rfl ?_
  refine A_iload_n dL_law_716 rfl ?_
  refine A_iconst dL_law_717 (by decide) ?_
  refine A_iadd dL_law_718 ⟨by omega, by omega⟩ ?_
  refine A_sld dL_law_719 hX hb hbA (by omega) (by omega) ?_
  refine A_aload_nS dL_law_720 rfl ?_
  refine A_iload_n dL_law_721 rfl ?_
  refine A_iconst dL_law_722 (by decide) ?_
  refine A_iadd dL_law_723 ⟨by omega, by omega⟩ ?_
  refine A_sld dL_law_724 hX hb hbA (by omega) (by omega) ?_
  refine A_aload_nS dL_law_725 rfl ?_
  refine A_iload_n dL_law_726 rfl ?_
  refine A_iconst dL_law_727 (by decide) ?_
  refine A_iadd dL_law_728 ⟨by omega, by omega⟩ ?_
  refine A_sld dL_law_729 hX hb hbA (by omega) (by omega) ?_
  refine A_vI3 (mj := mX8_honey) dL_law_730 hR (by decide) ok_X8_honey mv_X8_honey ml_RL_99 pM.1 rfl rfl rfl (m_honey (m := 65) pM hy1 hw) (fun zm Mm gm km qm => ?_)
  obtain ⟨b1, b2, b3⟩ := qm
  have hx1 := rX_65 a1 b2
  refine A_icmp_eq (tgt := 1038) dL_law_733 (by decide) (fun h => kk _ S ⟨hx1, b1, hw, hwx⟩) (fun h => absurd (R_honey_u hw.2.1.1 a3 b3) h)

set_option maxRecDepth 100000 in
set_option maxHeartbeats 4000000 in
theorem lw_smear {E : EN} {G : CX} {n i : Nat} {xs : Nat → Int32} {M : Mem} {S : GS} (H : lwH E G n xs) (hS : lwS M S) (hi : i + 4 ≤ n) (kk : ∀ (M' : Mem) (S' : GS), lwS M' S' → AW E mL_law G 78 1218 1038 [vS 40, vR 0, vR 65, vI i] [] M') : AW E mL_law G 78 1218 738 [vS 40, vR 0, vR 65, vI i] [] M := by
  obtain ⟨pA, pM, hR, hX, hb, hbA, hL⟩ := H
  obtain ⟨hx, hy, hw, hwx⟩ := hS
  refine A_aload_n dL_law_738 rfl ?_
  refine A_aload_nS dL_law_739 rfl ?_
  refine A_iload_n dL_law_740 rfl ?_
  refine A_iconst dL_law_741 (by decide) ?_
  refine A_iadd dL_law_742 ⟨by omega, by omega⟩ ?_
  refine A_sld dL_law_743 hX hb hbA (by omega) (by omega) ?_
  refine A_aload_nS dL_law_744 rfl ?_
  refine A_iload_n dL_law_745 rfl ?_
  refine A_iconst dL_law_746 (by decide) ?_
  refine A_iadd dL_law_747 ⟨by omega, by omega⟩ ?_
  refine A_sld dL_law_748 hX hb hbA (by omega) (by omega) ?_
  refine A_aload_nS dL_law_749 rfl ?_
  refine A_iload_n dL_law_750 rfl ?_
  refine A_iconst dL_law_751 (by decide) ?_
  refine A_iadd dL_law_752 ⟨by omega, by omega⟩ ?_
  refine A_sld dL_law_753 hX hb hbA (by omega) (by omega) ?_
  refine A_vI3 (mj := mX7_smear) dL_law_754 hR (by decide) ok_X7_smear mv_X7_smear ml_RL_100 pA.1 rfl rfl rfl (x_smear pA hx hw) (fun zx Mx gx kx qx => ?_)
  obtain ⟨a1, a2, a3⟩ := qx
  have hy1 := rY_65 hy hw.1 a2
  refine A_aload_n dL_law_757 rfl ?_
  refine A_aload_nS dL_law_758 rfl ?_
  refine A_iload_n dL_law_759 rfl ?_
  refine A_iconst dL_law_760 (by decide) ?_
  refine A_iadd dL_law_761 ⟨by omega, by omega⟩ ?_
  refine A_sld dL_law_762 hX hb hbA (by omega) (by omega) ?_
  refine A_aload_nS dL_law_763 rfl ?_
  refine A_iload_n dL_law_764 rfl ?_
  refine A_iconst dL_law_765 (by decide) ?_
  refine A_iadd dL_law_766 ⟨by omega, by omega⟩ ?_
  refine A_sld dL_law_767 hX hb hbA (by omega) (by omega) ?_
  refine A_aload_nS dL_law_768 rfl ?_
  refine A_iload_n dL_law_769 rfl ?_
  refine A_iconst dL_law_770 (by decide) ?_
  refine A_iadd dL_law_771 ⟨by omega, by omega⟩ ?_
  refine A_sld dL_law_772 hX hb hbA (by omega) (by omega) ?_
  refine A_vI3 (mj := mX8_smear) dL_law_773 hR (by decide) ok_X8_smear mv_X8_smear ml_RL_103 pM.1 rfl rfl rfl (m_smear (m := 65) pM hy1 hw) (fun zm Mm gm km qm => ?_)
  obtain ⟨b1, b2, b3⟩ := qm
  have hx1 := rX_65 a1 b2
  refine A_icmp_eq (tgt := 1038) dL_law_776 (by decide) (fun h => kk _ _ ⟨hx1, b1, hw, hwx⟩) (fun h => absurd (a3.trans b3.symm) h)

set_option maxRecDepth 100000 in
set_option maxHeartbeats 4000000 in
theorem lw_quiet {E : EN} {G : CX} {n i : Nat} {xs : Nat → Int32} {M : Mem} {S : GS} (H : lwH E G n xs) (hS : lwS M S) (hi : i + 4 ≤ n) (kk : ∀ (M' : Mem) (S' : GS), lwS M' S' → AW E mL_law G 78 1218 1038 [vS 40, vR 0, vR 65, vI i] [] M') : AW E mL_law G 78 1218 781 [vS 40, vR 0, vR 65, vI i] [] M := by
  obtain ⟨pA, pM, hR, hX, hb, hbA, hL⟩ := H
  obtain ⟨hx, hy, hw, hwx⟩ := hS
  refine A_aload_n dL_law_781 rfl ?_
  refine A_aload_nS dL_law_782 rfl ?_
  refine A_iload_n dL_law_783 rfl ?_
  refine A_iconst dL_law_784 (by decide) ?_
  refine A_iadd dL_law_785 ⟨by omega, by omega⟩ ?_
  refine A_sld dL_law_786 hX hb hbA (by omega) (by omega) ?_
  refine A_aload_nS dL_law_787 rfl ?_
  refine A_iload_n dL_law_788 rfl ?_
  refine A_iconst dL_law_789 (by decide) ?_
  refine A_iadd dL_law_790 ⟨by omega, by omega⟩ ?_
  refine A_sld dL_law_791 hX hb hbA (by omega) (by omega) ?_
  refine A_vI2 (mj := mX7_quiet) dL_law_792 hR (by decide) ok_X7_quiet mv_X7_quiet ml_RL_104 pA.1 rfl rfl rfl (x_quiet pA hx hw) (fun zx Mx gx kx qx => ?_)
  obtain ⟨a1, a2, a3⟩ := qx
  have hy1 := rY_65 hy hw.1 a2
  refine A_aload_n dL_law_795 rfl ?_
  refine A_aload_nS dL_law_796 rfl ?_
  refine A_iload_n dL_law_797 rfl ?_
  refine A_iconst dL_law_798 (by decide) ?_
  refine A_iadd dL_law_799 ⟨by omega, by omega⟩ ?_
  refine A_sld dL_law_800 hX hb hbA (by omega) (by omega) ?_
  refine A_aload_nS dL_law_801 rfl ?_
  refine A_iload_n dL_law_802 rfl ?_
  refine A_iconst dL_law_803 (by decide) ?_
  refine A_iadd dL_law_804 ⟨by omega, by omega⟩ ?_
  refine A_sld dL_law_805 hX hb hbA (by omega) (by omega) ?_
  refine A_vI2 (mj := mX8_quiet) dL_law_806 hR (by decide) ok_X8_quiet mv_X8_quiet ml_RL_107 pM.1 rfl rfl rfl (m_quiet (m := 65) pM hy1 hw) (fun zm Mm gm km qm => ?_)
  obtain ⟨b1, b2, b3⟩ := qm
  have hx1 := rX_65 a1 b2
  refine A_icmp_eq (tgt := 1038) dL_law_809 (by decide) (fun h => kk _ S ⟨hx1, b1, hw, hwx⟩) (fun h => absurd (R_quiet_u hw.1 a3 b3) h)

set_option maxRecDepth 100000 in
set_option maxHeartbeats 4000000 in
theorem lw_harm {E : EN} {G : CX} {n i : Nat} {xs : Nat → Int32} {M : Mem} {S : GS} (H : lwH E G n xs) (hS : lwS M S) (hi : i + 4 ≤ n) (kk : ∀ (M' : Mem) (S' : GS), lwS M' S' → AW E mL_law G 78 1218 1038 [vS 40, vR 0, vR 65, vI i] [] M') : AW E mL_law G 78 1218 814 [vS 40, vR 0, vR 65, vI i] [] M := by
  obtain ⟨pA, pM, hR, hX, hb, hbA, hL⟩ := H
  obtain ⟨hx, hy, hw, hwx⟩ := hS
  refine A_aload_n dL_law_814 rfl ?_
  refine A_aload_nS dL_law_815 rfl ?_
  refine A_iload_n dL_law_816 rfl ?_
  refine A_iconst dL_law_817 (by decide) ?_
  refine A_iadd dL_law_818 ⟨by omega, by omega⟩ ?_
  refine A_sld dL_law_819 hX hb hbA (by omega) (by omega) ?_
  refine A_aload_nS dL_law_820 rfl ?_
  refine A_iload_n dL_law_821 rfl ?_
  refine A_iconst dL_law_822 (by decide) ?_
  refine A_iadd dL_law_823 ⟨by omega, by omega⟩ ?_
  refine A_sld dL_law_824 hX hb hbA (by omega) (by omega) ?_
  refine A_vI2 (mj := mX7_harm) dL_law_825 hR (by decide) ok_X7_harm mv_X7_harm ml_RL_108 pA.1 rfl rfl rfl (x_harm pA hx hw) (fun zx Mx gx kx qx => ?_)
  obtain ⟨a1, a2, a3⟩ := qx
  have hy1 := rY_65 hy hw.1 a2
  refine A_aload_n dL_law_828 rfl ?_
  refine A_aload_nS dL_law_829 rfl ?_
  refine A_iload_n dL_law_830 rfl ?_
  refine A_iconst dL_law_831 (by decide) ?_
  refine A_iadd dL_law_832 ⟨by omega, by omega⟩ ?_
  refine A_sld dL_law_833 hX hb hbA (by omega) (by omega) ?_
  refine A_aload_nS dL_law_834 rfl ?_
  refine A_iload_n dL_law_835 rfl ?_
  refine A_iconst dL_law_836 (by decide) ?_
  refine A_iadd dL_law_837 ⟨by omega, by omega⟩ ?_
  refine A_sld dL_law_838 hX hb hbA (by omega) (by omega) ?_
  refine A_vI2 (mj := mX8_harm) dL_law_839 hR (by decide) ok_X8_harm mv_X8_harm ml_RL_111 pM.1 rfl rfl rfl (m_harm (m := 65) pM hy1 hw) (fun zm Mm gm km qm => ?_)
  obtain ⟨b1, b2, b3⟩ := qm
  have hx1 := rX_65 a1 b2
  refine A_icmp_eq (tgt := 1038) dL_law_842 (by decide) (fun h => kk _ _ ⟨hx1, b1, hw, hwx⟩) (fun h => absurd (a3.trans b3.symm) h)

set_option maxRecDepth 100000 in
set_option maxHeartbeats 4000000 in
theorem lw_worst {E : EN} {G : CX} {n i : Nat} {xs : Nat → Int32} {M : Mem} {S : GS} (H : lwH E G n xs) (hS : lwS M S) (hi : i + 4 ≤ n) (kk : ∀ (M' : Mem) (S' : GS), lwS M' S' → AW E mL_law G 78 1218 1038 [vS 40, vR 0, vR 65, vI i] [] M') : AW E mL_law G 78 1218 847 [vS 40, vR 0, vR 65, vI i] [] M := by
  obtain ⟨pA, pM, hR, hX, hb, hbA, hL⟩ := H
  obtain ⟨hx, hy, hw, hwx⟩ := hS
  refine A_aload_n dL_law_847 rfl ?_
  refine A_aload_nS dL_law_848 rfl ?_
  refine A_iload_n dL_law_849 rfl ?_
  refine A_iconst dL_law_850 (by decide) ?_
  refine A_iadd dL_law_851 ⟨by omega, by omega⟩ ?_
  refine A_sld dL_law_852 hX hb hbA (by omega) (by omega) ?_
  refine A_vI1 (mj := mX7_worst) dL_law_853 hR (by decide) ok_X7_worst mv_X7_worst ml_RL_112 pA.1 rfl rfl rfl (x_worst pA hx hw) (fun zx Mx gx kx qx => ?_)
  obtain ⟨a1, a2, a3⟩ := qx
  have hy1 := rY_65 hy hw.1 a2
  refine A_aload_n dL_law_856 rfl ?_
  refine A_aload_nS dL_law_857 rfl ?_
  refine A_iload_n dL_law_858 rfl ?_
  refine A_iconst dL_law_859 (by decide) ?_
  refine A_iadd dL_law_860 ⟨by omega, by omega⟩ ?_
  refine A_sld dL_law_861 hX hb hbA (by omega) (by omega) ?_
  refine A_vI1 (mj := mX8_worst) dL_law_862 hR (by decide) ok_X8_worst mv_X8_worst ml_RL_115 pM.1 rfl rfl rfl (m_worst (m := 65) pM hy1 hw) (fun zm Mm gm km qm => ?_)
  obtain ⟨b1, b2, b3⟩ := qm
  have hx1 := rX_65 a1 b2
  refine A_icmp_eq (tgt := 1038) dL_law_865 (by decide) (fun h => kk _ _ ⟨hx1, b1, hw, hwx⟩) (fun h => absurd (a3.trans b3.symm) h)

set_option maxRecDepth 100000 in
set_option maxHeartbeats 4000000 in
theorem lw_seen {E : EN} {G : CX} {n i : Nat} {xs : Nat → Int32} {M : Mem} {S : GS} (H : lwH E G n xs) (hS : lwS M S) (hi : i + 4 ≤ n) (kk : ∀ (M' : Mem) (S' : GS), lwS M' S' → AW E mL_law G 78 1218 1038 [vS 40, vR 0, vR 65, vI i] [] M') : AW E mL_law G 78 1218 870 [vS 40, vR 0, vR 65, vI i] [] M := by
  obtain ⟨pA, pM, hR, hX, hb, hbA, hL⟩ := H
  obtain ⟨hx, hy, hw, hwx⟩ := hS
  refine A_aload_n dL_law_870 rfl ?_
  refine A_aload_nS dL_law_871 rfl ?_
  refine A_iload_n dL_law_872 rfl ?_
  refine A_iconst dL_law_873 (by decide) ?_
  refine A_iadd dL_law_874 ⟨by omega, by omega⟩ ?_
  refine A_sld dL_law_875 hX hb hbA (by omega) (by omega) ?_
  refine A_aload_nS dL_law_876 rfl ?_
  refine A_iload_n dL_law_877 rfl ?_
  refine A_iconst dL_law_878 (by decide) ?_
  refine A_iadd dL_law_879 ⟨by omega, by omega⟩ ?_
  refine A_sld dL_law_880 hX hb hbA (by omega) (by omega) ?_
  refine A_aload_nS dL_law_881 rfl ?_
  refine A_iload_n dL_law_882 rfl ?_
  refine A_iconst dL_law_883 (by decide) ?_
  refine A_iadd dL_law_884 ⟨by omega, by omega⟩ ?_
  refine A_sld dL_law_885 hX hb hbA (by omega) (by omega) ?_
  refine A_vI3 (mj := mX7_seen) dL_law_886 hR (by decide) ok_X7_seen mv_X7_seen ml_RL_116 pA.1 rfl rfl rfl (x_seen pA hx hw) (fun zx Mx gx kx qx => ?_)
  obtain ⟨a1, a2, a3⟩ := qx
  have hy1 := rY_65 hy hw.1 a2
  refine A_aload_n dL_law_889 rfl ?_
  refine A_aload_nS dL_law_890 rfl ?_
  refine A_iload_n dL_law_891 rfl ?_
  refine A_iconst dL_law_892 (by decide) ?_
  refine A_iadd dL_law_893 ⟨by omega, by omega⟩ ?_
  refine A_sld dL_law_894 hX hb hbA (by omega) (by omega) ?_
  refine A_aload_nS dL_law_895 rfl ?_
  refine A_iload_n dL_law_896 rfl ?_
  refine A_iconst dL_law_897 (by decide) ?_
  refine A_iadd dL_law_898 ⟨by omega, by omega⟩ ?_
  refine A_sld dL_law_899 hX hb hbA (by omega) (by omega) ?_
  refine A_aload_nS dL_law_900 rfl ?_
  refine A_iload_n dL_law_901 rfl ?_
  refine A_iconst dL_law_902 (by decide) ?_
  refine A_iadd dL_law_903 ⟨by omega, by omega⟩ ?_
  refine A_sld dL_law_904 hX hb hbA (by omega) (by omega) ?_
  refine A_vI3 (mj := mX8_seen) dL_law_905 hR (by decide) ok_X8_seen mv_X8_seen ml_RL_119 pM.1 rfl rfl rfl (m_seen (m := 65) pM hy1 hw) (fun zm Mm gm km qm => ?_)
  obtain ⟨b1, b2, b3⟩ := qm
  have hx1 := rX_65 a1 b2
  refine A_icmp_eq (tgt := 1038) dL_law_908 (by decide) (fun h => kk _ _ ⟨hx1, b1, (w_seen _ _ _ hw), (wx_seen _ _ _ hwx)⟩) (fun h => absurd (a3.trans b3.symm) h)

set_option maxRecDepth 100000 in
set_option maxHeartbeats 4000000 in
theorem lw_forget {E : EN} {G : CX} {n i : Nat} {xs : Nat → Int32} {M : Mem} {S : GS} (H : lwH E G n xs) (hS : lwS M S) (hi : i + 4 ≤ n) (kk : ∀ (M' : Mem) (S' : GS), lwS M' S' → AW E mL_law G 78 1218 1038 [vS 40, vR 0, vR 65, vI i] [] M') : AW E mL_law G 78 1218 913 [vS 40, vR 0, vR 65, vI i] [] M := by
  obtain ⟨pA, pM, hR, hX, hb, hbA, hL⟩ := H
  obtain ⟨hx, hy, hw, hwx⟩ := hS
  refine A_aload_n dL_law_913 rfl ?_
  refine A_vI0 (mj := mX7_forget) dL_law_914 hR (by decide) ok_X7_forget mv_X7_forget ml_RL_120 pA.1 rfl rfl rfl (x_forget pA hx hw) (fun zx Mx gx kx qx => ?_)
  obtain ⟨a1, a2, a3⟩ := qx
  have hy1 := rY_65 hy hw.1 a2
  refine A_aload_n dL_law_917 rfl ?_
  refine A_vI0 (mj := mX8_forget) dL_law_918 hR (by decide) ok_X8_forget mv_X8_forget ml_RL_123 pM.1 rfl rfl rfl (m_forget (m := 65) pM hy1 hw) (fun zm Mm gm km qm => ?_)
  obtain ⟨b1, b2, b3⟩ := qm
  have hx1 := rX_65 a1 b2
  refine A_icmp_eq (tgt := 1038) dL_law_921 (by decide) (fun h => kk _ _ ⟨hx1, b1, (w_forget hw), hwx⟩) (fun h => absurd (a3.trans b3.symm) h)

set_option maxRecDepth 100000 in
set_option maxHeartbeats 4000000 in
theorem lw_stamps {E : EN} {G : CX} {n i : Nat} {xs : Nat → Int32} {M : Mem} {S : GS} (H : lwH E G n xs) (hS : lwS M S) (hi : i + 4 ≤ n) (kk : ∀ (M' : Mem) (S' : GS), lwS M' S' → AW E mL_law G 78 1218 1038 [vS 40, vR 0, vR 65, vI i] [] M') : AW E mL_law G 78 1218 926 [vS 40, vR 0, vR 65, vI i] [] M := by
  obtain ⟨pA, pM, hR, hX, hb, hbA, hL⟩ := H
  obtain ⟨hx, hy, hw, hwx⟩ := hS
  refine A_aload_n dL_law_926 rfl ?_
  refine A_aload_nS dL_law_927 rfl ?_
  refine A_iload_n dL_law_928 rfl ?_
  refine A_iconst dL_law_929 (by decide) ?_
  refine A_iadd dL_law_930 ⟨by omega, by omega⟩ ?_
  refine A_sld dL_law_931 hX hb hbA (by omega) (by omega) ?_
  refine A_vI1 (mj := mX7_stamps) dL_law_932 hR (by decide) ok_X7_stamps mv_X7_stamps ml_RL_124 pA.1 rfl rfl rfl (x_stamps pA hx hw) (fun zx Mx gx kx qx => ?_)
  obtain ⟨a1, a2, a3⟩ := qx
  have hy1 := rY_65 hy hw.1 a2
  refine A_aload_n dL_law_935 rfl ?_
  refine A_aload_nS dL_law_936 rfl ?_
  refine A_iload_n dL_law_937 rfl ?_
  refine A_iconst dL_law_938 (by decide) ?_
  refine A_iadd dL_law_939 ⟨by omega, by omega⟩ ?_
  refine A_sld dL_law_940 hX hb hbA (by omega) (by omega) ?_
  refine A_vI1 (mj := mX8_stamps) dL_law_941 hR (by decide) ok_X8_stamps mv_X8_stamps ml_RL_127 pM.1 rfl rfl rfl (m_stamps (m := 65) pM hy1 hw) (fun zm Mm gm km qm => ?_)
  obtain ⟨b1, b2, b3⟩ := qm
  have hx1 := rX_65 a1 b2
  refine A_icmp_eq (tgt := 1038) dL_law_944 (by decide) (fun h => kk _ S ⟨hx1, b1, hw, hwx⟩) (fun h => absurd (R_stamps_u a3 b3) h)

set_option maxRecDepth 100000 in
set_option maxHeartbeats 4000000 in
theorem lw_crumbs {E : EN} {G : CX} {n i : Nat} {xs : Nat → Int32} {M : Mem} {S : GS} (H : lwH E G n xs) (hS : lwS M S) (hi : i + 4 ≤ n) (kk : ∀ (M' : Mem) (S' : GS), lwS M' S' → AW E mL_law G 78 1218 1038 [vS 40, vR 0, vR 65, vI i] [] M') : AW E mL_law G 78 1218 949 [vS 40, vR 0, vR 65, vI i] [] M := by
  obtain ⟨pA, pM, hR, hX, hb, hbA, hL⟩ := H
  obtain ⟨hx, hy, hw, hwx⟩ := hS
  refine A_aload_n dL_law_949 rfl ?_
  refine A_aload_nS dL_law_950 rfl ?_
  refine A_iload_n dL_law_951 rfl ?_
  refine A_iconst dL_law_952 (by decide) ?_
  refine A_iadd dL_law_953 ⟨by omega, by omega⟩ ?_
  refine A_sld dL_law_954 hX hb hbA (by omega) (by omega) ?_
  refine A_aload_nS dL_law_955 rfl ?_
  refine A_iload_n dL_law_956 rfl ?_
  refine A_iconst dL_law_957 (by decide) ?_
  refine A_iadd dL_law_958 ⟨by omega, by omega⟩ ?_
  refine A_sld dL_law_959 hX hb hbA (by omega) (by omega) ?_
  refine A_vI2 (mj := mX7_crumbs) dL_law_960 hR (by decide) ok_X7_crumbs mv_X7_crumbs ml_RL_128 pA.1 rfl rfl rfl (x_crumbs pA hx hw) (fun zx Mx gx kx qx => ?_)
  obtain ⟨a1, a2, a3⟩ := qx
  have hy1 := rY_65 hy hw.1 a2
  refine A_aload_n dL_law_963 rfl ?_
  refine A_aload_nS dL_law_964 rfl ?_
  refine A_iload_n dL_law_965 rfl ?_
  refine A_iconst dL_law_966 (by decide) ?_
  refine A_iadd dL_law_967 ⟨by omega, by omega⟩ ?_
  refine A_sld dL_law_968 hX hb hbA (by omega) (by omega) ?_
  refine A_aload_nS dL_law_969 rfl ?_
  refine A_iload_n dL_law_970 rfl ?_
  refine A_iconst dL_law_971 (by decide) ?_
  refine A_iadd dL_law_972 ⟨by omega, by omega⟩ ?_
  refine A_sld dL_law_973 hX hb hbA (by omega) (by omega) ?_
  refine A_vI2 (mj := mX8_crumbs) dL_law_974 hR (by decide) ok_X8_crumbs mv_X8_crumbs ml_RL_131 pM.1 rfl rfl rfl (m_crumbs (m := 65) pM hy1 hw) (fun zm Mm gm km qm => ?_)
  obtain ⟨b1, b2, b3⟩ := qm
  have hx1 := rX_65 a1 b2
  refine A_icmp_eq (tgt := 1038) dL_law_977 (by decide) (fun h => kk _ _ ⟨hx1, b1, (w_crumbs _ _ hw), (wx_crumbs _ _ hwx)⟩) (fun h => absurd (a3.trans b3.symm) h)

set_option maxRecDepth 100000 in
set_option maxHeartbeats 4000000 in
theorem lw_odds {E : EN} {G : CX} {n i : Nat} {xs : Nat → Int32} {M : Mem} {S : GS} (H : lwH E G n xs) (hS : lwS M S) (hi : i + 4 ≤ n) (kk : ∀ (M' : Mem) (S' : GS), lwS M' S' → AW E mL_law G 78 1218 1038 [vS 40, vR 0, vR 65, vI i] [] M') : AW E mL_law G 78 1218 982 [vS 40, vR 0, vR 65, vI i] [] M := by
  obtain ⟨pA, pM, hR, hX, hb, hbA, hL⟩ := H
  obtain ⟨hx, hy, hw, hwx⟩ := hS
  refine A_aload_n dL_law_982 rfl ?_
  refine A_aload_nS dL_law_983 rfl ?_
  refine A_iload_n dL_law_984 rfl ?_
  refine A_iconst dL_law_985 (by decide) ?_
  refine A_iadd dL_law_986 ⟨by omega, by omega⟩ ?_
  refine A_sld dL_law_987 hX hb hbA (by omega) (by omega) ?_
  refine A_aload_nS dL_law_988 rfl ?_
  refine A_iload_n dL_law_989 rfl ?_
  refine A_iconst dL_law_990 (by decide) ?_
  refine A_iadd dL_law_991 ⟨by omega, by omega⟩ ?_
  refine A_sld dL_law_992 hX hb hbA (by omega) (by omega) ?_
  refine A_vI2 (mj := mX7_odds) dL_law_993 hR (by decide) ok_X7_odds mv_X7_odds ml_RL_132 pA.1 rfl rfl rfl (x_odds pA hx hw) (fun zx Mx gx kx qx => ?_)
  obtain ⟨ex, qx⟩ := qx
  subst Mx
  refine A_aload_n dL_law_996 rfl ?_
  refine A_aload_nS dL_law_997 rfl ?_
  refine A_iload_n dL_law_998 rfl ?_
  refine A_iconst dL_law_999 (by decide) ?_
  refine A_iadd dL_law_1000 ⟨by omega, by omega⟩ ?_
  refine A_sld dL_law_1001 hX hb hbA (by omega) (by omega) ?_
  refine A_aload_nS dL_law_1002 rfl ?_
  refine A_iload_n dL_law_1003 rfl ?_
  refine A_iconst dL_law_1004 (by decide) ?_
  refine A_iadd dL_law_1005 ⟨by omega, by omega⟩ ?_
  refine A_sld dL_law_1006 hX hb hbA (by omega) (by omega) ?_
  refine A_vI2 (mj := mX8_odds) dL_law_1007 hR (by decide) ok_X8_odds mv_X8_odds ml_RL_135 pM.1 rfl rfl rfl (m_odds (m := 65) pM hy hw) (fun zm Mm gm km qm => ?_)
  obtain ⟨em, qm⟩ := qm
  subst Mm
  refine A_icmp_eq (tgt := 1038) dL_law_1010 (by decide) (fun h => kk _ S ⟨hx, hy, hw, hwx⟩) (fun h => absurd (qx.trans qm.symm) h)

set_option maxRecDepth 100000 in
set_option maxHeartbeats 4000000 in
theorem lw_count {E : EN} {G : CX} {n i : Nat} {xs : Nat → Int32} {M : Mem} {S : GS} (H : lwH E G n xs) (hS : lwS M S) (hi : i + 4 ≤ n) (kk : ∀ (M' : Mem) (S' : GS), lwS M' S' → AW E mL_law G 78 1218 1038 [vS 40, vR 0, vR 65, vI i] [] M') : AW E mL_law G 78 1218 1015 [vS 40, vR 0, vR 65, vI i] [] M := by
  obtain ⟨pA, pM, hR, hX, hb, hbA, hL⟩ := H
  obtain ⟨hx, hy, hw, hwx⟩ := hS
  refine A_aload_n dL_law_1015 rfl ?_
  refine A_aload_nS dL_law_1016 rfl ?_
  refine A_iload_n dL_law_1017 rfl ?_
  refine A_iconst dL_law_1018 (by decide) ?_
  refine A_iadd dL_law_1019 ⟨by omega, by omega⟩ ?_
  refine A_sld dL_law_1020 hX hb hbA (by omega) (by omega) ?_
  refine A_vI1 (mj := mX7_count) dL_law_1021 hR (by decide) ok_X7_count mv_X7_count ml_RL_136 pA.1 rfl rfl rfl (x_count pA hx hw) (fun zx Mx gx kx qx => ?_)
  obtain ⟨ex, qx⟩ := qx
  subst Mx
  refine A_aload_n dL_law_1024 rfl ?_
  refine A_aload_nS dL_law_1025 rfl ?_
  refine A_iload_n dL_law_1026 rfl ?_
  refine A_iconst dL_law_1027 (by decide) ?_
  refine A_iadd dL_law_1028 ⟨by omega, by omega⟩ ?_
  refine A_sld dL_law_1029 hX hb hbA (by omega) (by omega) ?_
  refine A_vI1 (mj := mX8_count) dL_law_1030 hR (by decide) ok_X8_count mv_X8_count ml_RL_139 pM.1 rfl rfl rfl (m_count (m := 65) pM hy hw) (fun zm Mm gm km qm => ?_)
  obtain ⟨em, qm⟩ := qm
  subst Mm
  refine A_icmp_eq (tgt := 1038) dL_law_1033 (by decide) (fun h => kk _ S ⟨hx, hy, hw, hwx⟩) (fun h => absurd (qx.trans qm.symm) h)

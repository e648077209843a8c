/-! the law's calls, the others -/
section LW
variable {l : Launch} {g : cm_G} {I : cm_I} {L : cm_L} {hr tl : Option Nat} {Q : cm_Post} {m k : Nat} {n : Nat} {kd mm : Nat → Nat} {len : Nat} {tx : Nat → Nat} {hs : List (List Cls)} {hx c1 : Nat} {w1 : Nat → Nat} {c2 : Nat} {w2 : Nat → Nat} {im : IM} {s : List Nat} {tp : TP}
theorem lc_part (h6 : 6 * k + 6 ≤ g.2.2.2.2.1) (C : CI n kd mm len tx hs hx c1 w1 c2 w2 im s tp I L) (M : MI n kd mm len tx hs hx c1 w1 c2 w2 im s tp I L) (T : ∀ p, p < 6 → TBp (tp p)) (nx : LN l g m k Q) : cm_Ex l g 40 (m + 1) (3 * (m + 1)) mL_law 549 [.retAddr 3, .ref 0, .ref 73, .int (nI (6 * k))] [] I L (RR n hr tl) (DD n) Q := by
  refine x_aldn qL_law_549 rfl trivial ?_
  refine x_aldn qL_law_550 rfl trivial ?_
  refine x_ildn qL_law_551 rfl ?_
  refine x_iconst (v := nI 1) qL_law_552 rfl ?_
  refine x_iadd_n qL_law_553 ?_
  refine x_sald qL_law_554 rfl (by omega) ?_
  refine x_aldn qL_law_555 rfl trivial ?_
  refine x_ildn qL_law_556 rfl ?_
  refine x_iconst (v := nI 2) qL_law_557 rfl ?_
  refine x_iadd_n qL_law_558 ?_
  refine x_sald qL_law_559 rfl (by omega) ?_
  refine x_cV2 (d' := 7) qL_law_560 cL_77 rfl ⟨_, rfl, rfl⟩ rfl rfl (Nat.le_of_ble_eq_true rfl) (Nat.le_of_ble_eq_true rfl) (by decide) ?_
  refine c_X11_part C (fun I1 L1 hr1 tl1 C1 K1 => ?_)
  have M1 := MI_KM M K1
  refine x_aldn qL_law_563 rfl trivial ?_
  refine x_aldn qL_law_564 rfl trivial ?_
  refine x_ildn qL_law_565 rfl ?_
  refine x_iconst (v := nI 1) qL_law_566 rfl ?_
  refine x_iadd_n qL_law_567 ?_
  refine x_sald qL_law_568 rfl (by omega) ?_
  refine x_aldn qL_law_569 rfl trivial ?_
  refine x_ildn qL_law_570 rfl ?_
  refine x_iconst (v := nI 2) qL_law_571 rfl ?_
  refine x_iadd_n qL_law_572 ?_
  refine x_sald qL_law_573 rfl (by omega) ?_
  refine x_cV2 (d' := 6) qL_law_574 cL_80 rfl ⟨_, rfl, rfl⟩ rfl rfl (Nat.le_of_ble_eq_true rfl) (Nat.le_of_ble_eq_true rfl) (by decide) ?_
  refine c_X12_part M1 (fun I2 L2 M2 K2 => ?_)
  refine x_icmp_eq_t (tgt := 1032) qL_law_577 (by omega) rfl ?_
  exact cm_up (nx _ _ _ _ _ _ _ _ _ _ _ _ _ _ _ _ _ _ (CI_KC C1 K2) M2 T) (Nat.le_refl _) (by omega) (by omega)
theorem lc_wires (h6 : 6 * k + 6 ≤ g.2.2.2.2.1) (C : CI n kd mm len tx hs hx c1 w1 c2 w2 im s tp I L) (M : MI n kd mm len tx hs hx c1 w1 c2 w2 im s tp I L) (T : ∀ p, p < 6 → TBp (tp p)) (nx : LN l g m k Q) : cm_Ex l g 40 (m + 1) (3 * (m + 1)) mL_law 582 [.retAddr 3, .ref 0, .ref 73, .int (nI (6 * k))] [] I L (RR n hr tl) (DD n) Q := by
  refine x_aldn qL_law_582 rfl trivial ?_
  refine x_aldn qL_law_583 rfl trivial ?_
  refine x_ildn qL_law_584 rfl ?_
  refine x_iconst (v := nI 1) qL_law_585 rfl ?_
  refine x_iadd_n qL_law_586 ?_
  refine x_sald qL_law_587 rfl (by omega) ?_
  refine x_cV1 (d' := 7) qL_law_588 cL_81 rfl ⟨_, rfl, rfl⟩ rfl rfl (Nat.le_of_ble_eq_true rfl) (Nat.le_of_ble_eq_true rfl) (by decide) ?_
  refine c_X11_wires C (fun I1 L1 hr1 tl1 C1 K1 => ?_)
  have M1 := MI_KM M K1
  refine x_aldn qL_law_591 rfl trivial ?_
  refine x_aldn qL_law_592 rfl trivial ?_
  refine x_ildn qL_law_593 rfl ?_
  refine x_iconst (v := nI 1) qL_law_594 rfl ?_
  refine x_iadd_n qL_law_595 ?_
  refine x_sald qL_law_596 rfl (by omega) ?_
  refine x_cV1 (d' := 6) qL_law_597 cL_84 rfl ⟨_, rfl, rfl⟩ rfl rfl (Nat.le_of_ble_eq_true rfl) (Nat.le_of_ble_eq_true rfl) (by decide) ?_
  refine c_X12_wires M1 (fun I2 L2 M2 K2 => ?_)
  refine x_icmp_eq_t (tgt := 1032) qL_law_600 (by omega) rfl ?_
  exact cm_up (nx _ _ _ _ _ _ _ _ _ _ _ _ _ _ _ _ _ _ (CI_KC C1 K2) M2 T) (Nat.le_refl _) (by omega) (by omega)
theorem lc_coarse (h6 : 6 * k + 6 ≤ g.2.2.2.2.1) (C : CI n kd mm len tx hs hx c1 w1 c2 w2 im s tp I L) (M : MI n kd mm len tx hs hx c1 w1 c2 w2 im s tp I L) (T : ∀ p, p < 6 → TBp (tp p)) (nx : LN l g m k Q) : cm_Ex l g 40 (m + 1) (3 * (m + 1)) mL_law 605 [.retAddr 3, .ref 0, .ref 73, .int (nI (6 * k))] [] I L (RR n hr tl) (DD n) Q := by
  refine x_aldn qL_law_605 rfl trivial ?_
  refine x_aldn qL_law_606 rfl trivial ?_
  refine x_ildn qL_law_607 rfl ?_
  refine x_iconst (v := nI 1) qL_law_608 rfl ?_
  refine x_iadd_n qL_law_609 ?_
  refine x_sald qL_law_610 rfl (by omega) ?_
  refine x_aldn qL_law_611 rfl trivial ?_
  refine x_ildn qL_law_612 rfl ?_
  refine x_iconst (v := nI 2) qL_law_613 rfl ?_
  refine x_iadd_n qL_law_614 ?_
  refine x_sald qL_law_615 rfl (by omega) ?_
  refine x_cV2 (d' := 7) qL_law_616 cL_85 rfl ⟨_, rfl, rfl⟩ rfl rfl (Nat.le_of_ble_eq_true rfl) (Nat.le_of_ble_eq_true rfl) (by decide) ?_
  refine c_X11_coarse C (fun I1 L1 hr1 tl1 C1 K1 => ?_)
  have M1 := MI_KM M K1
  refine x_aldn qL_law_619 rfl trivial ?_
  refine x_aldn qL_law_620 rfl trivial ?_
  refine x_ildn qL_law_621 rfl ?_
  refine x_iconst (v := nI 1) qL_law_622 rfl ?_
  refine x_iadd_n qL_law_623 ?_
  refine x_sald qL_law_624 rfl (by omega) ?_
  refine x_aldn qL_law_625 rfl trivial ?_
  refine x_ildn qL_law_626 rfl ?_
  refine x_iconst (v := nI 2) qL_law_627 rfl ?_
  refine x_iadd_n qL_law_628 ?_
  refine x_sald qL_law_629 rfl (by omega) ?_
  refine x_cV2 (d' := 6) qL_law_630 cL_88 rfl ⟨_, rfl, rfl⟩ rfl rfl (Nat.le_of_ble_eq_true rfl) (Nat.le_of_ble_eq_true rfl) (by decide) ?_
  refine c_X12_coarse M1 (fun I2 L2 M2 K2 => ?_)
  refine x_icmp_eq_t (tgt := 1032) qL_law_633 (by omega) rfl ?_
  exact cm_up (nx _ _ _ _ _ _ _ _ _ _ _ _ _ _ _ _ _ _ (CI_KC C1 K2) M2 T) (Nat.le_refl _) (by omega) (by omega)
theorem lc_judge (h6 : 6 * k + 6 ≤ g.2.2.2.2.1) (C : CI n kd mm len tx hs hx c1 w1 c2 w2 im s tp I L) (M : MI n kd mm len tx hs hx c1 w1 c2 w2 im s tp I L) (T : ∀ p, p < 6 → TBp (tp p)) (nx : LN l g m k Q) : cm_Ex l g 40 (m + 1) (3 * (m + 1)) mL_law 638 [.retAddr 3, .ref 0, .ref 73, .int (nI (6 * k))] [] I L (RR n hr tl) (DD n) Q := by
  refine x_aldn qL_law_638 rfl trivial ?_
  refine x_aldn qL_law_639 rfl trivial ?_
  refine x_ildn qL_law_640 rfl ?_
  refine x_iconst (v := nI 1) qL_law_641 rfl ?_
  refine x_iadd_n qL_law_642 ?_
  refine x_sald qL_law_643 rfl (by omega) ?_
  refine x_aldn qL_law_644 rfl trivial ?_
  refine x_ildn qL_law_645 rfl ?_
  refine x_iconst (v := nI 2) qL_law_646 rfl ?_
  refine x_iadd_n qL_law_647 ?_
  refine x_sald qL_law_648 rfl (by omega) ?_
  refine x_cV2 (d' := 7) qL_law_649 cL_89 rfl ⟨_, rfl, rfl⟩ rfl rfl (Nat.le_of_ble_eq_true rfl) (Nat.le_of_ble_eq_true rfl) (by decide) ?_
  refine c_X11_judge C (fun I1 L1 hr1 tl1 C1 K1 => ?_)
  have M1 := MI_KM M K1
  refine x_aldn qL_law_652 rfl trivial ?_
  refine x_aldn qL_law_653 rfl trivial ?_
  refine x_ildn qL_law_654 rfl ?_
  refine x_iconst (v := nI 1) qL_law_655 rfl ?_
  refine x_iadd_n qL_law_656 ?_
  refine x_sald qL_law_657 rfl (by omega) ?_
  refine x_aldn qL_law_658 rfl trivial ?_
  refine x_ildn qL_law_659 rfl ?_
  refine x_iconst (v := nI 2) qL_law_660 rfl ?_
  refine x_iadd_n qL_law_661 ?_
  refine x_sald qL_law_662 rfl (by omega) ?_
  refine x_cV2 (d' := 6) qL_law_663 cL_92 rfl ⟨_, rfl, rfl⟩ rfl rfl (Nat.le_of_ble_eq_true rfl) (Nat.le_of_ble_eq_true rfl) (by decide) ?_
  refine c_X12_judge M1 T (fun I2 L2 M2 K2 => ?_)
  refine x_icmp_eq_t (tgt := 1032) qL_law_666 (by omega) rfl ?_
  exact cm_up (nx _ _ _ _ _ _ _ _ _ _ _ _ _ _ _ _ _ _ (CI_KC C1 K2) M2 T) (Nat.le_refl _) (by omega) (by omega)
theorem lc_image (h6 : 6 * k + 6 ≤ g.2.2.2.2.1) (C : CI n kd mm len tx hs hx c1 w1 c2 w2 im s tp I L) (M : MI n kd mm len tx hs hx c1 w1 c2 w2 im s tp I L) (T : ∀ p, p < 6 → TBp (tp p)) (nx : LN l g m k Q) : cm_Ex l g 40 (m + 1) (3 * (m + 1)) mL_law 671 [.retAddr 3, .ref 0, .ref 73, .int (nI (6 * k))] [] I L (RR n hr tl) (DD n) Q := by
  refine x_aldn qL_law_671 rfl trivial ?_
  refine x_cV0 (d' := 2) qL_law_672 cL_93 rfl ⟨_, rfl, rfl⟩ rfl rfl (Nat.le_of_ble_eq_true rfl) (Nat.le_of_ble_eq_true rfl) (by decide) ?_
  refine c_X11_image C (fun I1 L1 hr1 tl1 C1 K1 => ?_)
  have M1 := MI_KM M K1
  refine x_aldn qL_law_675 rfl trivial ?_
  refine x_cV0 (d' := 1) qL_law_676 cL_96 rfl ⟨_, rfl, rfl⟩ rfl rfl (Nat.le_of_ble_eq_true rfl) (Nat.le_of_ble_eq_true rfl) (by decide) ?_
  refine c_X12_image M1 (fun I2 L2 M2 K2 => ?_)
  refine x_icmp_eq_t (tgt := 1032) qL_law_679 (by omega) rfl ?_
  exact cm_up (nx _ _ _ _ _ _ _ _ _ _ _ _ _ _ _ _ _ _ (CI_KC C1 K2) M2 T) (Nat.le_refl _) (by omega) (by omega)
theorem lc_undo (h6 : 6 * k + 6 ≤ g.2.2.2.2.1) (C : CI n kd mm len tx hs hx c1 w1 c2 w2 im s tp I L) (M : MI n kd mm len tx hs hx c1 w1 c2 w2 im s tp I L) (T : ∀ p, p < 6 → TBp (tp p)) (nx : LN l g m k Q) : cm_Ex l g 40 (m + 1) (3 * (m + 1)) mL_law 684 [.retAddr 3, .ref 0, .ref 73, .int (nI (6 * k))] [] I L (RR n hr tl) (DD n) Q := by
  refine x_aldn qL_law_684 rfl trivial ?_
  refine x_cV0 (d' := 2) qL_law_685 cL_97 rfl ⟨_, rfl, rfl⟩ rfl rfl (Nat.le_of_ble_eq_true rfl) (Nat.le_of_ble_eq_true rfl) (by decide) ?_
  cases h : im with
  | none =>
    rw [h] at C M
    refine c_X11_undo C (fun _ I1 L1 hr1 tl1 C1 K1 => ?_) (fun a x b y z e => (by cases e))
    have M1 := MI_KM M K1
    refine x_aldn qL_law_688 rfl trivial ?_
    refine x_cV0 (d' := 1) qL_law_689 cL_100 rfl ⟨_, rfl, rfl⟩ rfl rfl (Nat.le_of_ble_eq_true rfl) (Nat.le_of_ble_eq_true rfl) (by decide) ?_
    refine c_X12_undo M1 (fun _ I2 L2 M2 K2 => ?_) (fun a x b y z e => (by cases e))
    refine x_icmp_eq_t (tgt := 1032) qL_law_692 (by omega) rfl ?_
    exact cm_up (nx _ _ _ _ _ _ _ _ _ _ _ _ _ _ _ _ _ _ (CI_KC C1 K2) M2 T) (Nat.le_refl _) (by omega) (by omega)
  | some q =>
    obtain ⟨a, x, b, y, z⟩ := q
    rw [h] at C M
    refine c_X11_undo C (fun e => (by cases e)) (fun a x b y z e I1 L1 hr1 tl1 C1 K1 => ?_)
    cases e
    have M1 := MI_KM M K1
    refine x_aldn qL_law_688 rfl trivial ?_
    refine x_cV0 (d' := 1) qL_law_689 cL_100 rfl ⟨_, rfl, rfl⟩ rfl rfl (Nat.le_of_ble_eq_true rfl) (Nat.le_of_ble_eq_true rfl) (by decide) ?_
    refine c_X12_undo M1 (fun e => (by cases e)) (fun a x b y z e I2 L2 M2 K2 => ?_)
    cases e
    refine x_icmp_eq_t (tgt := 1032) qL_law_692 (by omega) rfl ?_
    exact cm_up (nx _ _ _ _ _ _ _ _ _ _ _ _ _ _ _ _ _ _ (CI_KC C1 K2) M2 T) (Nat.le_refl _) (by omega) (by omega)
theorem lc_act (h6 : 6 * k + 6 ≤ g.2.2.2.2.1) (C : CI n kd mm len tx hs hx c1 w1 c2 w2 im s tp I L) (M : MI n kd mm len tx hs hx c1 w1 c2 w2 im s tp I L) (T : ∀ p, p < 6 → TBp (tp p)) (nx : LN l g m k Q) : cm_Ex l g 40 (m + 1) (3 * (m + 1)) mL_law 697 [.retAddr 3, .ref 0, .ref 73, .int (nI (6 * k))] [] I L (RR n hr tl) (DD n) Q := by
  refine x_aldn qL_law_697 rfl trivial ?_
  refine x_aldn qL_law_698 rfl trivial ?_
  refine x_ildn qL_law_699 rfl ?_
  refine x_iconst (v := nI 1) qL_law_700 rfl ?_
  refine x_iadd_n qL_law_701 ?_
  refine x_sald qL_law_702 rfl (by omega) ?_
  refine x_aldn qL_law_703 rfl trivial ?_
  refine x_ildn qL_law_704 rfl ?_
  refine x_iconst (v := nI 2) qL_law_705 rfl ?_
  refine x_iadd_n qL_law_706 ?_
  refine x_sald qL_law_707 rfl (by omega) ?_
  refine x_aldn qL_law_708 rfl trivial ?_
  refine x_ildn qL_law_709 rfl ?_
  refine x_iconst (v := nI 3) qL_law_710 rfl ?_
  refine x_iadd_n qL_law_711 ?_
  refine x_sald qL_law_712 rfl (by omega) ?_
  refine x_cV3 (d' := 14) qL_law_713 cL_101 rfl ⟨_, rfl, rfl⟩ rfl rfl (Nat.le_of_ble_eq_true rfl) (Nat.le_of_ble_eq_true rfl) (by decide) ?_
  cases h : (inB (g.2.2.2.2.2 (6 * k + 1)) n && inB (g.2.2.2.2.2 (6 * k + 2)) 3) with
  | true =>
    refine c_X11_act C (fun e => (by rw [h] at e; cases e)) (fun _ I1 L1 hr1 tl1 C1 K1 => ?_)
    have M1 := MI_KM M K1
    refine x_aldn qL_law_716 rfl trivial ?_
    refine x_aldn qL_law_717 rfl trivial ?_
    refine x_ildn qL_law_718 rfl ?_
    refine x_iconst (v := nI 1) qL_law_719 rfl ?_
    refine x_iadd_n qL_law_720 ?_
    refine x_sald qL_law_721 rfl (by omega) ?_
    refine x_aldn qL_law_722 rfl trivial ?_
    refine x_ildn qL_law_723 rfl ?_
    refine x_iconst (v := nI 2) qL_law_724 rfl ?_
    refine x_iadd_n qL_law_725 ?_
    refine x_sald qL_law_726 rfl (by omega) ?_
    refine x_aldn qL_law_727 rfl trivial ?_
    refine x_ildn qL_law_728 rfl ?_
    refine x_iconst (v := nI 3) qL_law_729 rfl ?_
    refine x_iadd_n qL_law_730 ?_
    refine x_sald qL_law_731 rfl (by omega) ?_
    refine x_cV3 (d' := 9) qL_law_732 cL_104 rfl ⟨_, rfl, rfl⟩ rfl rfl (Nat.le_of_ble_eq_true rfl) (Nat.le_of_ble_eq_true rfl) (by decide) ?_
    refine c_X12_act M1 (fun e => (by rw [h] at e; cases e)) (fun _ I2 L2 M2 K2 => ?_)
    refine x_icmp_eq_t (tgt := 1032) qL_law_735 (by omega) rfl ?_
    exact cm_up (nx _ _ _ _ _ _ _ _ _ _ _ _ _ _ _ _ _ _ (CI_KC C1 K2) M2 T) (Nat.le_refl _) (by omega) (by omega)
  | false =>
    refine c_X11_act C (fun _ I1 L1 hr1 tl1 C1 K1 => ?_) (fun e => (by rw [h] at e; cases e))
    have M1 := MI_KM M K1
    refine x_aldn qL_law_716 rfl trivial ?_
    refine x_aldn qL_law_717 rfl trivial ?_
    refine x_ildn qL_law_718 rfl ?_
    refine x_iconst (v := nI 1) qL_law_719 rfl ?_
    refine x_iadd_n qL_law_720 ?_
    refine x_sald qL_law_721 rfl (by omega) ?_
    refine x_aldn qL_law_722 rfl trivial ?_
    refine x_ildn qL_law_723 rfl ?_
    refine x_iconst (v := nI 2) qL_law_724 rfl ?_
    refine x_iadd_n qL_law_725 ?_
    refine x_sald qL_law_726 rfl (by omega) ?_
    refine x_aldn qL_law_727 rfl trivial ?_
    refine x_ildn qL_law_728 rfl ?_
    refine x_iconst (v := nI 3) qL_law_729 rfl ?_
    refine x_iadd_n qL_law_730 ?_
    refine x_sald qL_law_731 rfl (by omega) ?_
    refine x_cV3 (d' := 9) qL_law_732 cL_104 rfl ⟨_, rfl, rfl⟩ rfl rfl (Nat.le_of_ble_eq_true rfl) (Nat.le_of_ble_eq_true rfl) (by decide) ?_
    refine c_X12_act M1 (fun _ I2 L2 M2 K2 => ?_) (fun e => (by rw [h] at e; cases e))
    refine x_icmp_eq_t (tgt := 1032) qL_law_735 (by omega) rfl ?_
    exact cm_up (nx _ _ _ _ _ _ _ _ _ _ _ _ _ _ _ _ _ _ (CI_KC C1 K2) M2 T) (Nat.le_refl _) (by omega) (by omega)
theorem lc_trace (h6 : 6 * k + 6 ≤ g.2.2.2.2.1) (C : CI n kd mm len tx hs hx c1 w1 c2 w2 im s tp I L) (M : MI n kd mm len tx hs hx c1 w1 c2 w2 im s tp I L) (T : ∀ p, p < 6 → TBp (tp p)) (nx : LN l g m k Q) : cm_Ex l g 40 (m + 1) (3 * (m + 1)) mL_law 740 [.retAddr 3, .ref 0, .ref 73, .int (nI (6 * k))] [] I L (RR n hr tl) (DD n) Q := by
  refine x_aldn qL_law_740 rfl trivial ?_
  refine x_aldn qL_law_741 rfl trivial ?_
  refine x_ildn qL_law_742 rfl ?_
  refine x_iconst (v := nI 1) qL_law_743 rfl ?_
  refine x_iadd_n qL_law_744 ?_
  refine x_sald qL_law_745 rfl (by omega) ?_
  refine x_cV1 (d' := 3) qL_law_746 cL_105 rfl ⟨_, rfl, rfl⟩ rfl rfl (Nat.le_of_ble_eq_true rfl) (Nat.le_of_ble_eq_true rfl) (by decide) ?_
  refine c_X11_trace C (fun I1 L1 hr1 tl1 C1 K1 => ?_)
  have M1 := MI_KM M K1
  refine x_aldn qL_law_749 rfl trivial ?_
  refine x_aldn qL_law_750 rfl trivial ?_
  refine x_ildn qL_law_751 rfl ?_
  refine x_iconst (v := nI 1) qL_law_752 rfl ?_
  refine x_iadd_n qL_law_753 ?_
  refine x_sald qL_law_754 rfl (by omega) ?_
  refine x_cV1 (d' := 2) qL_law_755 cL_108 rfl ⟨_, rfl, rfl⟩ rfl rfl (Nat.le_of_ble_eq_true rfl) (Nat.le_of_ble_eq_true rfl) (by decide) ?_
  refine c_X12_trace M1 (fun I2 L2 M2 K2 => ?_)
  refine x_icmp_eq_t (tgt := 1032) qL_law_758 (by omega) rfl ?_
  exact cm_up (nx _ _ _ _ _ _ _ _ _ _ _ _ _ _ _ _ _ _ (CI_KC C1 K2) M2 T) (Nat.le_refl _) (by omega) (by omega)
theorem lc_taken (h6 : 6 * k + 6 ≤ g.2.2.2.2.1) (C : CI n kd mm len tx hs hx c1 w1 c2 w2 im s tp I L) (M : MI n kd mm len tx hs hx c1 w1 c2 w2 im s tp I L) (T : ∀ p, p < 6 → TBp (tp p)) (nx : LN l g m k Q) : cm_Ex l g 40 (m + 1) (3 * (m + 1)) mL_law 763 [.retAddr 3, .ref 0, .ref 73, .int (nI (6 * k))] [] I L (RR n hr tl) (DD n) Q := by
  refine x_aldn qL_law_763 rfl trivial ?_
  refine x_aldn qL_law_764 rfl trivial ?_
  refine x_ildn qL_law_765 rfl ?_
  refine x_iconst (v := nI 1) qL_law_766 rfl ?_
  refine x_iadd_n qL_law_767 ?_
  refine x_sald qL_law_768 rfl (by omega) ?_
  refine x_aldn qL_law_769 rfl trivial ?_
  refine x_ildn qL_law_770 rfl ?_
  refine x_iconst (v := nI 2) qL_law_771 rfl ?_
  refine x_iadd_n qL_law_772 ?_
  refine x_sald qL_law_773 rfl (by omega) ?_
  refine x_cV2 (d' := 4) qL_law_774 cL_109 rfl ⟨_, rfl, rfl⟩ rfl rfl (Nat.le_of_ble_eq_true rfl) (Nat.le_of_ble_eq_true rfl) (by decide) ?_
  refine c_X11_taken C (fun I1 L1 hr1 tl1 C1 K1 => ?_)
  have M1 := MI_KM M K1
  refine x_aldn qL_law_777 rfl trivial ?_
  refine x_aldn qL_law_778 rfl trivial ?_
  refine x_ildn qL_law_779 rfl ?_
  refine x_iconst (v := nI 1) qL_law_780 rfl ?_
  refine x_iadd_n qL_law_781 ?_
  refine x_sald qL_law_782 rfl (by omega) ?_
  refine x_aldn qL_law_783 rfl trivial ?_
  refine x_ildn qL_law_784 rfl ?_
  refine x_iconst (v := nI 2) qL_law_785 rfl ?_
  refine x_iadd_n qL_law_786 ?_
  refine x_sald qL_law_787 rfl (by omega) ?_
  refine x_cV2 (d' := 3) qL_law_788 cL_112 rfl ⟨_, rfl, rfl⟩ rfl rfl (Nat.le_of_ble_eq_true rfl) (Nat.le_of_ble_eq_true rfl) (by decide) ?_
  refine c_X12_taken M1 (fun I2 L2 M2 K2 => ?_)
  refine x_icmp_eq_t (tgt := 1032) qL_law_791 (by omega) rfl ?_
  exact cm_up (nx _ _ _ _ _ _ _ _ _ _ _ _ _ _ _ _ _ _ (CI_KC C1 K2) M2 T) (Nat.le_refl _) (by omega) (by omega)
theorem lc_count (h6 : 6 * k + 6 ≤ g.2.2.2.2.1) (C : CI n kd mm len tx hs hx c1 w1 c2 w2 im s tp I L) (M : MI n kd mm len tx hs hx c1 w1 c2 w2 im s tp I L) (T : ∀ p, p < 6 → TBp (tp p)) (nx : LN l g m k Q) : cm_Ex l g 40 (m + 1) (3 * (m + 1)) mL_law 796 [.retAddr 3, .ref 0, .ref 73, .int (nI (6 * k))] [] I L (RR n hr tl) (DD n) Q := by
  refine x_aldn qL_law_796 rfl trivial ?_
  refine x_aldn qL_law_797 rfl trivial ?_
  refine x_ildn qL_law_798 rfl ?_
  refine x_iconst (v := nI 1) qL_law_799 rfl ?_
  refine x_iadd_n qL_law_800 ?_
  refine x_sald qL_law_801 rfl (by omega) ?_
  refine x_cV1 (d' := 2) qL_law_802 cL_113 rfl ⟨_, rfl, rfl⟩ rfl rfl (Nat.le_of_ble_eq_true rfl) (Nat.le_of_ble_eq_true rfl) (by decide) ?_
  refine c_X11_count C (fun I1 L1 hr1 tl1 C1 K1 => ?_)
  have M1 := MI_KM M K1
  refine x_aldn qL_law_805 rfl trivial ?_
  refine x_aldn qL_law_806 rfl trivial ?_
  refine x_ildn qL_law_807 rfl ?_
  refine x_iconst (v := nI 1) qL_law_808 rfl ?_
  refine x_iadd_n qL_law_809 ?_
  refine x_sald qL_law_810 rfl (by omega) ?_
  refine x_cV1 (d' := 1) qL_law_811 cL_116 rfl ⟨_, rfl, rfl⟩ rfl rfl (Nat.le_of_ble_eq_true rfl) (Nat.le_of_ble_eq_true rfl) (by decide) ?_
  refine c_X12_count M1 (fun I2 L2 M2 K2 => ?_)
  refine x_icmp_eq_t (tgt := 1032) qL_law_814 (by omega) rfl ?_
  exact cm_up (nx _ _ _ _ _ _ _ _ _ _ _ _ _ _ _ _ _ _ (CI_KC C1 K2) M2 T) (Nat.le_refl _) (by omega) (by omega)
theorem lc_tape (h6 : 6 * k + 6 ≤ g.2.2.2.2.1) (C : CI n kd mm len tx hs hx c1 w1 c2 w2 im s tp I L) (M : MI n kd mm len tx hs hx c1 w1 c2 w2 im s tp I L) (T : ∀ p, p < 6 → TBp (tp p)) (nx : LN l g m k Q) : cm_Ex l g 40 (m + 1) (3 * (m + 1)) mL_law 819 [.retAddr 3, .ref 0, .ref 73, .int (nI (6 * k))] [] I L (RR n hr tl) (DD n) Q := by
  refine x_aldn qL_law_819 rfl trivial ?_
  refine x_aldn qL_law_820 rfl trivial ?_
  refine x_ildn qL_law_821 rfl ?_
  refine x_iconst (v := nI 1) qL_law_822 rfl ?_
  refine x_iadd_n qL_law_823 ?_
  refine x_sald qL_law_824 rfl (by omega) ?_
  refine x_aldn qL_law_825 rfl trivial ?_
  refine x_ildn qL_law_826 rfl ?_
  refine x_iconst (v := nI 2) qL_law_827 rfl ?_
  refine x_iadd_n qL_law_828 ?_
  refine x_sald qL_law_829 rfl (by omega) ?_
  refine x_aldn qL_law_830 rfl trivial ?_
  refine x_ildn qL_law_831 rfl ?_
  refine x_iconst (v := nI 3) qL_law_832 rfl ?_
  refine x_iadd_n qL_law_833 ?_
  refine x_sald qL_law_834 rfl (by omega) ?_
  refine x_cV3 (d' := 3) qL_law_835 cL_117 rfl ⟨_, rfl, rfl⟩ rfl rfl (Nat.le_of_ble_eq_true rfl) (Nat.le_of_ble_eq_true rfl) (by decide) ?_
  cases h : (tapC (g.2.2.2.2.2 (6 * k + 1)) (g.2.2.2.2.2 (6 * k + 2)) (g.2.2.2.2.2 (6 * k + 3))) with
  | true =>
    refine c_X11_tape C (fun _ I1 L1 hr1 tl1 C1 K1 => ?_) (fun e => (by rw [h] at e; cases e))
    have M1 := MI_KM M K1
    refine x_aldn qL_law_838 rfl trivial ?_
    refine x_aldn qL_law_839 rfl trivial ?_
    refine x_ildn qL_law_840 rfl ?_
    refine x_iconst (v := nI 1) qL_law_841 rfl ?_
    refine x_iadd_n qL_law_842 ?_
    refine x_sald qL_law_843 rfl (by omega) ?_
    refine x_aldn qL_law_844 rfl trivial ?_
    refine x_ildn qL_law_845 rfl ?_
    refine x_iconst (v := nI 2) qL_law_846 rfl ?_
    refine x_iadd_n qL_law_847 ?_
    refine x_sald qL_law_848 rfl (by omega) ?_
    refine x_aldn qL_law_849 rfl trivial ?_
    refine x_ildn qL_law_850 rfl ?_
    refine x_iconst (v := nI 3) qL_law_851 rfl ?_
    refine x_iadd_n qL_law_852 ?_
    refine x_sald qL_law_853 rfl (by omega) ?_
    refine x_cV3 (d' := 3) qL_law_854 cL_120 rfl ⟨_, rfl, rfl⟩ rfl rfl (Nat.le_of_ble_eq_true rfl) (Nat.le_of_ble_eq_true rfl) (by decide) ?_
    refine c_X12_tape M1 (fun _ I2 L2 M2 K2 => ?_) (fun e => (by rw [h] at e; cases e))
    have T2 := TB_tape (sr := (g.2.2.2.2.2 (6 * k + 2))) (m := (g.2.2.2.2.2 (6 * k + 3))) (p0 := ix (g.2.2.2.2.2 (6 * k + 1))) T
    refine x_icmp_eq_t (tgt := 1032) qL_law_857 (by omega) rfl ?_
    exact cm_up (nx _ _ _ _ _ _ _ _ _ _ _ _ _ _ _ _ _ _ (CI_KC C1 K2) M2 T2) (Nat.le_refl _) (by omega) (by omega)
  | false =>
    refine c_X11_tape C (fun e => (by rw [h] at e; cases e)) (fun _ I1 L1 hr1 tl1 C1 K1 => ?_)
    have M1 := MI_KM M K1
    refine x_aldn qL_law_838 rfl trivial ?_
    refine x_aldn qL_law_839 rfl trivial ?_
    refine x_ildn qL_law_840 rfl ?_
    refine x_iconst (v := nI 1) qL_law_841 rfl ?_
    refine x_iadd_n qL_law_842 ?_
    refine x_sald qL_law_843 rfl (by omega) ?_
    refine x_aldn qL_law_844 rfl trivial ?_
    refine x_ildn qL_law_845 rfl ?_
    refine x_iconst (v := nI 2) qL_law_846 rfl ?_
    refine x_iadd_n qL_law_847 ?_
    refine x_sald qL_law_848 rfl (by omega) ?_
    refine x_aldn qL_law_849 rfl trivial ?_
    refine x_ildn qL_law_850 rfl ?_
    refine x_iconst (v := nI 3) qL_law_851 rfl ?_
    refine x_iadd_n qL_law_852 ?_
    refine x_sald qL_law_853 rfl (by omega) ?_
    refine x_cV3 (d' := 3) qL_law_854 cL_120 rfl ⟨_, rfl, rfl⟩ rfl rfl (Nat.le_of_ble_eq_true rfl) (Nat.le_of_ble_eq_true rfl) (by decide) ?_
    refine c_X12_tape M1 (fun e => (by rw [h] at e; cases e)) (fun _ I2 L2 M2 K2 => ?_)
    refine x_icmp_eq_t (tgt := 1032) qL_law_857 (by omega) rfl ?_
    exact cm_up (nx _ _ _ _ _ _ _ _ _ _ _ _ _ _ _ _ _ _ (CI_KC C1 K2) M2 T) (Nat.le_refl _) (by omega) (by omega)
theorem lc_item (h6 : 6 * k + 6 ≤ g.2.2.2.2.1) (C : CI n kd mm len tx hs hx c1 w1 c2 w2 im s tp I L) (M : MI n kd mm len tx hs hx c1 w1 c2 w2 im s tp I L) (T : ∀ p, p < 6 → TBp (tp p)) (nx : LN l g m k Q) : cm_Ex l g 40 (m + 1) (3 * (m + 1)) mL_law 862 [.retAddr 3, .ref 0, .ref 73, .int (nI (6 * k))] [] I L (RR n hr tl) (DD n) Q := by
  refine x_aldn qL_law_862 rfl trivial ?_
  refine x_aldn qL_law_863 rfl trivial ?_
  refine x_ildn qL_law_864 rfl ?_
  refine x_iconst (v := nI 1) qL_law_865 rfl ?_
  refine x_iadd_n qL_law_866 ?_
  refine x_sald qL_law_867 rfl (by omega) ?_
  refine x_aldn qL_law_868 rfl trivial ?_
  refine x_ildn qL_law_869 rfl ?_
  refine x_iconst (v := nI 2) qL_law_870 rfl ?_
  refine x_iadd_n qL_law_871 ?_
  refine x_sald qL_law_872 rfl (by omega) ?_
  refine x_aldn qL_law_873 rfl trivial ?_
  refine x_ildn qL_law_874 rfl ?_
  refine x_iconst (v := nI 3) qL_law_875 rfl ?_
  refine x_iadd_n qL_law_876 ?_
  refine x_sald qL_law_877 rfl (by omega) ?_
  refine x_i2l qL_law_878 ?_
  refine x_bipush (v := nI 32) qL_law_879 rfl ?_
  refine x_lshl qL_law_881 ?_
  refine x_aldn qL_law_882 rfl trivial ?_
  refine x_ildn qL_law_883 rfl ?_
  refine x_iconst (v := nI 4) qL_law_884 rfl ?_
  refine x_iadd_n qL_law_885 ?_
  refine x_sald qL_law_886 rfl (by omega) ?_
  refine x_i2l qL_law_887 ?_
  refine x_ldc2 qL_law_888 vL_121 ?_
  refine x_land qL_law_891 ?_
  refine x_lor qL_law_892 ?_
  refine x_cV3 (d' := 3) qL_law_893 cL_123 rfl ⟨_, rfl, rfl⟩ rfl rfl (Nat.le_of_ble_eq_true rfl) (Nat.le_of_ble_eq_true rfl) (by decide) ?_
  cases h : (iteC tp (g.2.2.2.2.2 (6 * k + 1)) (g.2.2.2.2.2 (6 * k + 2))) with
  | true =>
    refine c_X11_item C (fun _ I1 L1 hr1 tl1 C1 K1 => ?_) (fun e => (by rw [h] at e; cases e))
    have M1 := MI_KM M K1
    refine x_aldn qL_law_896 rfl trivial ?_
    refine x_aldn qL_law_897 rfl trivial ?_
    refine x_ildn qL_law_898 rfl ?_
    refine x_iconst (v := nI 1) qL_law_899 rfl ?_
    refine x_iadd_n qL_law_900 ?_
    refine x_sald qL_law_901 rfl (by omega) ?_
    refine x_aldn qL_law_902 rfl trivial ?_
    refine x_ildn qL_law_903 rfl ?_
    refine x_iconst (v := nI 2) qL_law_904 rfl ?_
    refine x_iadd_n qL_law_905 ?_
    refine x_sald qL_law_906 rfl (by omega) ?_
    refine x_aldn qL_law_907 rfl trivial ?_
    refine x_ildn qL_law_908 rfl ?_
    refine x_iconst (v := nI 3) qL_law_909 rfl ?_
    refine x_iadd_n qL_law_910 ?_
    refine x_sald qL_law_911 rfl (by omega) ?_
    refine x_i2l qL_law_912 ?_
    refine x_bipush (v := nI 32) qL_law_913 rfl ?_
    refine x_lshl qL_law_915 ?_
    refine x_aldn qL_law_916 rfl trivial ?_
    refine x_ildn qL_law_917 rfl ?_
    refine x_iconst (v := nI 4) qL_law_918 rfl ?_
    refine x_iadd_n qL_law_919 ?_
    refine x_sald qL_law_920 rfl (by omega) ?_
    refine x_i2l qL_law_921 ?_
    refine x_ldc2 qL_law_922 vL_121 ?_
    refine x_land qL_law_925 ?_
    refine x_lor qL_law_926 ?_
    refine x_cV3 (d' := 3) qL_law_927 cL_127 rfl ⟨_, rfl, rfl⟩ rfl rfl (Nat.le_of_ble_eq_true rfl) (Nat.le_of_ble_eq_true rfl) (by decide) ?_
    refine c_X12_item M1 (fun _ I2 L2 M2 K2 => ?_) (fun e => (by rw [h] at e; cases e))
    refine x_icmp_eq_t (tgt := 1032) qL_law_930 (by omega) rfl ?_
    exact cm_up (nx _ _ _ _ _ _ _ _ _ _ _ _ _ _ _ _ _ _ (CI_KC C1 K2) M2 (TB_item T)) (Nat.le_refl _) (by omega) (by omega)
  | false =>
    refine c_X11_item C (fun e => (by rw [h] at e; cases e)) (fun _ I1 L1 hr1 tl1 C1 K1 => ?_)
    have M1 := MI_KM M K1
    refine x_aldn qL_law_896 rfl trivial ?_
    refine x_aldn qL_law_897 rfl trivial ?_
    refine x_ildn qL_law_898 rfl ?_
    refine x_iconst (v := nI 1) qL_law_899 rfl ?_
    refine x_iadd_n qL_law_900 ?_
    refine x_sald qL_law_901 rfl (by omega) ?_
    refine x_aldn qL_law_902 rfl trivial ?_
    refine x_ildn qL_law_903 rfl ?_
    refine x_iconst (v := nI 2) qL_law_904 rfl ?_
    refine x_iadd_n qL_law_905 ?_
    refine x_sald qL_law_906 rfl (by omega) ?_
    refine x_aldn qL_law_907 rfl trivial ?_
    refine x_ildn qL_law_908 rfl ?_
    refine x_iconst (v := nI 3) qL_law_909 rfl ?_
    refine x_iadd_n qL_law_910 ?_
    refine x_sald qL_law_911 rfl (by omega) ?_
    refine x_i2l qL_law_912 ?_
    refine x_bipush (v := nI 32) qL_law_913 rfl ?_
    refine x_lshl qL_law_915 ?_
    refine x_aldn qL_law_916 rfl trivial ?_
    refine x_ildn qL_law_917 rfl ?_
    refine x_iconst (v := nI 4) qL_law_918 rfl ?_
    refine x_iadd_n qL_law_919 ?_
    refine x_sald qL_law_920 rfl (by omega) ?_
    refine x_i2l qL_law_921 ?_
    refine x_ldc2 qL_law_922 vL_121 ?_
    refine x_land qL_law_925 ?_
    refine x_lor qL_law_926 ?_
    refine x_cV3 (d' := 3) qL_law_927 cL_127 rfl ⟨_, rfl, rfl⟩ rfl rfl (Nat.le_of_ble_eq_true rfl) (Nat.le_of_ble_eq_true rfl) (by decide) ?_
    refine c_X12_item M1 (fun e => (by rw [h] at e; cases e)) (fun _ I2 L2 M2 K2 => ?_)
    refine x_icmp_eq_t (tgt := 1032) qL_law_930 (by omega) rfl ?_
    exact cm_up (nx _ _ _ _ _ _ _ _ _ _ _ _ _ _ _ _ _ _ (CI_KC C1 K2) M2 T) (Nat.le_refl _) (by omega) (by omega)
theorem lc_read (h6 : 6 * k + 6 ≤ g.2.2.2.2.1) (C : CI n kd mm len tx hs hx c1 w1 c2 w2 im s tp I L) (M : MI n kd mm len tx hs hx c1 w1 c2 w2 im s tp I L) (T : ∀ p, p < 6 → TBp (tp p)) (nx : LN l g m k Q) : cm_Ex l g 40 (m + 1) (3 * (m + 1)) mL_law 935 [.retAddr 3, .ref 0, .ref 73, .int (nI (6 * k))] [] I L (RR n hr tl) (DD n) Q := by
  refine x_aldn qL_law_935 rfl trivial ?_
  refine x_aldn qL_law_936 rfl trivial ?_
  refine x_ildn qL_law_937 rfl ?_
  refine x_iconst (v := nI 1) qL_law_938 rfl ?_
  refine x_iadd_n qL_law_939 ?_
  refine x_sald qL_law_940 rfl (by omega) ?_
  refine x_aldn qL_law_941 rfl trivial ?_
  refine x_ildn qL_law_942 rfl ?_
  refine x_iconst (v := nI 2) qL_law_943 rfl ?_
  refine x_iadd_n qL_law_944 ?_
  refine x_sald qL_law_945 rfl (by omega) ?_
  refine x_cV2 (d' := 3) qL_law_946 cL_128 rfl ⟨_, rfl, rfl⟩ rfl rfl (Nat.le_of_ble_eq_true rfl) (Nat.le_of_ble_eq_true rfl) (by decide) ?_
  refine c_X11_read C (fun I1 L1 hr1 tl1 C1 K1 => ?_)
  have M1 := MI_KM M K1
  refine x_aldn qL_law_949 rfl trivial ?_
  refine x_aldn qL_law_950 rfl trivial ?_
  refine x_ildn qL_law_951 rfl ?_
  refine x_iconst (v := nI 1) qL_law_952 rfl ?_
  refine x_iadd_n qL_law_953 ?_
  refine x_sald qL_law_954 rfl (by omega) ?_
  refine x_aldn qL_law_955 rfl trivial ?_
  refine x_ildn qL_law_956 rfl ?_
  refine x_iconst (v := nI 2) qL_law_957 rfl ?_
  refine x_iadd_n qL_law_958 ?_
  refine x_sald qL_law_959 rfl (by omega) ?_
  refine x_cV2 (d' := 3) qL_law_960 cL_132 rfl ⟨_, rfl, rfl⟩ rfl rfl (Nat.le_of_ble_eq_true rfl) (Nat.le_of_ble_eq_true rfl) (by decide) ?_
  refine c_X12_read M1 (fun I2 L2 M2 K2 => ?_)
  refine x_lcmp qL_law_963 ?_
  refine x_if_eq_t (tgt := 1032) qL_law_964 (by omega) (lgs _) ?_
  exact cm_up (nx _ _ _ _ _ _ _ _ _ _ _ _ _ _ _ _ _ _ (CI_KC C1 K2) M2 T) (Nat.le_refl _) (by omega) (by omega)
theorem lc_shift (h6 : 6 * k + 6 ≤ g.2.2.2.2.1) (C : CI n kd mm len tx hs hx c1 w1 c2 w2 im s tp I L) (M : MI n kd mm len tx hs hx c1 w1 c2 w2 im s tp I L) (T : ∀ p, p < 6 → TBp (tp p)) (nx : LN l g m k Q) : cm_Ex l g 40 (m + 1) (3 * (m + 1)) mL_law 969 [.retAddr 3, .ref 0, .ref 73, .int (nI (6 * k))] [] I L (RR n hr tl) (DD n) Q := by
  refine x_aldn qL_law_969 rfl trivial ?_
  refine x_aldn qL_law_970 rfl trivial ?_
  refine x_ildn qL_law_971 rfl ?_
  refine x_iconst (v := nI 1) qL_law_972 rfl ?_
  refine x_iadd_n qL_law_973 ?_
  refine x_sald qL_law_974 rfl (by omega) ?_
  refine x_aldn qL_law_975 rfl trivial ?_
  refine x_ildn qL_law_976 rfl ?_
  refine x_iconst (v := nI 2) qL_law_977 rfl ?_
  refine x_iadd_n qL_law_978 ?_
  refine x_sald qL_law_979 rfl (by omega) ?_
  refine x_aldn qL_law_980 rfl trivial ?_
  refine x_ildn qL_law_981 rfl ?_
  refine x_iconst (v := nI 3) qL_law_982 rfl ?_
  refine x_iadd_n qL_law_983 ?_
  refine x_sald qL_law_984 rfl (by omega) ?_
  refine x_aldn qL_law_985 rfl trivial ?_
  refine x_ildn qL_law_986 rfl ?_
  refine x_iconst (v := nI 4) qL_law_987 rfl ?_
  refine x_iadd_n qL_law_988 ?_
  refine x_sald qL_law_989 rfl (by omega) ?_
  refine x_aldn qL_law_990 rfl trivial ?_
  refine x_ildn qL_law_991 rfl ?_
  refine x_iconst (v := nI 5) qL_law_992 rfl ?_
  refine x_iadd_n qL_law_993 ?_
  refine x_sald qL_law_994 rfl (by omega) ?_
  refine x_cV5 (d' := 3) qL_law_995 cL_133 rfl ⟨_, rfl, rfl⟩ rfl rfl (Nat.le_of_ble_eq_true rfl) (Nat.le_of_ble_eq_true rfl) (by decide) ?_
  by_cases h : shiC tp (g.2.2.2.2.2 (6 * k + 1)) (g.2.2.2.2.2 (6 * k + 2)) (g.2.2.2.2.2 (6 * k + 3)) (g.2.2.2.2.2 (6 * k + 4)) (g.2.2.2.2.2 (6 * k + 5))
  · refine c_X11_shift C (fun _ I1 L1 hr1 tl1 C1 K1 => ?_) (fun e => absurd h e)
    have M1 := MI_KM M K1
    refine x_aldn qL_law_998 rfl trivial ?_
    refine x_aldn qL_law_999 rfl trivial ?_
    refine x_ildn qL_law_1000 rfl ?_
    refine x_iconst (v := nI 1) qL_law_1001 rfl ?_
    refine x_iadd_n qL_law_1002 ?_
    refine x_sald qL_law_1003 rfl (by omega) ?_
    refine x_aldn qL_law_1004 rfl trivial ?_
    refine x_ildn qL_law_1005 rfl ?_
    refine x_iconst (v := nI 2) qL_law_1006 rfl ?_
    refine x_iadd_n qL_law_1007 ?_
    refine x_sald qL_law_1008 rfl (by omega) ?_
    refine x_aldn qL_law_1009 rfl trivial ?_
    refine x_ildn qL_law_1010 rfl ?_
    refine x_iconst (v := nI 3) qL_law_1011 rfl ?_
    refine x_iadd_n qL_law_1012 ?_
    refine x_sald qL_law_1013 rfl (by omega) ?_
    refine x_aldn qL_law_1014 rfl trivial ?_
    refine x_ildn qL_law_1015 rfl ?_
    refine x_iconst (v := nI 4) qL_law_1016 rfl ?_
    refine x_iadd_n qL_law_1017 ?_
    refine x_sald qL_law_1018 rfl (by omega) ?_
    refine x_aldn qL_law_1019 rfl trivial ?_
    refine x_ildn qL_law_1020 rfl ?_
    refine x_iconst (v := nI 5) qL_law_1021 rfl ?_
    refine x_iadd_n qL_law_1022 ?_
    refine x_sald qL_law_1023 rfl (by omega) ?_
    refine x_cV5 (d' := 3) qL_law_1024 cL_137 rfl ⟨_, rfl, rfl⟩ rfl rfl (Nat.le_of_ble_eq_true rfl) (Nat.le_of_ble_eq_true rfl) (by decide) ?_
    refine c_X12_shift M1 (fun _ I2 L2 M2 K2 => ?_) (fun e => absurd h e)
    have T2 := TB_shift T (fun p hp => (C.2.2.2.2.2.2.2.2 p hp).2.1) h
    refine x_icmp_eq_t (tgt := 1032) qL_law_1027 (by omega) rfl ?_
    exact cm_up (nx _ _ _ _ _ _ _ _ _ _ _ _ _ _ _ _ _ _ (CI_KC C1 K2) M2 T2) (Nat.le_refl _) (by omega) (by omega)
  · refine c_X11_shift C (fun e => absurd e h) (fun _ I1 L1 hr1 tl1 C1 K1 => ?_)
    have M1 := MI_KM M K1
    refine x_aldn qL_law_998 rfl trivial ?_
    refine x_aldn qL_law_999 rfl trivial ?_
    refine x_ildn qL_law_1000 rfl ?_
    refine x_iconst (v := nI 1) qL_law_1001 rfl ?_
    refine x_iadd_n qL_law_1002 ?_
    refine x_sald qL_law_1003 rfl (by omega) ?_
    refine x_aldn qL_law_1004 rfl trivial ?_
    refine x_ildn qL_law_1005 rfl ?_
    refine x_iconst (v := nI 2) qL_law_1006 rfl ?_
    refine x_iadd_n qL_law_1007 ?_
    refine x_sald qL_law_1008 rfl (by omega) ?_
    refine x_aldn qL_law_1009 rfl trivial ?_
    refine x_ildn qL_law_1010 rfl ?_
    refine x_iconst (v := nI 3) qL_law_1011 rfl ?_
    refine x_iadd_n qL_law_1012 ?_
    refine x_sald qL_law_1013 rfl (by omega) ?_
    refine x_aldn qL_law_1014 rfl trivial ?_
    refine x_ildn qL_law_1015 rfl ?_
    refine x_iconst (v := nI 4) qL_law_1016 rfl ?_
    refine x_iadd_n qL_law_1017 ?_
    refine x_sald qL_law_1018 rfl (by omega) ?_
    refine x_aldn qL_law_1019 rfl trivial ?_
    refine x_ildn qL_law_1020 rfl ?_
    refine x_iconst (v := nI 5) qL_law_1021 rfl ?_
    refine x_iadd_n qL_law_1022 ?_
    refine x_sald qL_law_1023 rfl (by omega) ?_
    refine x_cV5 (d' := 3) qL_law_1024 cL_137 rfl ⟨_, rfl, rfl⟩ rfl rfl (Nat.le_of_ble_eq_true rfl) (Nat.le_of_ble_eq_true rfl) (by decide) ?_
    refine c_X12_shift M1 (fun e => absurd e h) (fun _ I2 L2 M2 K2 => ?_)
    refine x_icmp_eq_t (tgt := 1032) qL_law_1027 (by omega) rfl ?_
    exact cm_up (nx _ _ _ _ _ _ _ _ _ _ _ _ _ _ _ _ _ _ (CI_KC C1 K2) M2 T) (Nat.le_refl _) (by omega) (by omega)
end LW

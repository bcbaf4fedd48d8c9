/-! the law's cases, by program -/
theorem dL_law_558 : decode code 558 = .ok (.aload_n 1, 1) := by decide +kernel
theorem dL_law_559 : decode code 559 = .ok (.aload_n 0, 1) := by decide +kernel
theorem dL_law_560 : decode code 560 = .ok (.iload 4, 2) := by decide +kernel
theorem dL_law_562 : decode code 562 = .ok (.iconst 1, 1) := by decide +kernel
theorem dL_law_563 : decode code 563 = .ok (.iadd, 1) := by decide +kernel
theorem dL_law_564 : decode code 564 = .ok (.iaload, 1) := by decide +kernel
theorem dL_law_565 : decode code 565 = .ok (.aload_n 0, 1) := by decide +kernel
theorem dL_law_566 : decode code 566 = .ok (.iload 4, 2) := by decide +kernel
theorem dL_law_568 : decode code 568 = .ok (.iconst 2, 1) := by decide +kernel
theorem dL_law_569 : decode code 569 = .ok (.iadd, 1) := by decide +kernel
theorem dL_law_570 : decode code 570 = .ok (.iaload, 1) := by decide +kernel
theorem dL_law_571 : decode code 571 = .ok (.aload_n 3, 1) := by decide +kernel
theorem dL_law_572 : decode code 572 = .ok (.invokestatic 141, 3) := by decide +kernel
theorem dL_law_575 : decode code 575 = .ok (.istore 5, 2) := by decide +kernel
theorem dL_law_577 : decode code 577 = .ok (.aload_n 2, 1) := by decide +kernel
theorem dL_law_578 : decode code 578 = .ok (.aload_n 0, 1) := by decide +kernel
theorem dL_law_579 : decode code 579 = .ok (.iload 4, 2) := by decide +kernel
theorem dL_law_581 : decode code 581 = .ok (.iconst 1, 1) := by decide +kernel
theorem dL_law_582 : decode code 582 = .ok (.iadd, 1) := by decide +kernel
theorem dL_law_583 : decode code 583 = .ok (.iaload, 1) := by decide +kernel
theorem dL_law_584 : decode code 584 = .ok (.aload_n 0, 1) := by decide +kernel
theorem dL_law_585 : decode code 585 = .ok (.iload 4, 2) := by decide +kernel
theorem dL_law_587 : decode code 587 = .ok (.iconst 2, 1) := by decide +kernel
theorem dL_law_588 : decode code 588 = .ok (.iadd, 1) := by decide +kernel
theorem dL_law_589 : decode code 589 = .ok (.iaload, 1) := by decide +kernel
theorem dL_law_590 : decode code 590 = .ok (.invokevirtual 144, 3) := by decide +kernel
theorem dL_law_593 : decode code 593 = .ok (.istore 6, 2) := by decide +kernel
theorem dL_law_595 : decode code 595 = .ok (.aload_n 2, 1) := by decide +kernel
theorem dL_law_596 : decode code 596 = .ok (.invokevirtual 116, 3) := by decide +kernel
theorem dL_law_599 : decode code 599 = .ok (.iload 5, 2) := by decide +kernel
theorem dL_law_601 : decode code 601 = .ok (.if_icmp .eq 5, 3) := by decide +kernel
theorem dL_law_606 : decode code 606 = .ok (.iload 5, 2) := by decide +kernel
theorem dL_law_608 : decode code 608 = .ok (.ifCond .ne 15, 3) := by decide +kernel
theorem dL_law_611 : decode code 611 = .ok (.aload_n 3, 1) := by decide +kernel
theorem dL_law_612 : decode code 612 = .ok (.iconst 0, 1) := by decide +kernel
theorem dL_law_613 : decode code 613 = .ok (.laload, 1) := by decide +kernel
theorem dL_law_614 : decode code 614 = .ok (.iload 6, 2) := by decide +kernel
theorem dL_law_616 : decode code 616 = .ok (.i2l, 1) := by decide +kernel
theorem dL_law_617 : decode code 617 = .ok (.lcmp, 1) := by decide +kernel
theorem dL_law_618 : decode code 618 = .ok (.ifCond .eq 5, 3) := by decide +kernel
theorem dL_law_623 : decode code 623 = .ok (.goto 1660, 3) := by decide +kernel
/-- task -/
theorem lc_7 {X : gX} {V V2 : gEnv} {b L t k n : Nat} {xs : Nat → Int32} {M N : gMem} (hC : zL X V V2 b L xs) (h : REL t M N) (hi : 6 * t + 6 ≤ L) (hL : L ≤ 3072) (hR : k + 4 ≤ 601024 ∧ n + 24 ≤ 7293034) (kk : ∀ M1 N1, REL (t + 1) M1 N1 → gB X V V2 M1 N1 (k + 4) (n + 24) 2283 (zLS V V2 b (6 * t)) []) : gB X V V2 M N k n 558 (zLS V V2 b (6 * t)) [] := by
  obtain ⟨q, M1, bb, N1, e1, e2, hq2, hth, hout, hrel⟩ := st_task h (xs (6 * t + 1)) (xs (6 * t + 2))
  refine zb_aload_n hC 2 rfl rfl dL_law_558 ?_
  refine zb_arg hC (a := 6 * t) (j := 1) (ja := 1) (jb := 0) rfl rfl rfl (by omega) hL dL_law_559 dL_law_560 dL_law_562 dL_law_563 dL_law_564 ?_
  refine zb_arg hC (a := 6 * t) (j := 2) (ja := 1) (jb := 0) rfl rfl rfl (by omega) hL dL_law_565 dL_law_566 dL_law_568 dL_law_569 dL_law_570 ?_
  refine zb_aload_n hC 4 rfl rfl dL_law_571 ?_
  refine zb_help hC LL_141 (kL_task hC.2.2.2.2.2.2.2.2.2.2 e1) rfl rfl (Nat.le_of_ble_eq_true rfl) ⟨Nat.le_of_ble_eq_true rfl, Nat.le_of_ble_eq_true rfl⟩ (show k + 2 ≤ 601024 ∧ n + 12 ≤ 7293034 by omega) dL_law_572 ?_
  refine zb_istore hC (by decide) rfl dL_law_575 ?_
  refine zb_aload_n hC 4 rfl rfl dL_law_577 ?_
  refine zb_arg hC (a := 6 * t) (j := 1) (ja := 2) (jb := 1) rfl rfl rfl (by omega) hL dL_law_578 dL_law_579 dL_law_581 dL_law_582 dL_law_583 ?_
  refine zb_arg hC (a := 6 * t) (j := 2) (ja := 2) (jb := 1) rfl rfl rfl (by omega) hL dL_law_584 dL_law_585 dL_law_587 dL_law_588 dL_law_589 ?_
  refine zb_call2 hC LL_144 rfl (kX11_task e2) rfl rfl (Nat.le_of_ble_eq_true rfl) ⟨Nat.le_of_ble_eq_true rfl, Nat.le_of_ble_eq_true rfl⟩ (show k + 2 ≤ 601024 ∧ n + 12 ≤ 7293034 by omega) dL_law_590 ?_
  refine zb_istore hC (by decide) rfl dL_law_593 ?_
  refine zb_aload_n hC 5 rfl rfl dL_law_595 ?_
  refine zb_call2 hC LL_116 rfl (kX11_thrown (show fX11_thrown N1 = some (nI q) by rw [← hth]; rfl)) rfl rfl (Nat.le_of_ble_eq_true rfl) ⟨Nat.le_of_ble_eq_true rfl, Nat.le_of_ble_eq_true rfl⟩ (show k + 2 ≤ 601024 ∧ n + 12 ≤ 7293034 by omega) dL_law_596 ?_
  refine zb_iload hC 1 rfl dL_law_599 ?_
  refine zb_icmp_eq_t hC rfl (tgt := 606) rfl dL_law_601 ?_
  refine zb_iload hC 1 rfl dL_law_606 ?_
  by_cases hq : q = 0
  · have hq0 : nI q = 0 := by rw [hq]; rfl
    refine zb_if_ne_f hC hq0 (tgt := 623) rfl dL_law_608 ?_
    refine zb_aload_n hC 6 rfl rfl dL_law_611 ?_
    refine zb_iconst hC (v := 0) rfl dL_law_612 ?_
    refine zb_out hC (hout hq) dL_law_613 ?_
    refine zb_iload hC 0 rfl dL_law_614 ?_
    refine zb_i2l hC dL_law_616 ?_
    refine zb_lcmp hC dL_law_617 ?_
    refine zb_if_eq_t hC (zcmp _) (tgt := 623) rfl dL_law_618 ?_
    refine zb_goto hC (tgt := 2283) rfl dL_law_623 ?_
    exact zb_sub [2, 3, 4, 5, 6] rfl (zb_wid (show k + 2 ≤ k + 4 ∧ n + 12 ≤ n + 24 by omega) (kk M1 N1 (REL_mono hrel (Nat.le_succ t))))
  · have hq0 : ¬ nI q = 0 := by rw [show (0 : Int32) = nI 0 from rfl, p_eq (by omega) (by omega)]; exact hq
    refine zb_if_ne_t hC hq0 (tgt := 623) rfl dL_law_608 ?_
    refine zb_goto hC (tgt := 2283) rfl dL_law_623 ?_
    exact zb_sub [2, 3, 4, 5, 6] rfl (zb_wid (show k + 2 ≤ k + 4 ∧ n + 12 ≤ n + 24 by omega) (kk M1 N1 (REL_mono hrel (Nat.le_succ t))))
theorem dL_law_626 : decode code 626 = .ok (.aload_n 1, 1) := by decide +kernel
theorem dL_law_627 : decode code 627 = .ok (.aload_n 0, 1) := by decide +kernel
theorem dL_law_628 : decode code 628 = .ok (.iload 4, 2) := by decide +kernel
theorem dL_law_630 : decode code 630 = .ok (.iconst 1, 1) := by decide +kernel
theorem dL_law_631 : decode code 631 = .ok (.iadd, 1) := by decide +kernel
theorem dL_law_632 : decode code 632 = .ok (.iaload, 1) := by decide +kernel
theorem dL_law_633 : decode code 633 = .ok (.aload_n 0, 1) := by decide +kernel
theorem dL_law_634 : decode code 634 = .ok (.iload 4, 2) := by decide +kernel
theorem dL_law_636 : decode code 636 = .ok (.iconst 2, 1) := by decide +kernel
theorem dL_law_637 : decode code 637 = .ok (.iadd, 1) := by decide +kernel
theorem dL_law_638 : decode code 638 = .ok (.iaload, 1) := by decide +kernel
theorem dL_law_639 : decode code 639 = .ok (.aload_n 3, 1) := by decide +kernel
theorem dL_law_640 : decode code 640 = .ok (.invokestatic 145, 3) := by decide +kernel
theorem dL_law_643 : decode code 643 = .ok (.istore 5, 2) := by decide +kernel
theorem dL_law_645 : decode code 645 = .ok (.aload_n 2, 1) := by decide +kernel
theorem dL_law_646 : decode code 646 = .ok (.aload_n 0, 1) := by decide +kernel
theorem dL_law_647 : decode code 647 = .ok (.iload 4, 2) := by decide +kernel
theorem dL_law_649 : decode code 649 = .ok (.iconst 1, 1) := by decide +kernel
theorem dL_law_650 : decode code 650 = .ok (.iadd, 1) := by decide +kernel
theorem dL_law_651 : decode code 651 = .ok (.iaload, 1) := by decide +kernel
theorem dL_law_652 : decode code 652 = .ok (.aload_n 0, 1) := by decide +kernel
theorem dL_law_653 : decode code 653 = .ok (.iload 4, 2) := by decide +kernel
theorem dL_law_655 : decode code 655 = .ok (.iconst 2, 1) := by decide +kernel
theorem dL_law_656 : decode code 656 = .ok (.iadd, 1) := by decide +kernel
theorem dL_law_657 : decode code 657 = .ok (.iaload, 1) := by decide +kernel
theorem dL_law_658 : decode code 658 = .ok (.invokevirtual 147, 3) := by decide +kernel
theorem dL_law_661 : decode code 661 = .ok (.istore 6, 2) := by decide +kernel
theorem dL_law_663 : decode code 663 = .ok (.aload_n 2, 1) := by decide +kernel
theorem dL_law_664 : decode code 664 = .ok (.invokevirtual 116, 3) := by decide +kernel
theorem dL_law_667 : decode code 667 = .ok (.iload 5, 2) := by decide +kernel
theorem dL_law_669 : decode code 669 = .ok (.if_icmp .eq 5, 3) := by decide +kernel
theorem dL_law_674 : decode code 674 = .ok (.iload 5, 2) := by decide +kernel
theorem dL_law_676 : decode code 676 = .ok (.ifCond .ne 15, 3) := by decide +kernel
theorem dL_law_679 : decode code 679 = .ok (.aload_n 3, 1) := by decide +kernel
theorem dL_law_680 : decode code 680 = .ok (.iconst 0, 1) := by decide +kernel
theorem dL_law_681 : decode code 681 = .ok (.laload, 1) := by decide +kernel
theorem dL_law_682 : decode code 682 = .ok (.iload 6, 2) := by decide +kernel
theorem dL_law_684 : decode code 684 = .ok (.i2l, 1) := by decide +kernel
theorem dL_law_685 : decode code 685 = .ok (.lcmp, 1) := by decide +kernel
theorem dL_law_686 : decode code 686 = .ok (.ifCond .eq 5, 3) := by decide +kernel
theorem dL_law_691 : decode code 691 = .ok (.goto 1592, 3) := by decide +kernel
/-- letter -/
theorem lc_8 {X : gX} {V V2 : gEnv} {b L t k n : Nat} {xs : Nat → Int32} {M N : gMem} (hC : zL X V V2 b L xs) (h : REL t M N) (hi : 6 * t + 6 ≤ L) (hL : L ≤ 3072) (hR : k + 4 ≤ 601024 ∧ n + 24 ≤ 7293034) (kk : ∀ M1 N1, REL (t + 1) M1 N1 → gB X V V2 M1 N1 (k + 4) (n + 24) 2283 (zLS V V2 b (6 * t)) []) : gB X V V2 M N k n 626 (zLS V V2 b (6 * t)) [] := by
  obtain ⟨q, M1, bb, N1, e1, e2, hq2, hth, hout, hrel⟩ := st_letter h (xs (6 * t + 1)) (xs (6 * t + 2))
  refine zb_aload_n hC 2 rfl rfl dL_law_626 ?_
  refine zb_arg hC (a := 6 * t) (j := 1) (ja := 1) (jb := 0) rfl rfl rfl (by omega) hL dL_law_627 dL_law_628 dL_law_630 dL_law_631 dL_law_632 ?_
  refine zb_arg hC (a := 6 * t) (j := 2) (ja := 1) (jb := 0) rfl rfl rfl (by omega) hL dL_law_633 dL_law_634 dL_law_636 dL_law_637 dL_law_638 ?_
  refine zb_aload_n hC 4 rfl rfl dL_law_639 ?_
  refine zb_help hC LL_145 (kL_letter hC.2.2.2.2.2.2.2.2.2.2 e1) rfl rfl (Nat.le_of_ble_eq_true rfl) ⟨Nat.le_of_ble_eq_true rfl, Nat.le_of_ble_eq_true rfl⟩ (show k + 1 ≤ 601024 ∧ n + 6 ≤ 7293034 by omega) dL_law_640 ?_
  refine zb_istore hC (by decide) rfl dL_law_643 ?_
  refine zb_aload_n hC 4 rfl rfl dL_law_645 ?_
  refine zb_arg hC (a := 6 * t) (j := 1) (ja := 2) (jb := 1) rfl rfl rfl (by omega) hL dL_law_646 dL_law_647 dL_law_649 dL_law_650 dL_law_651 ?_
  refine zb_arg hC (a := 6 * t) (j := 2) (ja := 2) (jb := 1) rfl rfl rfl (by omega) hL dL_law_652 dL_law_653 dL_law_655 dL_law_656 dL_law_657 ?_
  refine zb_call2 hC LL_147 rfl (kX11_letter e2) rfl rfl (Nat.le_of_ble_eq_true rfl) ⟨Nat.le_of_ble_eq_true rfl, Nat.le_of_ble_eq_true rfl⟩ (show k + 1 ≤ 601024 ∧ n + 6 ≤ 7293034 by omega) dL_law_658 ?_
  refine zb_istore hC (by decide) rfl dL_law_661 ?_
  refine zb_aload_n hC 5 rfl rfl dL_law_663 ?_
  refine zb_call2 hC LL_116 rfl (kX11_thrown (show fX11_thrown N1 = some (nI q) by rw [← hth]; rfl)) rfl rfl (Nat.le_of_ble_eq_true rfl) ⟨Nat.le_of_ble_eq_true rfl, Nat.le_of_ble_eq_true rfl⟩ (show k + 1 ≤ 601024 ∧ n + 6 ≤ 7293034 by omega) dL_law_664 ?_
  refine zb_iload hC 1 rfl dL_law_667 ?_
  refine zb_icmp_eq_t hC rfl (tgt := 674) rfl dL_law_669 ?_
  refine zb_iload hC 1 rfl dL_law_674 ?_
  by_cases hq : q = 0
  · have hq0 : nI q = 0 := by rw [hq]; rfl
    refine zb_if_ne_f hC hq0 (tgt := 691) rfl dL_law_676 ?_
    refine zb_aload_n hC 6 rfl rfl dL_law_679 ?_
    refine zb_iconst hC (v := 0) rfl dL_law_680 ?_
    refine zb_out hC (hout hq) dL_law_681 ?_
    refine zb_iload hC 0 rfl dL_law_682 ?_
    refine zb_i2l hC dL_law_684 ?_
    refine zb_lcmp hC dL_law_685 ?_
    refine zb_if_eq_t hC (zcmp _) (tgt := 691) rfl dL_law_686 ?_
    refine zb_goto hC (tgt := 2283) rfl dL_law_691 ?_
    exact zb_sub [2, 3, 4, 5, 6] rfl (zb_wid (show k + 1 ≤ k + 4 ∧ n + 6 ≤ n + 24 by omega) (kk M1 N1 (REL_mono hrel (Nat.le_succ t))))
  · have hq0 : ¬ nI q = 0 := by rw [show (0 : Int32) = nI 0 from rfl, p_eq (by omega) (by omega)]; exact hq
    refine zb_if_ne_t hC hq0 (tgt := 691) rfl dL_law_676 ?_
    refine zb_goto hC (tgt := 2283) rfl dL_law_691 ?_
    exact zb_sub [2, 3, 4, 5, 6] rfl (zb_wid (show k + 1 ≤ k + 4 ∧ n + 6 ≤ n + 24 by omega) (kk M1 N1 (REL_mono hrel (Nat.le_succ t))))

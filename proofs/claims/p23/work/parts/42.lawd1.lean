theorem dg_L_law_589 : (decode cL_law 589 = .ok (.iload_n 3, 1)) ∧ (decode cL_law 590 = .ok (.bipush 8, 2)) ∧ (decode cL_law 592 = .ok (.iadd, 1)) ∧ (decode cL_law 593 = .ok (.iaload, 1)) ∧ (decode cL_law 594 = .ok (.i2l, 1)) ∧ (decode cL_law 595 = .ok (.ldc2_w 49, 3)) ∧ (decode cL_law 598 = .ok (.land, 1)) ∧ (decode cL_law 599 = .ok (.lor, 1)) ∧ (decode cL_law 600 = .ok (.invokevirtual 51, 3)) ∧ (decode cL_law 603 = .ok (.pop, 1)) ∧ (decode cL_law 604 = .ok (.aload_n 2, 1)) ∧ (decode cL_law 605 = .ok (.aload_n 0, 1)) ∧ (decode cL_law 606 = .ok (.iload_n 3, 1)) ∧ (decode cL_law 607 = .ok (.iconst 1, 1)) ∧ (decode cL_law 608 = .ok (.iadd, 1)) ∧ (decode cL_law 609 = .ok (.iaload, 1)) := by decide +kernel
theorem dL_law_589 : decode cL_law 589 = .ok (.iload_n 3, 1) := dg_L_law_589.1
theorem dL_law_590 : decode cL_law 590 = .ok (.bipush 8, 2) := dg_L_law_589.2.1
theorem dL_law_592 : decode cL_law 592 = .ok (.iadd, 1) := dg_L_law_589.2.2.1
theorem dL_law_593 : decode cL_law 593 = .ok (.iaload, 1) := dg_L_law_589.2.2.2.1
theorem dL_law_594 : decode cL_law 594 = .ok (.i2l, 1) := dg_L_law_589.2.2.2.2.1
theorem dL_law_595 : decode cL_law 595 = .ok (.ldc2_w 49, 3) := dg_L_law_589.2.2.2.2.2.1
theorem dL_law_598 : decode cL_law 598 = .ok (.land, 1) := dg_L_law_589.2.2.2.2.2.2.1
theorem dL_law_599 : decode cL_law 599 = .ok (.lor, 1) := dg_L_law_589.2.2.2.2.2.2.2.1
theorem dL_law_600 : decode cL_law 600 = .ok (.invokevirtual 51, 3) := dg_L_law_589.2.2.2.2.2.2.2.2.1
theorem dL_law_603 : decode cL_law 603 = .ok (.pop, 1) := dg_L_law_589.2.2.2.2.2.2.2.2.2.1
theorem dL_law_604 : decode cL_law 604 = .ok (.aload_n 2, 1) := dg_L_law_589.2.2.2.2.2.2.2.2.2.2.1
theorem dL_law_605 : decode cL_law 605 = .ok (.aload_n 0, 1) := dg_L_law_589.2.2.2.2.2.2.2.2.2.2.2.1
theorem dL_law_606 : decode cL_law 606 = .ok (.iload_n 3, 1) := dg_L_law_589.2.2.2.2.2.2.2.2.2.2.2.2.1
theorem dL_law_607 : decode cL_law 607 = .ok (.iconst 1, 1) := dg_L_law_589.2.2.2.2.2.2.2.2.2.2.2.2.2.1
theorem dL_law_608 : decode cL_law 608 = .ok (.iadd, 1) := dg_L_law_589.2.2.2.2.2.2.2.2.2.2.2.2.2.2.1
theorem dL_law_609 : decode cL_law 609 = .ok (.iaload, 1) := dg_L_law_589.2.2.2.2.2.2.2.2.2.2.2.2.2.2.2
theorem dg_L_law_610 : (decode cL_law 610 = .ok (.aload_n 0, 1)) ∧ (decode cL_law 611 = .ok (.iload_n 3, 1)) ∧ (decode cL_law 612 = .ok (.iconst 2, 1)) ∧ (decode cL_law 613 = .ok (.iadd, 1)) ∧ (decode cL_law 614 = .ok (.iaload, 1)) ∧ (decode cL_law 615 = .ok (.aload_n 0, 1)) ∧ (decode cL_law 616 = .ok (.iload_n 3, 1)) ∧ (decode cL_law 617 = .ok (.iconst 3, 1)) ∧ (decode cL_law 618 = .ok (.iadd, 1)) ∧ (decode cL_law 619 = .ok (.iaload, 1)) ∧ (decode cL_law 620 = .ok (.aload_n 0, 1)) ∧ (decode cL_law 621 = .ok (.iload_n 3, 1)) ∧ (decode cL_law 622 = .ok (.iconst 4, 1)) ∧ (decode cL_law 623 = .ok (.iadd, 1)) ∧ (decode cL_law 624 = .ok (.iaload, 1)) ∧ (decode cL_law 625 = .ok (.aload_n 0, 1)) := by decide +kernel
theorem dL_law_610 : decode cL_law 610 = .ok (.aload_n 0, 1) := dg_L_law_610.1
theorem dL_law_611 : decode cL_law 611 = .ok (.iload_n 3, 1) := dg_L_law_610.2.1
theorem dL_law_612 : decode cL_law 612 = .ok (.iconst 2, 1) := dg_L_law_610.2.2.1
theorem dL_law_613 : decode cL_law 613 = .ok (.iadd, 1) := dg_L_law_610.2.2.2.1
theorem dL_law_614 : decode cL_law 614 = .ok (.iaload, 1) := dg_L_law_610.2.2.2.2.1
theorem dL_law_615 : decode cL_law 615 = .ok (.aload_n 0, 1) := dg_L_law_610.2.2.2.2.2.1
theorem dL_law_616 : decode cL_law 616 = .ok (.iload_n 3, 1) := dg_L_law_610.2.2.2.2.2.2.1
theorem dL_law_617 : decode cL_law 617 = .ok (.iconst 3, 1) := dg_L_law_610.2.2.2.2.2.2.2.1
theorem dL_law_618 : decode cL_law 618 = .ok (.iadd, 1) := dg_L_law_610.2.2.2.2.2.2.2.2.1
theorem dL_law_619 : decode cL_law 619 = .ok (.iaload, 1) := dg_L_law_610.2.2.2.2.2.2.2.2.2.1
theorem dL_law_620 : decode cL_law 620 = .ok (.aload_n 0, 1) := dg_L_law_610.2.2.2.2.2.2.2.2.2.2.1
theorem dL_law_621 : decode cL_law 621 = .ok (.iload_n 3, 1) := dg_L_law_610.2.2.2.2.2.2.2.2.2.2.2.1
theorem dL_law_622 : decode cL_law 622 = .ok (.iconst 4, 1) := dg_L_law_610.2.2.2.2.2.2.2.2.2.2.2.2.1
theorem dL_law_623 : decode cL_law 623 = .ok (.iadd, 1) := dg_L_law_610.2.2.2.2.2.2.2.2.2.2.2.2.2.1
theorem dL_law_624 : decode cL_law 624 = .ok (.iaload, 1) := dg_L_law_610.2.2.2.2.2.2.2.2.2.2.2.2.2.2.1
theorem dL_law_625 : decode cL_law 625 = .ok (.aload_n 0, 1) := dg_L_law_610.2.2.2.2.2.2.2.2.2.2.2.2.2.2.2
theorem dg_L_law_626 : (decode cL_law 626 = .ok (.iload_n 3, 1)) ∧ (decode cL_law 627 = .ok (.iconst 5, 1)) ∧ (decode cL_law 628 = .ok (.iadd, 1)) ∧ (decode cL_law 629 = .ok (.iaload, 1)) ∧ (decode cL_law 630 = .ok (.aload_n 0, 1)) ∧ (decode cL_law 631 = .ok (.iload_n 3, 1)) ∧ (decode cL_law 632 = .ok (.bipush 6, 2)) ∧ (decode cL_law 634 = .ok (.iadd, 1)) ∧ (decode cL_law 635 = .ok (.iaload, 1)) ∧ (decode cL_law 636 = .ok (.aload_n 0, 1)) ∧ (decode cL_law 637 = .ok (.iload_n 3, 1)) ∧ (decode cL_law 638 = .ok (.bipush 7, 2)) ∧ (decode cL_law 640 = .ok (.iadd, 1)) ∧ (decode cL_law 641 = .ok (.iaload, 1)) ∧ (decode cL_law 642 = .ok (.i2l, 1)) ∧ (decode cL_law 643 = .ok (.bipush 32, 2)) := by decide +kernel
theorem dL_law_626 : decode cL_law 626 = .ok (.iload_n 3, 1) := dg_L_law_626.1
theorem dL_law_627 : decode cL_law 627 = .ok (.iconst 5, 1) := dg_L_law_626.2.1
theorem dL_law_628 : decode cL_law 628 = .ok (.iadd, 1) := dg_L_law_626.2.2.1
theorem dL_law_629 : decode cL_law 629 = .ok (.iaload, 1) := dg_L_law_626.2.2.2.1
theorem dL_law_630 : decode cL_law 630 = .ok (.aload_n 0, 1) := dg_L_law_626.2.2.2.2.1
theorem dL_law_631 : decode cL_law 631 = .ok (.iload_n 3, 1) := dg_L_law_626.2.2.2.2.2.1
theorem dL_law_632 : decode cL_law 632 = .ok (.bipush 6, 2) := dg_L_law_626.2.2.2.2.2.2.1
theorem dL_law_634 : decode cL_law 634 = .ok (.iadd, 1) := dg_L_law_626.2.2.2.2.2.2.2.1
theorem dL_law_635 : decode cL_law 635 = .ok (.iaload, 1) := dg_L_law_626.2.2.2.2.2.2.2.2.1
theorem dL_law_636 : decode cL_law 636 = .ok (.aload_n 0, 1) := dg_L_law_626.2.2.2.2.2.2.2.2.2.1
theorem dL_law_637 : decode cL_law 637 = .ok (.iload_n 3, 1) := dg_L_law_626.2.2.2.2.2.2.2.2.2.2.1
theorem dL_law_638 : decode cL_law 638 = .ok (.bipush 7, 2) := dg_L_law_626.2.2.2.2.2.2.2.2.2.2.2.1
theorem dL_law_640 : decode cL_law 640 = .ok (.iadd, 1) := dg_L_law_626.2.2.2.2.2.2.2.2.2.2.2.2.1
theorem dL_law_641 : decode cL_law 641 = .ok (.iaload, 1) := dg_L_law_626.2.2.2.2.2.2.2.2.2.2.2.2.2.1
theorem dL_law_642 : decode cL_law 642 = .ok (.i2l, 1) := dg_L_law_626.2.2.2.2.2.2.2.2.2.2.2.2.2.2.1
theorem dL_law_643 : decode cL_law 643 = .ok (.bipush 32, 2) := dg_L_law_626.2.2.2.2.2.2.2.2.2.2.2.2.2.2.2
theorem dg_L_law_645 : (decode cL_law 645 = .ok (.lshl, 1)) ∧ (decode cL_law 646 = .ok (.aload_n 0, 1)) ∧ (decode cL_law 647 = .ok (.iload_n 3, 1)) ∧ (decode cL_law 648 = .ok (.bipush 8, 2)) ∧ (decode cL_law 650 = .ok (.iadd, 1)) ∧ (decode cL_law 651 = .ok (.iaload, 1)) ∧ (decode cL_law 652 = .ok (.i2l, 1)) ∧ (decode cL_law 653 = .ok (.ldc2_w 49, 3)) ∧ (decode cL_law 656 = .ok (.land, 1)) ∧ (decode cL_law 657 = .ok (.lor, 1)) ∧ (decode cL_law 658 = .ok (.invokevirtual 55, 3)) ∧ (decode cL_law 661 = .ok (.pop, 1)) ∧ (decode cL_law 662 = .ok (.goto 1209, 3)) ∧ (decode cL_law 665 = .ok (.aload_n 1, 1)) ∧ (decode cL_law 666 = .ok (.aload_n 0, 1)) ∧ (decode cL_law 667 = .ok (.iload_n 3, 1)) := by decide +kernel
theorem dL_law_645 : decode cL_law 645 = .ok (.lshl, 1) := dg_L_law_645.1
theorem dL_law_646 : decode cL_law 646 = .ok (.aload_n 0, 1) := dg_L_law_645.2.1
theorem dL_law_647 : decode cL_law 647 = .ok (.iload_n 3, 1) := dg_L_law_645.2.2.1
theorem dL_law_648 : decode cL_law 648 = .ok (.bipush 8, 2) := dg_L_law_645.2.2.2.1
theorem dL_law_650 : decode cL_law 650 = .ok (.iadd, 1) := dg_L_law_645.2.2.2.2.1
theorem dL_law_651 : decode cL_law 651 = .ok (.iaload, 1) := dg_L_law_645.2.2.2.2.2.1
theorem dL_law_652 : decode cL_law 652 = .ok (.i2l, 1) := dg_L_law_645.2.2.2.2.2.2.1
theorem dL_law_653 : decode cL_law 653 = .ok (.ldc2_w 49, 3) := dg_L_law_645.2.2.2.2.2.2.2.1
theorem dL_law_656 : decode cL_law 656 = .ok (.land, 1) := dg_L_law_645.2.2.2.2.2.2.2.2.1
theorem dL_law_657 : decode cL_law 657 = .ok (.lor, 1) := dg_L_law_645.2.2.2.2.2.2.2.2.2.1
theorem dL_law_658 : decode cL_law 658 = .ok (.invokevirtual 55, 3) := dg_L_law_645.2.2.2.2.2.2.2.2.2.2.1
theorem dL_law_661 : decode cL_law 661 = .ok (.pop, 1) := dg_L_law_645.2.2.2.2.2.2.2.2.2.2.2.1
theorem dL_law_662 : decode cL_law 662 = .ok (.goto 1209, 3) := dg_L_law_645.2.2.2.2.2.2.2.2.2.2.2.2.1
theorem dL_law_665 : decode cL_law 665 = .ok (.aload_n 1, 1) := dg_L_law_645.2.2.2.2.2.2.2.2.2.2.2.2.2.1
theorem dL_law_666 : decode cL_law 666 = .ok (.aload_n 0, 1) := dg_L_law_645.2.2.2.2.2.2.2.2.2.2.2.2.2.2.1
theorem dL_law_667 : decode cL_law 667 = .ok (.iload_n 3, 1) := dg_L_law_645.2.2.2.2.2.2.2.2.2.2.2.2.2.2.2
theorem dg_L_law_668 : (decode cL_law 668 = .ok (.iconst 1, 1)) ∧ (decode cL_law 669 = .ok (.iadd, 1)) ∧ (decode cL_law 670 = .ok (.iaload, 1)) ∧ (decode cL_law 671 = .ok (.aload_n 0, 1)) ∧ (decode cL_law 672 = .ok (.iload_n 3, 1)) ∧ (decode cL_law 673 = .ok (.iconst 2, 1)) ∧ (decode cL_law 674 = .ok (.iadd, 1)) ∧ (decode cL_law 675 = .ok (.iaload, 1)) ∧ (decode cL_law 676 = .ok (.aload_n 0, 1)) ∧ (decode cL_law 677 = .ok (.iload_n 3, 1)) ∧ (decode cL_law 678 = .ok (.iconst 3, 1)) ∧ (decode cL_law 679 = .ok (.iadd, 1)) ∧ (decode cL_law 680 = .ok (.iaload, 1)) ∧ (decode cL_law 681 = .ok (.aload_n 0, 1)) ∧ (decode cL_law 682 = .ok (.iload_n 3, 1)) ∧ (decode cL_law 683 = .ok (.iconst 4, 1)) := by decide +kernel
theorem dL_law_668 : decode cL_law 668 = .ok (.iconst 1, 1) := dg_L_law_668.1
theorem dL_law_669 : decode cL_law 669 = .ok (.iadd, 1) := dg_L_law_668.2.1
theorem dL_law_670 : decode cL_law 670 = .ok (.iaload, 1) := dg_L_law_668.2.2.1
theorem dL_law_671 : decode cL_law 671 = .ok (.aload_n 0, 1) := dg_L_law_668.2.2.2.1
theorem dL_law_672 : decode cL_law 672 = .ok (.iload_n 3, 1) := dg_L_law_668.2.2.2.2.1
theorem dL_law_673 : decode cL_law 673 = .ok (.iconst 2, 1) := dg_L_law_668.2.2.2.2.2.1
theorem dL_law_674 : decode cL_law 674 = .ok (.iadd, 1) := dg_L_law_668.2.2.2.2.2.2.1
theorem dL_law_675 : decode cL_law 675 = .ok (.iaload, 1) := dg_L_law_668.2.2.2.2.2.2.2.1
theorem dL_law_676 : decode cL_law 676 = .ok (.aload_n 0, 1) := dg_L_law_668.2.2.2.2.2.2.2.2.1
theorem dL_law_677 : decode cL_law 677 = .ok (.iload_n 3, 1) := dg_L_law_668.2.2.2.2.2.2.2.2.2.1
theorem dL_law_678 : decode cL_law 678 = .ok (.iconst 3, 1) := dg_L_law_668.2.2.2.2.2.2.2.2.2.2.1
theorem dL_law_679 : decode cL_law 679 = .ok (.iadd, 1) := dg_L_law_668.2.2.2.2.2.2.2.2.2.2.2.1
theorem dL_law_680 : decode cL_law 680 = .ok (.iaload, 1) := dg_L_law_668.2.2.2.2.2.2.2.2.2.2.2.2.1
theorem dL_law_681 : decode cL_law 681 = .ok (.aload_n 0, 1) := dg_L_law_668.2.2.2.2.2.2.2.2.2.2.2.2.2.1
theorem dL_law_682 : decode cL_law 682 = .ok (.iload_n 3, 1) := dg_L_law_668.2.2.2.2.2.2.2.2.2.2.2.2.2.2.1
theorem dL_law_683 : decode cL_law 683 = .ok (.iconst 4, 1) := dg_L_law_668.2.2.2.2.2.2.2.2.2.2.2.2.2.2.2
theorem dg_L_law_684 : (decode cL_law 684 = .ok (.iadd, 1)) ∧ (decode cL_law 685 = .ok (.iaload, 1)) ∧ (decode cL_law 686 = .ok (.aload_n 0, 1)) ∧ (decode cL_law 687 = .ok (.iload_n 3, 1)) ∧ (decode cL_law 688 = .ok (.iconst 5, 1)) ∧ (decode cL_law 689 = .ok (.iadd, 1)) ∧ (decode cL_law 690 = .ok (.iaload, 1)) ∧ (decode cL_law 691 = .ok (.invokevirtual 56, 3)) ∧ (decode cL_law 694 = .ok (.pop, 1)) ∧ (decode cL_law 695 = .ok (.aload_n 2, 1)) ∧ (decode cL_law 696 = .ok (.aload_n 0, 1)) ∧ (decode cL_law 697 = .ok (.iload_n 3, 1)) ∧ (decode cL_law 698 = .ok (.iconst 1, 1)) ∧ (decode cL_law 699 = .ok (.iadd, 1)) ∧ (decode cL_law 700 = .ok (.iaload, 1)) ∧ (decode cL_law 701 = .ok (.aload_n 0, 1)) := by decide +kernel
theorem dL_law_684 : decode cL_law 684 = .ok (.iadd, 1) := dg_L_law_684.1
theorem dL_law_685 : decode cL_law 685 = .ok (.iaload, 1) := dg_L_law_684.2.1
theorem dL_law_686 : decode cL_law 686 = .ok (.aload_n 0, 1) := dg_L_law_684.2.2.1
theorem dL_law_687 : decode cL_law 687 = .ok (.iload_n 3, 1) := dg_L_law_684.2.2.2.1
theorem dL_law_688 : decode cL_law 688 = .ok (.iconst 5, 1) := dg_L_law_684.2.2.2.2.1
theorem dL_law_689 : decode cL_law 689 = .ok (.iadd, 1) := dg_L_law_684.2.2.2.2.2.1
theorem dL_law_690 : decode cL_law 690 = .ok (.iaload, 1) := dg_L_law_684.2.2.2.2.2.2.1
theorem dL_law_691 : decode cL_law 691 = .ok (.invokevirtual 56, 3) := dg_L_law_684.2.2.2.2.2.2.2.1
theorem dL_law_694 : decode cL_law 694 = .ok (.pop, 1) := dg_L_law_684.2.2.2.2.2.2.2.2.1
theorem dL_law_695 : decode cL_law 695 = .ok (.aload_n 2, 1) := dg_L_law_684.2.2.2.2.2.2.2.2.2.1
theorem dL_law_696 : decode cL_law 696 = .ok (.aload_n 0, 1) := dg_L_law_684.2.2.2.2.2.2.2.2.2.2.1
theorem dL_law_697 : decode cL_law 697 = .ok (.iload_n 3, 1) := dg_L_law_684.2.2.2.2.2.2.2.2.2.2.2.1
theorem dL_law_698 : decode cL_law 698 = .ok (.iconst 1, 1) := dg_L_law_684.2.2.2.2.2.2.2.2.2.2.2.2.1
theorem dL_law_699 : decode cL_law 699 = .ok (.iadd, 1) := dg_L_law_684.2.2.2.2.2.2.2.2.2.2.2.2.2.1
theorem dL_law_700 : decode cL_law 700 = .ok (.iaload, 1) := dg_L_law_684.2.2.2.2.2.2.2.2.2.2.2.2.2.2.1
theorem dL_law_701 : decode cL_law 701 = .ok (.aload_n 0, 1) := dg_L_law_684.2.2.2.2.2.2.2.2.2.2.2.2.2.2.2
theorem dg_L_law_702 : (decode cL_law 702 = .ok (.iload_n 3, 1)) ∧ (decode cL_law 703 = .ok (.iconst 2, 1)) ∧ (decode cL_law 704 = .ok (.iadd, 1)) ∧ (decode cL_law 705 = .ok (.iaload, 1)) ∧ (decode cL_law 706 = .ok (.aload_n 0, 1)) ∧ (decode cL_law 707 = .ok (.iload_n 3, 1)) ∧ (decode cL_law 708 = .ok (.iconst 3, 1)) ∧ (decode cL_law 709 = .ok (.iadd, 1)) ∧ (decode cL_law 710 = .ok (.iaload, 1)) ∧ (decode cL_law 711 = .ok (.aload_n 0, 1)) ∧ (decode cL_law 712 = .ok (.iload_n 3, 1)) ∧ (decode cL_law 713 = .ok (.iconst 4, 1)) ∧ (decode cL_law 714 = .ok (.iadd, 1)) ∧ (decode cL_law 715 = .ok (.iaload, 1)) ∧ (decode cL_law 716 = .ok (.aload_n 0, 1)) ∧ (decode cL_law 717 = .ok (.iload_n 3, 1)) := by decide +kernel
theorem dL_law_702 : decode cL_law 702 = .ok (.iload_n 3, 1) := dg_L_law_702.1
theorem dL_law_703 : decode cL_law 703 = .ok (.iconst 2, 1) := dg_L_law_702.2.1
theorem dL_law_704 : decode cL_law 704 = .ok (.iadd, 1) := dg_L_law_702.2.2.1
theorem dL_law_705 : decode cL_law 705 = .ok (.iaload, 1) := dg_L_law_702.2.2.2.1
theorem dL_law_706 : decode cL_law 706 = .ok (.aload_n 0, 1) := dg_L_law_702.2.2.2.2.1
theorem dL_law_707 : decode cL_law 707 = .ok (.iload_n 3, 1) := dg_L_law_702.2.2.2.2.2.1
theorem dL_law_708 : decode cL_law 708 = .ok (.iconst 3, 1) := dg_L_law_702.2.2.2.2.2.2.1
theorem dL_law_709 : decode cL_law 709 = .ok (.iadd, 1) := dg_L_law_702.2.2.2.2.2.2.2.1
theorem dL_law_710 : decode cL_law 710 = .ok (.iaload, 1) := dg_L_law_702.2.2.2.2.2.2.2.2.1
theorem dL_law_711 : decode cL_law 711 = .ok (.aload_n 0, 1) := dg_L_law_702.2.2.2.2.2.2.2.2.2.1
theorem dL_law_712 : decode cL_law 712 = .ok (.iload_n 3, 1) := dg_L_law_702.2.2.2.2.2.2.2.2.2.2.1
theorem dL_law_713 : decode cL_law 713 = .ok (.iconst 4, 1) := dg_L_law_702.2.2.2.2.2.2.2.2.2.2.2.1
theorem dL_law_714 : decode cL_law 714 = .ok (.iadd, 1) := dg_L_law_702.2.2.2.2.2.2.2.2.2.2.2.2.1
theorem dL_law_715 : decode cL_law 715 = .ok (.iaload, 1) := dg_L_law_702.2.2.2.2.2.2.2.2.2.2.2.2.2.1
theorem dL_law_716 : decode cL_law 716 = .ok (.aload_n 0, 1) := dg_L_law_702.2.2.2.2.2.2.2.2.2.2.2.2.2.2.1
theorem dL_law_717 : decode cL_law 717 = .ok (.iload_n 3, 1) := dg_L_law_702.2.2.2.2.2.2.2.2.2.2.2.2.2.2.2
theorem dg_L_law_718 : (decode cL_law 718 = .ok (.iconst 5, 1)) ∧ (decode cL_law 719 = .ok (.iadd, 1)) ∧ (decode cL_law 720 = .ok (.iaload, 1)) ∧ (decode cL_law 721 = .ok (.invokevirtual 60, 3)) ∧ (decode cL_law 724 = .ok (.pop, 1)) ∧ (decode cL_law 725 = .ok (.goto 1146, 3)) ∧ (decode cL_law 728 = .ok (.aload_n 1, 1)) ∧ (decode cL_law 729 = .ok (.aload_n 0, 1)) ∧ (decode cL_law 730 = .ok (.iload_n 3, 1)) ∧ (decode cL_law 731 = .ok (.iconst 1, 1)) ∧ (decode cL_law 732 = .ok (.iadd, 1)) ∧ (decode cL_law 733 = .ok (.iaload, 1)) ∧ (decode cL_law 734 = .ok (.aload_n 0, 1)) ∧ (decode cL_law 735 = .ok (.iload_n 3, 1)) ∧ (decode cL_law 736 = .ok (.iconst 2, 1)) ∧ (decode cL_law 737 = .ok (.iadd, 1)) := by decide +kernel
theorem dL_law_718 : decode cL_law 718 = .ok (.iconst 5, 1) := dg_L_law_718.1
theorem dL_law_719 : decode cL_law 719 = .ok (.iadd, 1) := dg_L_law_718.2.1
theorem dL_law_720 : decode cL_law 720 = .ok (.iaload, 1) := dg_L_law_718.2.2.1
theorem dL_law_721 : decode cL_law 721 = .ok (.invokevirtual 60, 3) := dg_L_law_718.2.2.2.1
theorem dL_law_724 : decode cL_law 724 = .ok (.pop, 1) := dg_L_law_718.2.2.2.2.1
theorem dL_law_725 : decode cL_law 725 = .ok (.goto 1146, 3) := dg_L_law_718.2.2.2.2.2.1
theorem dL_law_728 : decode cL_law 728 = .ok (.aload_n 1, 1) := dg_L_law_718.2.2.2.2.2.2.1
theorem dL_law_729 : decode cL_law 729 = .ok (.aload_n 0, 1) := dg_L_law_718.2.2.2.2.2.2.2.1
theorem dL_law_730 : decode cL_law 730 = .ok (.iload_n 3, 1) := dg_L_law_718.2.2.2.2.2.2.2.2.1
theorem dL_law_731 : decode cL_law 731 = .ok (.iconst 1, 1) := dg_L_law_718.2.2.2.2.2.2.2.2.2.1
theorem dL_law_732 : decode cL_law 732 = .ok (.iadd, 1) := dg_L_law_718.2.2.2.2.2.2.2.2.2.2.1
theorem dL_law_733 : decode cL_law 733 = .ok (.iaload, 1) := dg_L_law_718.2.2.2.2.2.2.2.2.2.2.2.1
theorem dL_law_734 : decode cL_law 734 = .ok (.aload_n 0, 1) := dg_L_law_718.2.2.2.2.2.2.2.2.2.2.2.2.1
theorem dL_law_735 : decode cL_law 735 = .ok (.iload_n 3, 1) := dg_L_law_718.2.2.2.2.2.2.2.2.2.2.2.2.2.1
theorem dL_law_736 : decode cL_law 736 = .ok (.iconst 2, 1) := dg_L_law_718.2.2.2.2.2.2.2.2.2.2.2.2.2.2.1
theorem dL_law_737 : decode cL_law 737 = .ok (.iadd, 1) := dg_L_law_718.2.2.2.2.2.2.2.2.2.2.2.2.2.2.2
theorem dg_L_law_738 : (decode cL_law 738 = .ok (.iaload, 1)) ∧ (decode cL_law 739 = .ok (.aload_n 0, 1)) ∧ (decode cL_law 740 = .ok (.iload_n 3, 1)) ∧ (decode cL_law 741 = .ok (.iconst 3, 1)) ∧ (decode cL_law 742 = .ok (.iadd, 1)) ∧ (decode cL_law 743 = .ok (.iaload, 1)) ∧ (decode cL_law 744 = .ok (.aload_n 0, 1)) ∧ (decode cL_law 745 = .ok (.iload_n 3, 1)) ∧ (decode cL_law 746 = .ok (.iconst 4, 1)) ∧ (decode cL_law 747 = .ok (.iadd, 1)) ∧ (decode cL_law 748 = .ok (.iaload, 1)) ∧ (decode cL_law 749 = .ok (.aload_n 0, 1)) ∧ (decode cL_law 750 = .ok (.iload_n 3, 1)) ∧ (decode cL_law 751 = .ok (.iconst 5, 1)) ∧ (decode cL_law 752 = .ok (.iadd, 1)) ∧ (decode cL_law 753 = .ok (.iaload, 1)) := by decide +kernel
theorem dL_law_738 : decode cL_law 738 = .ok (.iaload, 1) := dg_L_law_738.1
theorem dL_law_739 : decode cL_law 739 = .ok (.aload_n 0, 1) := dg_L_law_738.2.1
theorem dL_law_740 : decode cL_law 740 = .ok (.iload_n 3, 1) := dg_L_law_738.2.2.1
theorem dL_law_741 : decode cL_law 741 = .ok (.iconst 3, 1) := dg_L_law_738.2.2.2.1
theorem dL_law_742 : decode cL_law 742 = .ok (.iadd, 1) := dg_L_law_738.2.2.2.2.1
theorem dL_law_743 : decode cL_law 743 = .ok (.iaload, 1) := dg_L_law_738.2.2.2.2.2.1
theorem dL_law_744 : decode cL_law 744 = .ok (.aload_n 0, 1) := dg_L_law_738.2.2.2.2.2.2.1
theorem dL_law_745 : decode cL_law 745 = .ok (.iload_n 3, 1) := dg_L_law_738.2.2.2.2.2.2.2.1
theorem dL_law_746 : decode cL_law 746 = .ok (.iconst 4, 1) := dg_L_law_738.2.2.2.2.2.2.2.2.1
theorem dL_law_747 : decode cL_law 747 = .ok (.iadd, 1) := dg_L_law_738.2.2.2.2.2.2.2.2.2.1
theorem dL_law_748 : decode cL_law 748 = .ok (.iaload, 1) := dg_L_law_738.2.2.2.2.2.2.2.2.2.2.1
theorem dL_law_749 : decode cL_law 749 = .ok (.aload_n 0, 1) := dg_L_law_738.2.2.2.2.2.2.2.2.2.2.2.1
theorem dL_law_750 : decode cL_law 750 = .ok (.iload_n 3, 1) := dg_L_law_738.2.2.2.2.2.2.2.2.2.2.2.2.1
theorem dL_law_751 : decode cL_law 751 = .ok (.iconst 5, 1) := dg_L_law_738.2.2.2.2.2.2.2.2.2.2.2.2.2.1
theorem dL_law_752 : decode cL_law 752 = .ok (.iadd, 1) := dg_L_law_738.2.2.2.2.2.2.2.2.2.2.2.2.2.2.1
theorem dL_law_753 : decode cL_law 753 = .ok (.iaload, 1) := dg_L_law_738.2.2.2.2.2.2.2.2.2.2.2.2.2.2.2
theorem dg_L_law_754 : (decode cL_law 754 = .ok (.aload_n 0, 1)) ∧ (decode cL_law 755 = .ok (.iload_n 3, 1)) ∧ (decode cL_law 756 = .ok (.bipush 6, 2)) ∧ (decode cL_law 758 = .ok (.iadd, 1)) ∧ (decode cL_law 759 = .ok (.iaload, 1)) ∧ (decode cL_law 760 = .ok (.ifCond .eq 7, 3)) ∧ (decode cL_law 763 = .ok (.iconst 1, 1)) ∧ (decode cL_law 764 = .ok (.goto 4, 3)) ∧ (decode cL_law 767 = .ok (.iconst 0, 1)) ∧ (decode cL_law 768 = .ok (.invokevirtual 61, 3)) ∧ (decode cL_law 771 = .ok (.pop, 1)) ∧ (decode cL_law 772 = .ok (.aload_n 2, 1)) ∧ (decode cL_law 773 = .ok (.aload_n 0, 1)) ∧ (decode cL_law 774 = .ok (.iload_n 3, 1)) ∧ (decode cL_law 775 = .ok (.iconst 1, 1)) ∧ (decode cL_law 776 = .ok (.iadd, 1)) := by decide +kernel
theorem dL_law_754 : decode cL_law 754 = .ok (.aload_n 0, 1) := dg_L_law_754.1
theorem dL_law_755 : decode cL_law 755 = .ok (.iload_n 3, 1) := dg_L_law_754.2.1
theorem dL_law_756 : decode cL_law 756 = .ok (.bipush 6, 2) := dg_L_law_754.2.2.1
theorem dL_law_758 : decode cL_law 758 = .ok (.iadd, 1) := dg_L_law_754.2.2.2.1
theorem dL_law_759 : decode cL_law 759 = .ok (.iaload, 1) := dg_L_law_754.2.2.2.2.1
theorem dL_law_760 : decode cL_law 760 = .ok (.ifCond .eq 7, 3) := dg_L_law_754.2.2.2.2.2.1
theorem dL_law_763 : decode cL_law 763 = .ok (.iconst 1, 1) := dg_L_law_754.2.2.2.2.2.2.1
theorem dL_law_764 : decode cL_law 764 = .ok (.goto 4, 3) := dg_L_law_754.2.2.2.2.2.2.2.1
theorem dL_law_767 : decode cL_law 767 = .ok (.iconst 0, 1) := dg_L_law_754.2.2.2.2.2.2.2.2.1
theorem dL_law_768 : decode cL_law 768 = .ok (.invokevirtual 61, 3) := dg_L_law_754.2.2.2.2.2.2.2.2.2.1
theorem dL_law_771 : decode cL_law 771 = .ok (.pop, 1) := dg_L_law_754.2.2.2.2.2.2.2.2.2.2.1
theorem dL_law_772 : decode cL_law 772 = .ok (.aload_n 2, 1) := dg_L_law_754.2.2.2.2.2.2.2.2.2.2.2.1
theorem dL_law_773 : decode cL_law 773 = .ok (.aload_n 0, 1) := dg_L_law_754.2.2.2.2.2.2.2.2.2.2.2.2.1
theorem dL_law_774 : decode cL_law 774 = .ok (.iload_n 3, 1) := dg_L_law_754.2.2.2.2.2.2.2.2.2.2.2.2.2.1
theorem dL_law_775 : decode cL_law 775 = .ok (.iconst 1, 1) := dg_L_law_754.2.2.2.2.2.2.2.2.2.2.2.2.2.2.1
theorem dL_law_776 : decode cL_law 776 = .ok (.iadd, 1) := dg_L_law_754.2.2.2.2.2.2.2.2.2.2.2.2.2.2.2
theorem dg_L_law_777 : (decode cL_law 777 = .ok (.iaload, 1)) ∧ (decode cL_law 778 = .ok (.aload_n 0, 1)) ∧ (decode cL_law 779 = .ok (.iload_n 3, 1)) ∧ (decode cL_law 780 = .ok (.iconst 2, 1)) ∧ (decode cL_law 781 = .ok (.iadd, 1)) ∧ (decode cL_law 782 = .ok (.iaload, 1)) ∧ (decode cL_law 783 = .ok (.aload_n 0, 1)) ∧ (decode cL_law 784 = .ok (.iload_n 3, 1)) ∧ (decode cL_law 785 = .ok (.iconst 3, 1)) ∧ (decode cL_law 786 = .ok (.iadd, 1)) ∧ (decode cL_law 787 = .ok (.iaload, 1)) ∧ (decode cL_law 788 = .ok (.aload_n 0, 1)) ∧ (decode cL_law 789 = .ok (.iload_n 3, 1)) ∧ (decode cL_law 790 = .ok (.iconst 4, 1)) ∧ (decode cL_law 791 = .ok (.iadd, 1)) ∧ (decode cL_law 792 = .ok (.iaload, 1)) := by decide +kernel
theorem dL_law_777 : decode cL_law 777 = .ok (.iaload, 1) := dg_L_law_777.1
theorem dL_law_778 : decode cL_law 778 = .ok (.aload_n 0, 1) := dg_L_law_777.2.1
theorem dL_law_779 : decode cL_law 779 = .ok (.iload_n 3, 1) := dg_L_law_777.2.2.1
theorem dL_law_780 : decode cL_law 780 = .ok (.iconst 2, 1) := dg_L_law_777.2.2.2.1
theorem dL_law_781 : decode cL_law 781 = .ok (.iadd, 1) := dg_L_law_777.2.2.2.2.1
theorem dL_law_782 : decode cL_law 782 = .ok (.iaload, 1) := dg_L_law_777.2.2.2.2.2.1
theorem dL_law_783 : decode cL_law 783 = .ok (.aload_n 0, 1) := dg_L_law_777.2.2.2.2.2.2.1
theorem dL_law_784 : decode cL_law 784 = .ok (.iload_n 3, 1) := dg_L_law_777.2.2.2.2.2.2.2.1
theorem dL_law_785 : decode cL_law 785 = .ok (.iconst 3, 1) := dg_L_law_777.2.2.2.2.2.2.2.2.1
theorem dL_law_786 : decode cL_law 786 = .ok (.iadd, 1) := dg_L_law_777.2.2.2.2.2.2.2.2.2.1
theorem dL_law_787 : decode cL_law 787 = .ok (.iaload, 1) := dg_L_law_777.2.2.2.2.2.2.2.2.2.2.1
theorem dL_law_788 : decode cL_law 788 = .ok (.aload_n 0, 1) := dg_L_law_777.2.2.2.2.2.2.2.2.2.2.2.1
theorem dL_law_789 : decode cL_law 789 = .ok (.iload_n 3, 1) := dg_L_law_777.2.2.2.2.2.2.2.2.2.2.2.2.1
theorem dL_law_790 : decode cL_law 790 = .ok (.iconst 4, 1) := dg_L_law_777.2.2.2.2.2.2.2.2.2.2.2.2.2.1
theorem dL_law_791 : decode cL_law 791 = .ok (.iadd, 1) := dg_L_law_777.2.2.2.2.2.2.2.2.2.2.2.2.2.2.1
theorem dL_law_792 : decode cL_law 792 = .ok (.iaload, 1) := dg_L_law_777.2.2.2.2.2.2.2.2.2.2.2.2.2.2.2
theorem dg_L_law_793 : (decode cL_law 793 = .ok (.aload_n 0, 1)) ∧ (decode cL_law 794 = .ok (.iload_n 3, 1)) ∧ (decode cL_law 795 = .ok (.iconst 5, 1)) ∧ (decode cL_law 796 = .ok (.iadd, 1)) ∧ (decode cL_law 797 = .ok (.iaload, 1)) ∧ (decode cL_law 798 = .ok (.aload_n 0, 1)) ∧ (decode cL_law 799 = .ok (.iload_n 3, 1)) ∧ (decode cL_law 800 = .ok (.bipush 6, 2)) ∧ (decode cL_law 802 = .ok (.iadd, 1)) ∧ (decode cL_law 803 = .ok (.iaload, 1)) ∧ (decode cL_law 804 = .ok (.ifCond .eq 7, 3)) ∧ (decode cL_law 807 = .ok (.iconst 1, 1)) ∧ (decode cL_law 808 = .ok (.goto 4, 3)) ∧ (decode cL_law 811 = .ok (.iconst 0, 1)) ∧ (decode cL_law 812 = .ok (.invokevirtual 65, 3)) ∧ (decode cL_law 815 = .ok (.pop, 1)) := by decide +kernel
theorem dL_law_793 : decode cL_law 793 = .ok (.aload_n 0, 1) := dg_L_law_793.1
theorem dL_law_794 : decode cL_law 794 = .ok (.iload_n 3, 1) := dg_L_law_793.2.1
theorem dL_law_795 : decode cL_law 795 = .ok (.iconst 5, 1) := dg_L_law_793.2.2.1
theorem dL_law_796 : decode cL_law 796 = .ok (.iadd, 1) := dg_L_law_793.2.2.2.1
theorem dL_law_797 : decode cL_law 797 = .ok (.iaload, 1) := dg_L_law_793.2.2.2.2.1
theorem dL_law_798 : decode cL_law 798 = .ok (.aload_n 0, 1) := dg_L_law_793.2.2.2.2.2.1
theorem dL_law_799 : decode cL_law 799 = .ok (.iload_n 3, 1) := dg_L_law_793.2.2.2.2.2.2.1
theorem dL_law_800 : decode cL_law 800 = .ok (.bipush 6, 2) := dg_L_law_793.2.2.2.2.2.2.2.1
theorem dL_law_802 : decode cL_law 802 = .ok (.iadd, 1) := dg_L_law_793.2.2.2.2.2.2.2.2.1
theorem dL_law_803 : decode cL_law 803 = .ok (.iaload, 1) := dg_L_law_793.2.2.2.2.2.2.2.2.2.1
theorem dL_law_804 : decode cL_law 804 = .ok (.ifCond .eq 7, 3) := dg_L_law_793.2.2.2.2.2.2.2.2.2.2.1
theorem dL_law_807 : decode cL_law 807 = .ok (.iconst 1, 1) := dg_L_law_793.2.2.2.2.2.2.2.2.2.2.2.1
theorem dL_law_808 : decode cL_law 808 = .ok (.goto 4, 3) := dg_L_law_793.2.2.2.2.2.2.2.2.2.2.2.2.1
theorem dL_law_811 : decode cL_law 811 = .ok (.iconst 0, 1) := dg_L_law_793.2.2.2.2.2.2.2.2.2.2.2.2.2.1
theorem dL_law_812 : decode cL_law 812 = .ok (.invokevirtual 65, 3) := dg_L_law_793.2.2.2.2.2.2.2.2.2.2.2.2.2.2.1
theorem dL_law_815 : decode cL_law 815 = .ok (.pop, 1) := dg_L_law_793.2.2.2.2.2.2.2.2.2.2.2.2.2.2.2
theorem dg_L_law_816 : (decode cL_law 816 = .ok (.goto 1055, 3)) ∧ (decode cL_law 819 = .ok (.aload_n 1, 1)) ∧ (decode cL_law 820 = .ok (.aload_n 0, 1)) ∧ (decode cL_law 821 = .ok (.iload_n 3, 1)) ∧ (decode cL_law 822 = .ok (.iconst 1, 1)) ∧ (decode cL_law 823 = .ok (.iadd, 1)) ∧ (decode cL_law 824 = .ok (.iaload, 1)) ∧ (decode cL_law 825 = .ok (.aload_n 0, 1)) ∧ (decode cL_law 826 = .ok (.iload_n 3, 1)) ∧ (decode cL_law 827 = .ok (.iconst 2, 1)) ∧ (decode cL_law 828 = .ok (.iadd, 1)) ∧ (decode cL_law 829 = .ok (.iaload, 1)) ∧ (decode cL_law 830 = .ok (.invokevirtual 66, 3)) ∧ (decode cL_law 833 = .ok (.pop, 1)) ∧ (decode cL_law 834 = .ok (.aload_n 2, 1)) ∧ (decode cL_law 835 = .ok (.aload_n 0, 1)) := by decide +kernel
theorem dL_law_816 : decode cL_law 816 = .ok (.goto 1055, 3) := dg_L_law_816.1
theorem dL_law_819 : decode cL_law 819 = .ok (.aload_n 1, 1) := dg_L_law_816.2.1
theorem dL_law_820 : decode cL_law 820 = .ok (.aload_n 0, 1) := dg_L_law_816.2.2.1
theorem dL_law_821 : decode cL_law 821 = .ok (.iload_n 3, 1) := dg_L_law_816.2.2.2.1
theorem dL_law_822 : decode cL_law 822 = .ok (.iconst 1, 1) := dg_L_law_816.2.2.2.2.1
theorem dL_law_823 : decode cL_law 823 = .ok (.iadd, 1) := dg_L_law_816.2.2.2.2.2.1
theorem dL_law_824 : decode cL_law 824 = .ok (.iaload, 1) := dg_L_law_816.2.2.2.2.2.2.1
theorem dL_law_825 : decode cL_law 825 = .ok (.aload_n 0, 1) := dg_L_law_816.2.2.2.2.2.2.2.1
theorem dL_law_826 : decode cL_law 826 = .ok (.iload_n 3, 1) := dg_L_law_816.2.2.2.2.2.2.2.2.1
theorem dL_law_827 : decode cL_law 827 = .ok (.iconst 2, 1) := dg_L_law_816.2.2.2.2.2.2.2.2.2.1
theorem dL_law_828 : decode cL_law 828 = .ok (.iadd, 1) := dg_L_law_816.2.2.2.2.2.2.2.2.2.2.1
theorem dL_law_829 : decode cL_law 829 = .ok (.iaload, 1) := dg_L_law_816.2.2.2.2.2.2.2.2.2.2.2.1
theorem dL_law_830 : decode cL_law 830 = .ok (.invokevirtual 66, 3) := dg_L_law_816.2.2.2.2.2.2.2.2.2.2.2.2.1
theorem dL_law_833 : decode cL_law 833 = .ok (.pop, 1) := dg_L_law_816.2.2.2.2.2.2.2.2.2.2.2.2.2.1
theorem dL_law_834 : decode cL_law 834 = .ok (.aload_n 2, 1) := dg_L_law_816.2.2.2.2.2.2.2.2.2.2.2.2.2.2.1
theorem dL_law_835 : decode cL_law 835 = .ok (.aload_n 0, 1) := dg_L_law_816.2.2.2.2.2.2.2.2.2.2.2.2.2.2.2
theorem dg_L_law_836 : (decode cL_law 836 = .ok (.iload_n 3, 1)) ∧ (decode cL_law 837 = .ok (.iconst 1, 1)) ∧ (decode cL_law 838 = .ok (.iadd, 1)) ∧ (decode cL_law 839 = .ok (.iaload, 1)) ∧ (decode cL_law 840 = .ok (.aload_n 0, 1)) ∧ (decode cL_law 841 = .ok (.iload_n 3, 1)) ∧ (decode cL_law 842 = .ok (.iconst 2, 1)) ∧ (decode cL_law 843 = .ok (.iadd, 1)) ∧ (decode cL_law 844 = .ok (.iaload, 1)) ∧ (decode cL_law 845 = .ok (.invokevirtual 69, 3)) ∧ (decode cL_law 848 = .ok (.pop, 1)) ∧ (decode cL_law 849 = .ok (.goto 1022, 3)) ∧ (decode cL_law 852 = .ok (.aload_n 1, 1)) ∧ (decode cL_law 853 = .ok (.invokevirtual 70, 3)) ∧ (decode cL_law 856 = .ok (.pop, 1)) ∧ (decode cL_law 857 = .ok (.aload_n 2, 1)) := by decide +kernel
theorem dL_law_836 : decode cL_law 836 = .ok (.iload_n 3, 1) := dg_L_law_836.1
theorem dL_law_837 : decode cL_law 837 = .ok (.iconst 1, 1) := dg_L_law_836.2.1
theorem dL_law_838 : decode cL_law 838 = .ok (.iadd, 1) := dg_L_law_836.2.2.1
theorem dL_law_839 : decode cL_law 839 = .ok (.iaload, 1) := dg_L_law_836.2.2.2.1
theorem dL_law_840 : decode cL_law 840 = .ok (.aload_n 0, 1) := dg_L_law_836.2.2.2.2.1
theorem dL_law_841 : decode cL_law 841 = .ok (.iload_n 3, 1) := dg_L_law_836.2.2.2.2.2.1
theorem dL_law_842 : decode cL_law 842 = .ok (.iconst 2, 1) := dg_L_law_836.2.2.2.2.2.2.1
theorem dL_law_843 : decode cL_law 843 = .ok (.iadd, 1) := dg_L_law_836.2.2.2.2.2.2.2.1
theorem dL_law_844 : decode cL_law 844 = .ok (.iaload, 1) := dg_L_law_836.2.2.2.2.2.2.2.2.1
theorem dL_law_845 : decode cL_law 845 = .ok (.invokevirtual 69, 3) := dg_L_law_836.2.2.2.2.2.2.2.2.2.1
theorem dL_law_848 : decode cL_law 848 = .ok (.pop, 1) := dg_L_law_836.2.2.2.2.2.2.2.2.2.2.1
theorem dL_law_849 : decode cL_law 849 = .ok (.goto 1022, 3) := dg_L_law_836.2.2.2.2.2.2.2.2.2.2.2.1
theorem dL_law_852 : decode cL_law 852 = .ok (.aload_n 1, 1) := dg_L_law_836.2.2.2.2.2.2.2.2.2.2.2.2.1
theorem dL_law_853 : decode cL_law 853 = .ok (.invokevirtual 70, 3) := dg_L_law_836.2.2.2.2.2.2.2.2.2.2.2.2.2.1
theorem dL_law_856 : decode cL_law 856 = .ok (.pop, 1) := dg_L_law_836.2.2.2.2.2.2.2.2.2.2.2.2.2.2.1
theorem dL_law_857 : decode cL_law 857 = .ok (.aload_n 2, 1) := dg_L_law_836.2.2.2.2.2.2.2.2.2.2.2.2.2.2.2
theorem dg_L_law_858 : (decode cL_law 858 = .ok (.invokevirtual 74, 3)) ∧ (decode cL_law 861 = .ok (.pop, 1)) ∧ (decode cL_law 862 = .ok (.goto 1009, 3)) ∧ (decode cL_law 865 = .ok (.aload_n 1, 1)) ∧ (decode cL_law 866 = .ok (.aload_n 0, 1)) ∧ (decode cL_law 867 = .ok (.iload_n 3, 1)) ∧ (decode cL_law 868 = .ok (.iconst 1, 1)) ∧ (decode cL_law 869 = .ok (.iadd, 1)) ∧ (decode cL_law 870 = .ok (.iaload, 1)) ∧ (decode cL_law 871 = .ok (.aload_n 0, 1)) ∧ (decode cL_law 872 = .ok (.iload_n 3, 1)) ∧ (decode cL_law 873 = .ok (.iconst 2, 1)) ∧ (decode cL_law 874 = .ok (.iadd, 1)) ∧ (decode cL_law 875 = .ok (.iaload, 1)) ∧ (decode cL_law 876 = .ok (.invokevirtual 75, 3)) ∧ (decode cL_law 879 = .ok (.pop, 1)) := by decide +kernel
theorem dL_law_858 : decode cL_law 858 = .ok (.invokevirtual 74, 3) := dg_L_law_858.1
theorem dL_law_861 : decode cL_law 861 = .ok (.pop, 1) := dg_L_law_858.2.1
theorem dL_law_862 : decode cL_law 862 = .ok (.goto 1009, 3) := dg_L_law_858.2.2.1
theorem dL_law_865 : decode cL_law 865 = .ok (.aload_n 1, 1) := dg_L_law_858.2.2.2.1
theorem dL_law_866 : decode cL_law 866 = .ok (.aload_n 0, 1) := dg_L_law_858.2.2.2.2.1
theorem dL_law_867 : decode cL_law 867 = .ok (.iload_n 3, 1) := dg_L_law_858.2.2.2.2.2.1
theorem dL_law_868 : decode cL_law 868 = .ok (.iconst 1, 1) := dg_L_law_858.2.2.2.2.2.2.1
theorem dL_law_869 : decode cL_law 869 = .ok (.iadd, 1) := dg_L_law_858.2.2.2.2.2.2.2.1
theorem dL_law_870 : decode cL_law 870 = .ok (.iaload, 1) := dg_L_law_858.2.2.2.2.2.2.2.2.1
theorem dL_law_871 : decode cL_law 871 = .ok (.aload_n 0, 1) := dg_L_law_858.2.2.2.2.2.2.2.2.2.1
theorem dL_law_872 : decode cL_law 872 = .ok (.iload_n 3, 1) := dg_L_law_858.2.2.2.2.2.2.2.2.2.2.1
theorem dL_law_873 : decode cL_law 873 = .ok (.iconst 2, 1) := dg_L_law_858.2.2.2.2.2.2.2.2.2.2.2.1
theorem dL_law_874 : decode cL_law 874 = .ok (.iadd, 1) := dg_L_law_858.2.2.2.2.2.2.2.2.2.2.2.2.1
theorem dL_law_875 : decode cL_law 875 = .ok (.iaload, 1) := dg_L_law_858.2.2.2.2.2.2.2.2.2.2.2.2.2.1
theorem dL_law_876 : decode cL_law 876 = .ok (.invokevirtual 75, 3) := dg_L_law_858.2.2.2.2.2.2.2.2.2.2.2.2.2.2.1
theorem dL_law_879 : decode cL_law 879 = .ok (.pop, 1) := dg_L_law_858.2.2.2.2.2.2.2.2.2.2.2.2.2.2.2
theorem dg_L_law_880 : (decode cL_law 880 = .ok (.aload_n 2, 1)) ∧ (decode cL_law 881 = .ok (.aload_n 0, 1)) ∧ (decode cL_law 882 = .ok (.iload_n 3, 1)) ∧ (decode cL_law 883 = .ok (.iconst 1, 1)) ∧ (decode cL_law 884 = .ok (.iadd, 1)) ∧ (decode cL_law 885 = .ok (.iaload, 1)) ∧ (decode cL_law 886 = .ok (.aload_n 0, 1)) ∧ (decode cL_law 887 = .ok (.iload_n 3, 1)) ∧ (decode cL_law 888 = .ok (.iconst 2, 1)) ∧ (decode cL_law 889 = .ok (.iadd, 1)) ∧ (decode cL_law 890 = .ok (.iaload, 1)) ∧ (decode cL_law 891 = .ok (.invokevirtual 78, 3)) ∧ (decode cL_law 894 = .ok (.pop, 1)) ∧ (decode cL_law 895 = .ok (.goto 976, 3)) ∧ (decode cL_law 898 = .ok (.aload_n 1, 1)) ∧ (decode cL_law 899 = .ok (.aload_n 0, 1)) := by decide +kernel
theorem dL_law_880 : decode cL_law 880 = .ok (.aload_n 2, 1) := dg_L_law_880.1
theorem dL_law_881 : decode cL_law 881 = .ok (.aload_n 0, 1) := dg_L_law_880.2.1
theorem dL_law_882 : decode cL_law 882 = .ok (.iload_n 3, 1) := dg_L_law_880.2.2.1
theorem dL_law_883 : decode cL_law 883 = .ok (.iconst 1, 1) := dg_L_law_880.2.2.2.1
theorem dL_law_884 : decode cL_law 884 = .ok (.iadd, 1) := dg_L_law_880.2.2.2.2.1
theorem dL_law_885 : decode cL_law 885 = .ok (.iaload, 1) := dg_L_law_880.2.2.2.2.2.1
theorem dL_law_886 : decode cL_law 886 = .ok (.aload_n 0, 1) := dg_L_law_880.2.2.2.2.2.2.1
theorem dL_law_887 : decode cL_law 887 = .ok (.iload_n 3, 1) := dg_L_law_880.2.2.2.2.2.2.2.1
theorem dL_law_888 : decode cL_law 888 = .ok (.iconst 2, 1) := dg_L_law_880.2.2.2.2.2.2.2.2.1
theorem dL_law_889 : decode cL_law 889 = .ok (.iadd, 1) := dg_L_law_880.2.2.2.2.2.2.2.2.2.1
theorem dL_law_890 : decode cL_law 890 = .ok (.iaload, 1) := dg_L_law_880.2.2.2.2.2.2.2.2.2.2.1
theorem dL_law_891 : decode cL_law 891 = .ok (.invokevirtual 78, 3) := dg_L_law_880.2.2.2.2.2.2.2.2.2.2.2.1
theorem dL_law_894 : decode cL_law 894 = .ok (.pop, 1) := dg_L_law_880.2.2.2.2.2.2.2.2.2.2.2.2.1
theorem dL_law_895 : decode cL_law 895 = .ok (.goto 976, 3) := dg_L_law_880.2.2.2.2.2.2.2.2.2.2.2.2.2.1
theorem dL_law_898 : decode cL_law 898 = .ok (.aload_n 1, 1) := dg_L_law_880.2.2.2.2.2.2.2.2.2.2.2.2.2.2.1
theorem dL_law_899 : decode cL_law 899 = .ok (.aload_n 0, 1) := dg_L_law_880.2.2.2.2.2.2.2.2.2.2.2.2.2.2.2
theorem dg_L_law_900 : (decode cL_law 900 = .ok (.iload_n 3, 1)) ∧ (decode cL_law 901 = .ok (.iconst 1, 1)) ∧ (decode cL_law 902 = .ok (.iadd, 1)) ∧ (decode cL_law 903 = .ok (.iaload, 1)) ∧ (decode cL_law 904 = .ok (.aload_n 0, 1)) ∧ (decode cL_law 905 = .ok (.iload_n 3, 1)) ∧ (decode cL_law 906 = .ok (.iconst 2, 1)) ∧ (decode cL_law 907 = .ok (.iadd, 1)) ∧ (decode cL_law 908 = .ok (.iaload, 1)) ∧ (decode cL_law 909 = .ok (.aload_n 0, 1)) ∧ (decode cL_law 910 = .ok (.iload_n 3, 1)) ∧ (decode cL_law 911 = .ok (.iconst 3, 1)) ∧ (decode cL_law 912 = .ok (.iadd, 1)) ∧ (decode cL_law 913 = .ok (.iaload, 1)) ∧ (decode cL_law 914 = .ok (.aload_n 0, 1)) ∧ (decode cL_law 915 = .ok (.iload_n 3, 1)) := by decide +kernel
theorem dL_law_900 : decode cL_law 900 = .ok (.iload_n 3, 1) := dg_L_law_900.1
theorem dL_law_901 : decode cL_law 901 = .ok (.iconst 1, 1) := dg_L_law_900.2.1
theorem dL_law_902 : decode cL_law 902 = .ok (.iadd, 1) := dg_L_law_900.2.2.1
theorem dL_law_903 : decode cL_law 903 = .ok (.iaload, 1) := dg_L_law_900.2.2.2.1
theorem dL_law_904 : decode cL_law 904 = .ok (.aload_n 0, 1) := dg_L_law_900.2.2.2.2.1
theorem dL_law_905 : decode cL_law 905 = .ok (.iload_n 3, 1) := dg_L_law_900.2.2.2.2.2.1
theorem dL_law_906 : decode cL_law 906 = .ok (.iconst 2, 1) := dg_L_law_900.2.2.2.2.2.2.1
theorem dL_law_907 : decode cL_law 907 = .ok (.iadd, 1) := dg_L_law_900.2.2.2.2.2.2.2.1
theorem dL_law_908 : decode cL_law 908 = .ok (.iaload, 1) := dg_L_law_900.2.2.2.2.2.2.2.2.1
theorem dL_law_909 : decode cL_law 909 = .ok (.aload_n 0, 1) := dg_L_law_900.2.2.2.2.2.2.2.2.2.1
theorem dL_law_910 : decode cL_law 910 = .ok (.iload_n 3, 1) := dg_L_law_900.2.2.2.2.2.2.2.2.2.2.1
theorem dL_law_911 : decode cL_law 911 = .ok (.iconst 3, 1) := dg_L_law_900.2.2.2.2.2.2.2.2.2.2.2.1
theorem dL_law_912 : decode cL_law 912 = .ok (.iadd, 1) := dg_L_law_900.2.2.2.2.2.2.2.2.2.2.2.2.1
theorem dL_law_913 : decode cL_law 913 = .ok (.iaload, 1) := dg_L_law_900.2.2.2.2.2.2.2.2.2.2.2.2.2.1
theorem dL_law_914 : decode cL_law 914 = .ok (.aload_n 0, 1) := dg_L_law_900.2.2.2.2.2.2.2.2.2.2.2.2.2.2.1
theorem dL_law_915 : decode cL_law 915 = .ok (.iload_n 3, 1) := dg_L_law_900.2.2.2.2.2.2.2.2.2.2.2.2.2.2.2
theorem dg_L_law_916 : (decode cL_law 916 = .ok (.iconst 4, 1)) ∧ (decode cL_law 917 = .ok (.iadd, 1)) ∧ (decode cL_law 918 = .ok (.iaload, 1)) ∧ (decode cL_law 919 = .ok (.aload_n 0, 1)) ∧ (decode cL_law 920 = .ok (.iload_n 3, 1)) ∧ (decode cL_law 921 = .ok (.iconst 5, 1)) ∧ (decode cL_law 922 = .ok (.iadd, 1)) ∧ (decode cL_law 923 = .ok (.iaload, 1)) ∧ (decode cL_law 924 = .ok (.i2l, 1)) ∧ (decode cL_law 925 = .ok (.bipush 32, 2)) ∧ (decode cL_law 927 = .ok (.lshl, 1)) ∧ (decode cL_law 928 = .ok (.aload_n 0, 1)) ∧ (decode cL_law 929 = .ok (.iload_n 3, 1)) ∧ (decode cL_law 930 = .ok (.bipush 6, 2)) ∧ (decode cL_law 932 = .ok (.iadd, 1)) ∧ (decode cL_law 933 = .ok (.iaload, 1)) := by decide +kernel
theorem dL_law_916 : decode cL_law 916 = .ok (.iconst 4, 1) := dg_L_law_916.1
theorem dL_law_917 : decode cL_law 917 = .ok (.iadd, 1) := dg_L_law_916.2.1
theorem dL_law_918 : decode cL_law 918 = .ok (.iaload, 1) := dg_L_law_916.2.2.1
theorem dL_law_919 : decode cL_law 919 = .ok (.aload_n 0, 1) := dg_L_law_916.2.2.2.1
theorem dL_law_920 : decode cL_law 920 = .ok (.iload_n 3, 1) := dg_L_law_916.2.2.2.2.1
theorem dL_law_921 : decode cL_law 921 = .ok (.iconst 5, 1) := dg_L_law_916.2.2.2.2.2.1
theorem dL_law_922 : decode cL_law 922 = .ok (.iadd, 1) := dg_L_law_916.2.2.2.2.2.2.1
theorem dL_law_923 : decode cL_law 923 = .ok (.iaload, 1) := dg_L_law_916.2.2.2.2.2.2.2.1
theorem dL_law_924 : decode cL_law 924 = .ok (.i2l, 1) := dg_L_law_916.2.2.2.2.2.2.2.2.1
theorem dL_law_925 : decode cL_law 925 = .ok (.bipush 32, 2) := dg_L_law_916.2.2.2.2.2.2.2.2.2.1
theorem dL_law_927 : decode cL_law 927 = .ok (.lshl, 1) := dg_L_law_916.2.2.2.2.2.2.2.2.2.2.1
theorem dL_law_928 : decode cL_law 928 = .ok (.aload_n 0, 1) := dg_L_law_916.2.2.2.2.2.2.2.2.2.2.2.1
theorem dL_law_929 : decode cL_law 929 = .ok (.iload_n 3, 1) := dg_L_law_916.2.2.2.2.2.2.2.2.2.2.2.2.1
theorem dL_law_930 : decode cL_law 930 = .ok (.bipush 6, 2) := dg_L_law_916.2.2.2.2.2.2.2.2.2.2.2.2.2.1
theorem dL_law_932 : decode cL_law 932 = .ok (.iadd, 1) := dg_L_law_916.2.2.2.2.2.2.2.2.2.2.2.2.2.2.1
theorem dL_law_933 : decode cL_law 933 = .ok (.iaload, 1) := dg_L_law_916.2.2.2.2.2.2.2.2.2.2.2.2.2.2.2
theorem dg_L_law_934 : (decode cL_law 934 = .ok (.i2l, 1)) ∧ (decode cL_law 935 = .ok (.ldc2_w 49, 3)) ∧ (decode cL_law 938 = .ok (.land, 1)) ∧ (decode cL_law 939 = .ok (.lor, 1)) ∧ (decode cL_law 940 = .ok (.invokevirtual 79, 3)) ∧ (decode cL_law 943 = .ok (.pop, 1)) ∧ (decode cL_law 944 = .ok (.aload_n 2, 1)) ∧ (decode cL_law 945 = .ok (.aload_n 0, 1)) ∧ (decode cL_law 946 = .ok (.iload_n 3, 1)) ∧ (decode cL_law 947 = .ok (.iconst 1, 1)) ∧ (decode cL_law 948 = .ok (.iadd, 1)) ∧ (decode cL_law 949 = .ok (.iaload, 1)) ∧ (decode cL_law 950 = .ok (.aload_n 0, 1)) ∧ (decode cL_law 951 = .ok (.iload_n 3, 1)) ∧ (decode cL_law 952 = .ok (.iconst 2, 1)) ∧ (decode cL_law 953 = .ok (.iadd, 1)) := by decide +kernel
theorem dL_law_934 : decode cL_law 934 = .ok (.i2l, 1) := dg_L_law_934.1
theorem dL_law_935 : decode cL_law 935 = .ok (.ldc2_w 49, 3) := dg_L_law_934.2.1
theorem dL_law_938 : decode cL_law 938 = .ok (.land, 1) := dg_L_law_934.2.2.1
theorem dL_law_939 : decode cL_law 939 = .ok (.lor, 1) := dg_L_law_934.2.2.2.1
theorem dL_law_940 : decode cL_law 940 = .ok (.invokevirtual 79, 3) := dg_L_law_934.2.2.2.2.1
theorem dL_law_943 : decode cL_law 943 = .ok (.pop, 1) := dg_L_law_934.2.2.2.2.2.1
theorem dL_law_944 : decode cL_law 944 = .ok (.aload_n 2, 1) := dg_L_law_934.2.2.2.2.2.2.1
theorem dL_law_945 : decode cL_law 945 = .ok (.aload_n 0, 1) := dg_L_law_934.2.2.2.2.2.2.2.1
theorem dL_law_946 : decode cL_law 946 = .ok (.iload_n 3, 1) := dg_L_law_934.2.2.2.2.2.2.2.2.1
theorem dL_law_947 : decode cL_law 947 = .ok (.iconst 1, 1) := dg_L_law_934.2.2.2.2.2.2.2.2.2.1
theorem dL_law_948 : decode cL_law 948 = .ok (.iadd, 1) := dg_L_law_934.2.2.2.2.2.2.2.2.2.2.1
theorem dL_law_949 : decode cL_law 949 = .ok (.iaload, 1) := dg_L_law_934.2.2.2.2.2.2.2.2.2.2.2.1
theorem dL_law_950 : decode cL_law 950 = .ok (.aload_n 0, 1) := dg_L_law_934.2.2.2.2.2.2.2.2.2.2.2.2.1
theorem dL_law_951 : decode cL_law 951 = .ok (.iload_n 3, 1) := dg_L_law_934.2.2.2.2.2.2.2.2.2.2.2.2.2.1
theorem dL_law_952 : decode cL_law 952 = .ok (.iconst 2, 1) := dg_L_law_934.2.2.2.2.2.2.2.2.2.2.2.2.2.2.1
theorem dL_law_953 : decode cL_law 953 = .ok (.iadd, 1) := dg_L_law_934.2.2.2.2.2.2.2.2.2.2.2.2.2.2.2
theorem dg_L_law_954 : (decode cL_law 954 = .ok (.iaload, 1)) ∧ (decode cL_law 955 = .ok (.aload_n 0, 1)) ∧ (decode cL_law 956 = .ok (.iload_n 3, 1)) ∧ (decode cL_law 957 = .ok (.iconst 3, 1)) ∧ (decode cL_law 958 = .ok (.iadd, 1)) ∧ (decode cL_law 959 = .ok (.iaload, 1)) ∧ (decode cL_law 960 = .ok (.aload_n 0, 1)) ∧ (decode cL_law 961 = .ok (.iload_n 3, 1)) ∧ (decode cL_law 962 = .ok (.iconst 4, 1)) ∧ (decode cL_law 963 = .ok (.iadd, 1)) ∧ (decode cL_law 964 = .ok (.iaload, 1)) ∧ (decode cL_law 965 = .ok (.aload_n 0, 1)) ∧ (decode cL_law 966 = .ok (.iload_n 3, 1)) ∧ (decode cL_law 967 = .ok (.iconst 5, 1)) ∧ (decode cL_law 968 = .ok (.iadd, 1)) ∧ (decode cL_law 969 = .ok (.iaload, 1)) := by decide +kernel
theorem dL_law_954 : decode cL_law 954 = .ok (.iaload, 1) := dg_L_law_954.1
theorem dL_law_955 : decode cL_law 955 = .ok (.aload_n 0, 1) := dg_L_law_954.2.1
theorem dL_law_956 : decode cL_law 956 = .ok (.iload_n 3, 1) := dg_L_law_954.2.2.1
theorem dL_law_957 : decode cL_law 957 = .ok (.iconst 3, 1) := dg_L_law_954.2.2.2.1
theorem dL_law_958 : decode cL_law 958 = .ok (.iadd, 1) := dg_L_law_954.2.2.2.2.1
theorem dL_law_959 : decode cL_law 959 = .ok (.iaload, 1) := dg_L_law_954.2.2.2.2.2.1
theorem dL_law_960 : decode cL_law 960 = .ok (.aload_n 0, 1) := dg_L_law_954.2.2.2.2.2.2.1
theorem dL_law_961 : decode cL_law 961 = .ok (.iload_n 3, 1) := dg_L_law_954.2.2.2.2.2.2.2.1
theorem dL_law_962 : decode cL_law 962 = .ok (.iconst 4, 1) := dg_L_law_954.2.2.2.2.2.2.2.2.1
theorem dL_law_963 : decode cL_law 963 = .ok (.iadd, 1) := dg_L_law_954.2.2.2.2.2.2.2.2.2.1
theorem dL_law_964 : decode cL_law 964 = .ok (.iaload, 1) := dg_L_law_954.2.2.2.2.2.2.2.2.2.2.1
theorem dL_law_965 : decode cL_law 965 = .ok (.aload_n 0, 1) := dg_L_law_954.2.2.2.2.2.2.2.2.2.2.2.1
theorem dL_law_966 : decode cL_law 966 = .ok (.iload_n 3, 1) := dg_L_law_954.2.2.2.2.2.2.2.2.2.2.2.2.1
theorem dL_law_967 : decode cL_law 967 = .ok (.iconst 5, 1) := dg_L_law_954.2.2.2.2.2.2.2.2.2.2.2.2.2.1
theorem dL_law_968 : decode cL_law 968 = .ok (.iadd, 1) := dg_L_law_954.2.2.2.2.2.2.2.2.2.2.2.2.2.2.1
theorem dL_law_969 : decode cL_law 969 = .ok (.iaload, 1) := dg_L_law_954.2.2.2.2.2.2.2.2.2.2.2.2.2.2.2
theorem dg_L_law_970 : (decode cL_law 970 = .ok (.i2l, 1)) ∧ (decode cL_law 971 = .ok (.bipush 32, 2)) ∧ (decode cL_law 973 = .ok (.lshl, 1)) ∧ (decode cL_law 974 = .ok (.aload_n 0, 1)) ∧ (decode cL_law 975 = .ok (.iload_n 3, 1)) ∧ (decode cL_law 976 = .ok (.bipush 6, 2)) ∧ (decode cL_law 978 = .ok (.iadd, 1)) ∧ (decode cL_law 979 = .ok (.iaload, 1)) ∧ (decode cL_law 980 = .ok (.i2l, 1)) ∧ (decode cL_law 981 = .ok (.ldc2_w 49, 3)) ∧ (decode cL_law 984 = .ok (.land, 1)) ∧ (decode cL_law 985 = .ok (.lor, 1)) ∧ (decode cL_law 986 = .ok (.invokevirtual 83, 3)) ∧ (decode cL_law 989 = .ok (.pop, 1)) ∧ (decode cL_law 990 = .ok (.goto 881, 3)) ∧ (decode cL_law 993 = .ok (.aload_n 1, 1)) := by decide +kernel
theorem dL_law_970 : decode cL_law 970 = .ok (.i2l, 1) := dg_L_law_970.1
theorem dL_law_971 : decode cL_law 971 = .ok (.bipush 32, 2) := dg_L_law_970.2.1
theorem dL_law_973 : decode cL_law 973 = .ok (.lshl, 1) := dg_L_law_970.2.2.1
theorem dL_law_974 : decode cL_law 974 = .ok (.aload_n 0, 1) := dg_L_law_970.2.2.2.1
theorem dL_law_975 : decode cL_law 975 = .ok (.iload_n 3, 1) := dg_L_law_970.2.2.2.2.1
theorem dL_law_976 : decode cL_law 976 = .ok (.bipush 6, 2) := dg_L_law_970.2.2.2.2.2.1
theorem dL_law_978 : decode cL_law 978 = .ok (.iadd, 1) := dg_L_law_970.2.2.2.2.2.2.1
theorem dL_law_979 : decode cL_law 979 = .ok (.iaload, 1) := dg_L_law_970.2.2.2.2.2.2.2.1
theorem dL_law_980 : decode cL_law 980 = .ok (.i2l, 1) := dg_L_law_970.2.2.2.2.2.2.2.2.1
theorem dL_law_981 : decode cL_law 981 = .ok (.ldc2_w 49, 3) := dg_L_law_970.2.2.2.2.2.2.2.2.2.1
theorem dL_law_984 : decode cL_law 984 = .ok (.land, 1) := dg_L_law_970.2.2.2.2.2.2.2.2.2.2.1
theorem dL_law_985 : decode cL_law 985 = .ok (.lor, 1) := dg_L_law_970.2.2.2.2.2.2.2.2.2.2.2.1
theorem dL_law_986 : decode cL_law 986 = .ok (.invokevirtual 83, 3) := dg_L_law_970.2.2.2.2.2.2.2.2.2.2.2.2.1
theorem dL_law_989 : decode cL_law 989 = .ok (.pop, 1) := dg_L_law_970.2.2.2.2.2.2.2.2.2.2.2.2.2.1
theorem dL_law_990 : decode cL_law 990 = .ok (.goto 881, 3) := dg_L_law_970.2.2.2.2.2.2.2.2.2.2.2.2.2.2.1
theorem dL_law_993 : decode cL_law 993 = .ok (.aload_n 1, 1) := dg_L_law_970.2.2.2.2.2.2.2.2.2.2.2.2.2.2.2
theorem dg_L_law_994 : (decode cL_law 994 = .ok (.aload_n 0, 1)) ∧ (decode cL_law 995 = .ok (.iload_n 3, 1)) ∧ (decode cL_law 996 = .ok (.iconst 1, 1)) ∧ (decode cL_law 997 = .ok (.iadd, 1)) ∧ (decode cL_law 998 = .ok (.iaload, 1)) ∧ (decode cL_law 999 = .ok (.aload_n 0, 1)) ∧ (decode cL_law 1000 = .ok (.iload_n 3, 1)) ∧ (decode cL_law 1001 = .ok (.iconst 2, 1)) ∧ (decode cL_law 1002 = .ok (.iadd, 1)) ∧ (decode cL_law 1003 = .ok (.iaload, 1)) ∧ (decode cL_law 1004 = .ok (.aload_n 0, 1)) ∧ (decode cL_law 1005 = .ok (.iload_n 3, 1)) ∧ (decode cL_law 1006 = .ok (.iconst 3, 1)) ∧ (decode cL_law 1007 = .ok (.iadd, 1)) ∧ (decode cL_law 1008 = .ok (.iaload, 1)) ∧ (decode cL_law 1009 = .ok (.aload_n 0, 1)) := by decide +kernel
theorem dL_law_994 : decode cL_law 994 = .ok (.aload_n 0, 1) := dg_L_law_994.1
theorem dL_law_995 : decode cL_law 995 = .ok (.iload_n 3, 1) := dg_L_law_994.2.1
theorem dL_law_996 : decode cL_law 996 = .ok (.iconst 1, 1) := dg_L_law_994.2.2.1
theorem dL_law_997 : decode cL_law 997 = .ok (.iadd, 1) := dg_L_law_994.2.2.2.1
theorem dL_law_998 : decode cL_law 998 = .ok (.iaload, 1) := dg_L_law_994.2.2.2.2.1
theorem dL_law_999 : decode cL_law 999 = .ok (.aload_n 0, 1) := dg_L_law_994.2.2.2.2.2.1
theorem dL_law_1000 : decode cL_law 1000 = .ok (.iload_n 3, 1) := dg_L_law_994.2.2.2.2.2.2.1
theorem dL_law_1001 : decode cL_law 1001 = .ok (.iconst 2, 1) := dg_L_law_994.2.2.2.2.2.2.2.1
theorem dL_law_1002 : decode cL_law 1002 = .ok (.iadd, 1) := dg_L_law_994.2.2.2.2.2.2.2.2.1
theorem dL_law_1003 : decode cL_law 1003 = .ok (.iaload, 1) := dg_L_law_994.2.2.2.2.2.2.2.2.2.1
theorem dL_law_1004 : decode cL_law 1004 = .ok (.aload_n 0, 1) := dg_L_law_994.2.2.2.2.2.2.2.2.2.2.1
theorem dL_law_1005 : decode cL_law 1005 = .ok (.iload_n 3, 1) := dg_L_law_994.2.2.2.2.2.2.2.2.2.2.2.1
theorem dL_law_1006 : decode cL_law 1006 = .ok (.iconst 3, 1) := dg_L_law_994.2.2.2.2.2.2.2.2.2.2.2.2.1
theorem dL_law_1007 : decode cL_law 1007 = .ok (.iadd, 1) := dg_L_law_994.2.2.2.2.2.2.2.2.2.2.2.2.2.1
theorem dL_law_1008 : decode cL_law 1008 = .ok (.iaload, 1) := dg_L_law_994.2.2.2.2.2.2.2.2.2.2.2.2.2.2.1
theorem dL_law_1009 : decode cL_law 1009 = .ok (.aload_n 0, 1) := dg_L_law_994.2.2.2.2.2.2.2.2.2.2.2.2.2.2.2
theorem dg_L_law_1010 : (decode cL_law 1010 = .ok (.iload_n 3, 1)) ∧ (decode cL_law 1011 = .ok (.iconst 4, 1)) ∧ (decode cL_law 1012 = .ok (.iadd, 1)) ∧ (decode cL_law 1013 = .ok (.iaload, 1)) ∧ (decode cL_law 1014 = .ok (.aload_n 0, 1)) ∧ (decode cL_law 1015 = .ok (.iload_n 3, 1)) ∧ (decode cL_law 1016 = .ok (.iconst 5, 1)) ∧ (decode cL_law 1017 = .ok (.iadd, 1)) ∧ (decode cL_law 1018 = .ok (.iaload, 1)) ∧ (decode cL_law 1019 = .ok (.invokevirtual 84, 3)) ∧ (decode cL_law 1022 = .ok (.pop, 1)) ∧ (decode cL_law 1023 = .ok (.aload_n 2, 1)) ∧ (decode cL_law 1024 = .ok (.aload_n 0, 1)) ∧ (decode cL_law 1025 = .ok (.iload_n 3, 1)) ∧ (decode cL_law 1026 = .ok (.iconst 1, 1)) ∧ (decode cL_law 1027 = .ok (.iadd, 1)) := by decide +kernel
theorem dL_law_1010 : decode cL_law 1010 = .ok (.iload_n 3, 1) := dg_L_law_1010.1
theorem dL_law_1011 : decode cL_law 1011 = .ok (.iconst 4, 1) := dg_L_law_1010.2.1
theorem dL_law_1012 : decode cL_law 1012 = .ok (.iadd, 1) := dg_L_law_1010.2.2.1
theorem dL_law_1013 : decode cL_law 1013 = .ok (.iaload, 1) := dg_L_law_1010.2.2.2.1
theorem dL_law_1014 : decode cL_law 1014 = .ok (.aload_n 0, 1) := dg_L_law_1010.2.2.2.2.1
theorem dL_law_1015 : decode cL_law 1015 = .ok (.iload_n 3, 1) := dg_L_law_1010.2.2.2.2.2.1
theorem dL_law_1016 : decode cL_law 1016 = .ok (.iconst 5, 1) := dg_L_law_1010.2.2.2.2.2.2.1
theorem dL_law_1017 : decode cL_law 1017 = .ok (.iadd, 1) := dg_L_law_1010.2.2.2.2.2.2.2.1
theorem dL_law_1018 : decode cL_law 1018 = .ok (.iaload, 1) := dg_L_law_1010.2.2.2.2.2.2.2.2.1
theorem dL_law_1019 : decode cL_law 1019 = .ok (.invokevirtual 84, 3) := dg_L_law_1010.2.2.2.2.2.2.2.2.2.1
theorem dL_law_1022 : decode cL_law 1022 = .ok (.pop, 1) := dg_L_law_1010.2.2.2.2.2.2.2.2.2.2.1
theorem dL_law_1023 : decode cL_law 1023 = .ok (.aload_n 2, 1) := dg_L_law_1010.2.2.2.2.2.2.2.2.2.2.2.1
theorem dL_law_1024 : decode cL_law 1024 = .ok (.aload_n 0, 1) := dg_L_law_1010.2.2.2.2.2.2.2.2.2.2.2.2.1
theorem dL_law_1025 : decode cL_law 1025 = .ok (.iload_n 3, 1) := dg_L_law_1010.2.2.2.2.2.2.2.2.2.2.2.2.2.1
theorem dL_law_1026 : decode cL_law 1026 = .ok (.iconst 1, 1) := dg_L_law_1010.2.2.2.2.2.2.2.2.2.2.2.2.2.2.1
theorem dL_law_1027 : decode cL_law 1027 = .ok (.iadd, 1) := dg_L_law_1010.2.2.2.2.2.2.2.2.2.2.2.2.2.2.2

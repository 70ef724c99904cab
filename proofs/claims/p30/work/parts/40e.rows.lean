theorem dL_begins_669 : decode cL_begins 669 = .ok (.iconst 3, 1) := by decide +kernel
theorem dL_begins_670 : decode cL_begins 670 = .ok (.iushr, 1) := by decide +kernel
theorem dL_begins_671 : decode cL_begins 671 = .ok (.sipush 255, 3) := by decide +kernel
theorem dL_begins_674 : decode cL_begins 674 = .ok (.iand, 1) := by decide +kernel
theorem dL_begins_675 : decode cL_begins 675 = .ok (.iload 4, 2) := by decide +kernel
theorem dL_begins_677 : decode cL_begins 677 = .ok (.irem, 1) := by decide +kernel
theorem dL_begins_678 : decode cL_begins 678 = .ok (.iload 8, 2) := by decide +kernel
theorem dL_begins_680 : decode cL_begins 680 = .ok (.bipush 11, 2) := by decide +kernel
theorem dL_begins_682 : decode cL_begins 682 = .ok (.iushr, 1) := by decide +kernel
theorem dL_begins_683 : decode cL_begins 683 = .ok (.sipush 8191, 3) := by decide +kernel
theorem dL_begins_686 : decode cL_begins 686 = .ok (.iand, 1) := by decide +kernel
theorem dL_begins_687 : decode cL_begins 687 = .ok (.invokevirtual 112, 3) := by decide +kernel
theorem dL_begins_690 : decode cL_begins 690 = .ok (.ifCond .ge 5, 3) := by decide +kernel
theorem dL_begins_693 : decode cL_begins 693 = .ok (.iconst 0, 1) := by decide +kernel
theorem dL_begins_694 : decode cL_begins 694 = .ok (.ireturn, 1) := by decide +kernel
theorem dL_begins_695 : decode cL_begins 695 = .ok (.iload 8, 2) := by decide +kernel
theorem dL_begins_697 : decode cL_begins 697 = .ok (.iconst 3, 1) := by decide +kernel
theorem dL_begins_698 : decode cL_begins 698 = .ok (.iand, 1) := by decide +kernel
theorem dL_begins_699 : decode cL_begins 699 = .ok (.iconst 2, 1) := by decide +kernel
theorem dL_begins_700 : decode cL_begins 700 = .ok (.if_icmp .ne 21, 3) := by decide +kernel
theorem dL_begins_703 : decode cL_begins 703 = .ok (.aload_n 0, 1) := by decide +kernel
theorem dL_begins_704 : decode cL_begins 704 = .ok (.iconst 0, 1) := by decide +kernel
theorem dL_begins_705 : decode cL_begins 705 = .ok (.iload 8, 2) := by decide +kernel
theorem dL_begins_707 : decode cL_begins 707 = .ok (.bipush 11, 2) := by decide +kernel
theorem dL_begins_709 : decode cL_begins 709 = .ok (.iushr, 1) := by decide +kernel
theorem dL_begins_710 : decode cL_begins 710 = .ok (.bipush 63, 2) := by decide +kernel
theorem dL_begins_712 : decode cL_begins 712 = .ok (.iand, 1) := by decide +kernel
theorem dL_begins_713 : decode cL_begins 713 = .ok (.invokevirtual 115, 3) := by decide +kernel
theorem dL_begins_716 : decode cL_begins 716 = .ok (.ifCond .ge 5, 3) := by decide +kernel
theorem dL_begins_719 : decode cL_begins 719 = .ok (.iconst 0, 1) := by decide +kernel
theorem dL_begins_720 : decode cL_begins 720 = .ok (.ireturn, 1) := by decide +kernel
theorem dL_begins_721 : decode cL_begins 721 = .ok (.iload 8, 2) := by decide +kernel
theorem dL_begins_723 : decode cL_begins 723 = .ok (.iconst 3, 1) := by decide +kernel
theorem dL_begins_724 : decode cL_begins 724 = .ok (.iand, 1) := by decide +kernel
theorem dL_begins_725 : decode cL_begins 725 = .ok (.iconst 3, 1) := by decide +kernel
theorem dL_begins_726 : decode cL_begins 726 = .ok (.if_icmp .ne 34, 3) := by decide +kernel
theorem dL_begins_729 : decode cL_begins 729 = .ok (.aload_n 0, 1) := by decide +kernel
theorem dL_begins_730 : decode cL_begins 730 = .ok (.aload_n 0, 1) := by decide +kernel
theorem dL_begins_731 : decode cL_begins 731 = .ok (.iload 9, 2) := by decide +kernel
theorem dL_begins_733 : decode cL_begins 733 = .ok (.iconst 1, 1) := by decide +kernel
theorem dL_begins_734 : decode cL_begins 734 = .ok (.invokevirtual 118, 3) := by decide +kernel
theorem dL_begins_737 : decode cL_begins 737 = .ok (.iload 8, 2) := by decide +kernel
theorem dL_begins_739 : decode cL_begins 739 = .ok (.bipush 11, 2) := by decide +kernel
theorem dL_begins_741 : decode cL_begins 741 = .ok (.iushr, 1) := by decide +kernel
theorem dL_begins_742 : decode cL_begins 742 = .ok (.iconst 1, 1) := by decide +kernel
theorem dL_begins_743 : decode cL_begins 743 = .ok (.iand, 1) := by decide +kernel
theorem dL_begins_744 : decode cL_begins 744 = .ok (.ifCond .ne 7, 3) := by decide +kernel
theorem dL_begins_747 : decode cL_begins 747 = .ok (.iconst 1, 1) := by decide +kernel
theorem dL_begins_748 : decode cL_begins 748 = .ok (.goto 4, 3) := by decide +kernel
theorem dL_begins_751 : decode cL_begins 751 = .ok (.iconst 0, 1) := by decide +kernel
theorem dL_begins_752 : decode cL_begins 752 = .ok (.invokevirtual 121, 3) := by decide +kernel
theorem dL_begins_755 : decode cL_begins 755 = .ok (.ifCond .ne 5, 3) := by decide +kernel
theorem dL_begins_758 : decode cL_begins 758 = .ok (.iconst 0, 1) := by decide +kernel
theorem dL_begins_759 : decode cL_begins 759 = .ok (.ireturn, 1) := by decide +kernel
theorem dL_begins_760 : decode cL_begins 760 = .ok (.iinc 7 1, 3) := by decide +kernel
theorem dL_begins_763 : decode cL_begins 763 = .ok (.goto (-167), 3) := by decide +kernel
theorem dL_begins_766 : decode cL_begins 766 = .ok (.iconst 1, 1) := by decide +kernel
theorem dL_begins_767 : decode cL_begins 767 = .ok (.ireturn, 1) := by decide +kernel

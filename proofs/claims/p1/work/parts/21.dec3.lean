/-! the law's instructions -/
theorem dl_638 : decode code 638 = .ok (.iconst 1, 1) := by decide +kernel
theorem dl_639 : decode code 639 = .ok (.iadd, 1) := by decide +kernel
theorem dl_640 : decode code 640 = .ok (.iaload, 1) := by decide +kernel
theorem dl_641 : decode code 641 = .ok (.invokevirtual 77, 3) := by decide +kernel
theorem dl_644 : decode code 644 = .ok (.if_icmp .eq 496, 3) := by decide +kernel
theorem dl_647 : decode code 647 = .ok (.iconst 0, 1) := by decide +kernel
theorem dl_648 : decode code 648 = .ok (.ireturn, 1) := by decide +kernel
theorem dl_649 : decode code 649 = .ok (.aload_n 1, 1) := by decide +kernel
theorem dl_650 : decode code 650 = .ok (.aload_n 0, 1) := by decide +kernel
theorem dl_651 : decode code 651 = .ok (.iload_n 3, 1) := by decide +kernel
theorem dl_652 : decode code 652 = .ok (.iconst 1, 1) := by decide +kernel
theorem dl_653 : decode code 653 = .ok (.iadd, 1) := by decide +kernel
theorem dl_654 : decode code 654 = .ok (.iaload, 1) := by decide +kernel
theorem dl_655 : decode code 655 = .ok (.invokevirtual 78, 3) := by decide +kernel
theorem dl_658 : decode code 658 = .ok (.aload_n 2, 1) := by decide +kernel
theorem dl_659 : decode code 659 = .ok (.aload_n 0, 1) := by decide +kernel
theorem dl_660 : decode code 660 = .ok (.iload_n 3, 1) := by decide +kernel
theorem dl_661 : decode code 661 = .ok (.iconst 1, 1) := by decide +kernel
theorem dl_662 : decode code 662 = .ok (.iadd, 1) := by decide +kernel
theorem dl_663 : decode code 663 = .ok (.iaload, 1) := by decide +kernel
theorem dl_664 : decode code 664 = .ok (.invokevirtual 82, 3) := by decide +kernel
theorem dl_667 : decode code 667 = .ok (.lcmp, 1) := by decide +kernel
theorem dl_668 : decode code 668 = .ok (.ifCond .eq 472, 3) := by decide +kernel
theorem dl_671 : decode code 671 = .ok (.iconst 0, 1) := by decide +kernel
theorem dl_672 : decode code 672 = .ok (.ireturn, 1) := by decide +kernel
theorem dl_673 : decode code 673 = .ok (.aload_n 1, 1) := by decide +kernel
theorem dl_674 : decode code 674 = .ok (.aload_n 0, 1) := by decide +kernel
theorem dl_675 : decode code 675 = .ok (.iload_n 3, 1) := by decide +kernel
theorem dl_676 : decode code 676 = .ok (.iconst 1, 1) := by decide +kernel
theorem dl_677 : decode code 677 = .ok (.iadd, 1) := by decide +kernel
theorem dl_678 : decode code 678 = .ok (.iaload, 1) := by decide +kernel
theorem dl_679 : decode code 679 = .ok (.aload_n 0, 1) := by decide +kernel
theorem dl_680 : decode code 680 = .ok (.iload_n 3, 1) := by decide +kernel
theorem dl_681 : decode code 681 = .ok (.iconst 2, 1) := by decide +kernel
theorem dl_682 : decode code 682 = .ok (.iadd, 1) := by decide +kernel
theorem dl_683 : decode code 683 = .ok (.iaload, 1) := by decide +kernel
theorem dl_684 : decode code 684 = .ok (.invokevirtual 83, 3) := by decide +kernel
theorem dl_687 : decode code 687 = .ok (.aload_n 2, 1) := by decide +kernel
theorem dl_688 : decode code 688 = .ok (.aload_n 0, 1) := by decide +kernel
theorem dl_689 : decode code 689 = .ok (.iload_n 3, 1) := by decide +kernel
theorem dl_690 : decode code 690 = .ok (.iconst 1, 1) := by decide +kernel
theorem dl_691 : decode code 691 = .ok (.iadd, 1) := by decide +kernel
theorem dl_692 : decode code 692 = .ok (.iaload, 1) := by decide +kernel
theorem dl_693 : decode code 693 = .ok (.aload_n 0, 1) := by decide +kernel
theorem dl_694 : decode code 694 = .ok (.iload_n 3, 1) := by decide +kernel
theorem dl_695 : decode code 695 = .ok (.iconst 2, 1) := by decide +kernel
theorem dl_696 : decode code 696 = .ok (.iadd, 1) := by decide +kernel
theorem dl_697 : decode code 697 = .ok (.iaload, 1) := by decide +kernel
theorem dl_698 : decode code 698 = .ok (.invokevirtual 87, 3) := by decide +kernel
theorem dl_701 : decode code 701 = .ok (.if_icmp .eq 439, 3) := by decide +kernel
theorem dl_704 : decode code 704 = .ok (.iconst 0, 1) := by decide +kernel
theorem dl_705 : decode code 705 = .ok (.ireturn, 1) := by decide +kernel
theorem dl_706 : decode code 706 = .ok (.aload_n 1, 1) := by decide +kernel
theorem dl_707 : decode code 707 = .ok (.aload_n 0, 1) := by decide +kernel
theorem dl_708 : decode code 708 = .ok (.iload_n 3, 1) := by decide +kernel
theorem dl_709 : decode code 709 = .ok (.iconst 1, 1) := by decide +kernel
theorem dl_710 : decode code 710 = .ok (.iadd, 1) := by decide +kernel
theorem dl_711 : decode code 711 = .ok (.iaload, 1) := by decide +kernel
theorem dl_712 : decode code 712 = .ok (.invokevirtual 88, 3) := by decide +kernel
theorem dl_715 : decode code 715 = .ok (.aload_n 2, 1) := by decide +kernel
theorem dl_716 : decode code 716 = .ok (.aload_n 0, 1) := by decide +kernel
theorem dl_717 : decode code 717 = .ok (.iload_n 3, 1) := by decide +kernel
theorem dl_718 : decode code 718 = .ok (.iconst 1, 1) := by decide +kernel
theorem dl_719 : decode code 719 = .ok (.iadd, 1) := by decide +kernel
theorem dl_720 : decode code 720 = .ok (.iaload, 1) := by decide +kernel
theorem dl_721 : decode code 721 = .ok (.invokevirtual 91, 3) := by decide +kernel
theorem dl_724 : decode code 724 = .ok (.if_icmp .eq 416, 3) := by decide +kernel
theorem dl_727 : decode code 727 = .ok (.iconst 0, 1) := by decide +kernel
theorem dl_728 : decode code 728 = .ok (.ireturn, 1) := by decide +kernel
theorem dl_729 : decode code 729 = .ok (.aload_n 1, 1) := by decide +kernel
theorem dl_730 : decode code 730 = .ok (.aload_n 0, 1) := by decide +kernel
theorem dl_731 : decode code 731 = .ok (.iload_n 3, 1) := by decide +kernel
theorem dl_732 : decode code 732 = .ok (.iconst 1, 1) := by decide +kernel
theorem dl_733 : decode code 733 = .ok (.iadd, 1) := by decide +kernel
theorem dl_734 : decode code 734 = .ok (.iaload, 1) := by decide +kernel
theorem dl_735 : decode code 735 = .ok (.invokevirtual 92, 3) := by decide +kernel
theorem dl_738 : decode code 738 = .ok (.aload_n 2, 1) := by decide +kernel
theorem dl_739 : decode code 739 = .ok (.aload_n 0, 1) := by decide +kernel
theorem dl_740 : decode code 740 = .ok (.iload_n 3, 1) := by decide +kernel
theorem dl_741 : decode code 741 = .ok (.iconst 1, 1) := by decide +kernel
theorem dl_742 : decode code 742 = .ok (.iadd, 1) := by decide +kernel
theorem dl_743 : decode code 743 = .ok (.iaload, 1) := by decide +kernel
theorem dl_744 : decode code 744 = .ok (.invokevirtual 95, 3) := by decide +kernel
theorem dl_747 : decode code 747 = .ok (.lcmp, 1) := by decide +kernel
theorem dl_748 : decode code 748 = .ok (.ifCond .eq 392, 3) := by decide +kernel
theorem dl_751 : decode code 751 = .ok (.iconst 0, 1) := by decide +kernel
theorem dl_752 : decode code 752 = .ok (.ireturn, 1) := by decide +kernel
theorem dl_753 : decode code 753 = .ok (.aload_n 1, 1) := by decide +kernel
theorem dl_754 : decode code 754 = .ok (.aload_n 0, 1) := by decide +kernel
theorem dl_755 : decode code 755 = .ok (.iload_n 3, 1) := by decide +kernel
theorem dl_756 : decode code 756 = .ok (.iconst 1, 1) := by decide +kernel
theorem dl_757 : decode code 757 = .ok (.iadd, 1) := by decide +kernel
theorem dl_758 : decode code 758 = .ok (.iaload, 1) := by decide +kernel
theorem dl_759 : decode code 759 = .ok (.aload_n 0, 1) := by decide +kernel
theorem dl_760 : decode code 760 = .ok (.iload_n 3, 1) := by decide +kernel
theorem dl_761 : decode code 761 = .ok (.iconst 2, 1) := by decide +kernel
theorem dl_762 : decode code 762 = .ok (.iadd, 1) := by decide +kernel
theorem dl_763 : decode code 763 = .ok (.iaload, 1) := by decide +kernel
theorem dl_764 : decode code 764 = .ok (.invokevirtual 96, 3) := by decide +kernel
theorem dl_767 : decode code 767 = .ok (.aload_n 2, 1) := by decide +kernel
theorem dl_768 : decode code 768 = .ok (.aload_n 0, 1) := by decide +kernel
theorem dl_769 : decode code 769 = .ok (.iload_n 3, 1) := by decide +kernel
theorem dl_770 : decode code 770 = .ok (.iconst 1, 1) := by decide +kernel
theorem dl_771 : decode code 771 = .ok (.iadd, 1) := by decide +kernel
theorem dl_772 : decode code 772 = .ok (.iaload, 1) := by decide +kernel
theorem dl_773 : decode code 773 = .ok (.aload_n 0, 1) := by decide +kernel
theorem dl_774 : decode code 774 = .ok (.iload_n 3, 1) := by decide +kernel
theorem dl_775 : decode code 775 = .ok (.iconst 2, 1) := by decide +kernel
theorem dl_776 : decode code 776 = .ok (.iadd, 1) := by decide +kernel
theorem dl_777 : decode code 777 = .ok (.iaload, 1) := by decide +kernel
theorem dl_778 : decode code 778 = .ok (.invokevirtual 100, 3) := by decide +kernel
theorem dl_781 : decode code 781 = .ok (.lcmp, 1) := by decide +kernel
theorem dl_782 : decode code 782 = .ok (.ifCond .eq 358, 3) := by decide +kernel
theorem dl_785 : decode code 785 = .ok (.iconst 0, 1) := by decide +kernel
theorem dl_786 : decode code 786 = .ok (.ireturn, 1) := by decide +kernel
theorem dl_787 : decode code 787 = .ok (.aload_n 1, 1) := by decide +kernel
theorem dl_788 : decode code 788 = .ok (.aload_n 0, 1) := by decide +kernel
theorem dl_789 : decode code 789 = .ok (.iload_n 3, 1) := by decide +kernel
theorem dl_790 : decode code 790 = .ok (.iconst 1, 1) := by decide +kernel
theorem dl_791 : decode code 791 = .ok (.iadd, 1) := by decide +kernel
theorem dl_792 : decode code 792 = .ok (.iaload, 1) := by decide +kernel
theorem dl_793 : decode code 793 = .ok (.invokevirtual 101, 3) := by decide +kernel
theorem dl_796 : decode code 796 = .ok (.aload_n 2, 1) := by decide +kernel
theorem dl_797 : decode code 797 = .ok (.aload_n 0, 1) := by decide +kernel
theorem dl_798 : decode code 798 = .ok (.iload_n 3, 1) := by decide +kernel
theorem dl_799 : decode code 799 = .ok (.iconst 1, 1) := by decide +kernel
theorem dl_800 : decode code 800 = .ok (.iadd, 1) := by decide +kernel
theorem dl_801 : decode code 801 = .ok (.iaload, 1) := by decide +kernel
theorem dl_802 : decode code 802 = .ok (.invokevirtual 104, 3) := by decide +kernel
theorem dl_805 : decode code 805 = .ok (.if_icmp .eq 335, 3) := by decide +kernel

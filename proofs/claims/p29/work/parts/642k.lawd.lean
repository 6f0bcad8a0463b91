theorem dL_act_729 : decode cL_act 729 = .ok (.iconst 1, 1) := by decide +kernel
theorem dL_act_730 : decode cL_act 730 = .ok (.goto 4, 3) := by decide +kernel
theorem dL_act_733 : decode cL_act 733 = .ok (.iconst 0, 1) := by decide +kernel
theorem dL_act_734 : decode cL_act 734 = .ok (.ireturn, 1) := by decide +kernel
theorem dL_act_735 : decode cL_act 735 = .ok (.iload_n 1, 1) := by decide +kernel
theorem dL_act_736 : decode cL_act 736 = .ok (.bipush 10, 2) := by decide +kernel
theorem dL_act_738 : decode cL_act 738 = .ok (.if_icmp .ne 171, 3) := by decide +kernel
theorem dL_act_741 : decode cL_act 741 = .ok (.aload 4, 2) := by decide +kernel
theorem dL_act_743 : decode cL_act 743 = .ok (.iconst 3, 1) := by decide +kernel
theorem dL_act_744 : decode cL_act 744 = .ok (.iaload, 1) := by decide +kernel
theorem dL_act_745 : decode cL_act 745 = .ok (.bipush 6, 2) := by decide +kernel
theorem dL_act_747 : decode cL_act 747 = .ok (.if_icmp .ne 5, 3) := by decide +kernel
theorem dL_act_750 : decode cL_act 750 = .ok (.iconst 1, 1) := by decide +kernel
theorem dL_act_751 : decode cL_act 751 = .ok (.ireturn, 1) := by decide +kernel
theorem dL_act_752 : decode cL_act 752 = .ok (.iconst 0, 1) := by decide +kernel
theorem dL_act_753 : decode cL_act 753 = .ok (.istore 8, 2) := by decide +kernel
theorem dL_act_755 : decode cL_act 755 = .ok (.iload 8, 2) := by decide +kernel
theorem dL_act_757 : decode cL_act 757 = .ok (.bipush 8, 2) := by decide +kernel
theorem dL_act_759 : decode cL_act 759 = .ok (.if_icmp .ge 32, 3) := by decide +kernel
theorem dL_act_762 : decode cL_act 762 = .ok (.aload 5, 2) := by decide +kernel
theorem dL_act_764 : decode cL_act 764 = .ok (.bipush 8, 2) := by decide +kernel
theorem dL_act_766 : decode cL_act 766 = .ok (.aload 4, 2) := by decide +kernel
theorem dL_act_768 : decode cL_act 768 = .ok (.iconst 3, 1) := by decide +kernel
theorem dL_act_769 : decode cL_act 769 = .ok (.iaload, 1) := by decide +kernel
theorem dL_act_770 : decode cL_act 770 = .ok (.imul, 1) := by decide +kernel
theorem dL_act_771 : decode cL_act 771 = .ok (.iload 8, 2) := by decide +kernel
theorem dL_act_773 : decode cL_act 773 = .ok (.iadd, 1) := by decide +kernel
theorem dL_act_774 : decode cL_act 774 = .ok (.iload_n 2, 1) := by decide +kernel
theorem dL_act_775 : decode cL_act 775 = .ok (.iload 8, 2) := by decide +kernel
theorem dL_act_777 : decode cL_act 777 = .ok (.ishr, 1) := by decide +kernel
theorem dL_act_778 : decode cL_act 778 = .ok (.iload_n 3, 1) := by decide +kernel
theorem dL_act_779 : decode cL_act 779 = .ok (.iadd, 1) := by decide +kernel
theorem dL_act_780 : decode cL_act 780 = .ok (.iconst 4, 1) := by decide +kernel
theorem dL_act_781 : decode cL_act 781 = .ok (.invokestatic 41, 3) := by decide +kernel
theorem dL_act_784 : decode cL_act 784 = .ok (.iastore, 1) := by decide +kernel
theorem dL_act_785 : decode cL_act 785 = .ok (.iinc 8 1, 3) := by decide +kernel
theorem dL_act_788 : decode cL_act 788 = .ok (.goto (-33), 3) := by decide +kernel
theorem dL_act_791 : decode cL_act 791 = .ok (.bipush 8, 2) := by decide +kernel
theorem dL_act_793 : decode cL_act 793 = .ok (.aload 4, 2) := by decide +kernel
theorem dL_act_795 : decode cL_act 795 = .ok (.iconst 3, 1) := by decide +kernel
theorem dL_act_796 : decode cL_act 796 = .ok (.iaload, 1) := by decide +kernel
theorem dL_act_797 : decode cL_act 797 = .ok (.imul, 1) := by decide +kernel
theorem dL_act_798 : decode cL_act 798 = .ok (.istore 8, 2) := by decide +kernel
theorem dL_act_800 : decode cL_act 800 = .ok (.aload 4, 2) := by decide +kernel
theorem dL_act_802 : decode cL_act 802 = .ok (.iconst 3, 1) := by decide +kernel
theorem dL_act_803 : decode cL_act 803 = .ok (.dup2, 1) := by decide +kernel
theorem dL_act_804 : decode cL_act 804 = .ok (.iaload, 1) := by decide +kernel
theorem dL_act_805 : decode cL_act 805 = .ok (.iconst 1, 1) := by decide +kernel
theorem dL_act_806 : decode cL_act 806 = .ok (.iadd, 1) := by decide +kernel
theorem dL_act_807 : decode cL_act 807 = .ok (.iastore, 1) := by decide +kernel
theorem dL_act_808 : decode cL_act 808 = .ok (.aload_n 0, 1) := by decide +kernel
theorem dL_act_809 : decode cL_act 809 = .ok (.sipush 1000, 3) := by decide +kernel
theorem dL_act_812 : decode cL_act 812 = .ok (.aload 5, 2) := by decide +kernel
theorem dL_act_814 : decode cL_act 814 = .ok (.iload 8, 2) := by decide +kernel
theorem dL_act_816 : decode cL_act 816 = .ok (.iaload, 1) := by decide +kernel
theorem dL_act_817 : decode cL_act 817 = .ok (.imul, 1) := by decide +kernel
theorem dL_act_818 : decode cL_act 818 = .ok (.bipush 100, 2) := by decide +kernel
theorem dL_act_820 : decode cL_act 820 = .ok (.aload 5, 2) := by decide +kernel
theorem dL_act_822 : decode cL_act 822 = .ok (.iload 8, 2) := by decide +kernel
theorem dL_act_824 : decode cL_act 824 = .ok (.iconst 1, 1) := by decide +kernel
theorem dL_act_825 : decode cL_act 825 = .ok (.iadd, 1) := by decide +kernel
theorem dL_act_826 : decode cL_act 826 = .ok (.iaload, 1) := by decide +kernel
theorem dL_act_827 : decode cL_act 827 = .ok (.imul, 1) := by decide +kernel
theorem dL_act_828 : decode cL_act 828 = .ok (.iadd, 1) := by decide +kernel
theorem dL_act_829 : decode cL_act 829 = .ok (.bipush 10, 2) := by decide +kernel
theorem dL_act_831 : decode cL_act 831 = .ok (.aload 5, 2) := by decide +kernel
theorem dL_act_833 : decode cL_act 833 = .ok (.iload 8, 2) := by decide +kernel
theorem dL_act_835 : decode cL_act 835 = .ok (.iconst 2, 1) := by decide +kernel
theorem dL_act_836 : decode cL_act 836 = .ok (.iadd, 1) := by decide +kernel
theorem dL_act_837 : decode cL_act 837 = .ok (.iaload, 1) := by decide +kernel
theorem dL_act_838 : decode cL_act 838 = .ok (.imul, 1) := by decide +kernel
theorem dL_act_839 : decode cL_act 839 = .ok (.iadd, 1) := by decide +kernel
theorem dL_act_840 : decode cL_act 840 = .ok (.aload 5, 2) := by decide +kernel
theorem dL_act_842 : decode cL_act 842 = .ok (.iload 8, 2) := by decide +kernel
theorem dL_act_844 : decode cL_act 844 = .ok (.iconst 3, 1) := by decide +kernel
theorem dL_act_845 : decode cL_act 845 = .ok (.iadd, 1) := by decide +kernel
theorem dL_act_846 : decode cL_act 846 = .ok (.iaload, 1) := by decide +kernel
theorem dL_act_847 : decode cL_act 847 = .ok (.iadd, 1) := by decide +kernel
theorem dL_act_848 : decode cL_act 848 = .ok (.sipush 1000, 3) := by decide +kernel
theorem dL_act_851 : decode cL_act 851 = .ok (.aload 5, 2) := by decide +kernel
theorem dL_act_853 : decode cL_act 853 = .ok (.iload 8, 2) := by decide +kernel
theorem dL_act_855 : decode cL_act 855 = .ok (.iconst 4, 1) := by decide +kernel
theorem dL_act_856 : decode cL_act 856 = .ok (.iadd, 1) := by decide +kernel
theorem dL_act_857 : decode cL_act 857 = .ok (.iaload, 1) := by decide +kernel
theorem dL_act_858 : decode cL_act 858 = .ok (.imul, 1) := by decide +kernel
theorem dL_act_859 : decode cL_act 859 = .ok (.bipush 100, 2) := by decide +kernel
theorem dL_act_861 : decode cL_act 861 = .ok (.aload 5, 2) := by decide +kernel
theorem dL_act_863 : decode cL_act 863 = .ok (.iload 8, 2) := by decide +kernel
theorem dL_act_865 : decode cL_act 865 = .ok (.iconst 5, 1) := by decide +kernel
theorem dL_act_866 : decode cL_act 866 = .ok (.iadd, 1) := by decide +kernel

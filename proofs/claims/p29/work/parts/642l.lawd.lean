theorem dL_act_867 : decode cL_act 867 = .ok (.iaload, 1) := by decide +kernel
theorem dL_act_868 : decode cL_act 868 = .ok (.imul, 1) := by decide +kernel
theorem dL_act_869 : decode cL_act 869 = .ok (.iadd, 1) := by decide +kernel
theorem dL_act_870 : decode cL_act 870 = .ok (.bipush 10, 2) := by decide +kernel
theorem dL_act_872 : decode cL_act 872 = .ok (.aload 5, 2) := by decide +kernel
theorem dL_act_874 : decode cL_act 874 = .ok (.iload 8, 2) := by decide +kernel
theorem dL_act_876 : decode cL_act 876 = .ok (.bipush 6, 2) := by decide +kernel
theorem dL_act_878 : decode cL_act 878 = .ok (.iadd, 1) := by decide +kernel
theorem dL_act_879 : decode cL_act 879 = .ok (.iaload, 1) := by decide +kernel
theorem dL_act_880 : decode cL_act 880 = .ok (.imul, 1) := by decide +kernel
theorem dL_act_881 : decode cL_act 881 = .ok (.iadd, 1) := by decide +kernel
theorem dL_act_882 : decode cL_act 882 = .ok (.aload 5, 2) := by decide +kernel
theorem dL_act_884 : decode cL_act 884 = .ok (.iload 8, 2) := by decide +kernel
theorem dL_act_886 : decode cL_act 886 = .ok (.bipush 7, 2) := by decide +kernel
theorem dL_act_888 : decode cL_act 888 = .ok (.iadd, 1) := by decide +kernel
theorem dL_act_889 : decode cL_act 889 = .ok (.iaload, 1) := by decide +kernel
theorem dL_act_890 : decode cL_act 890 = .ok (.iadd, 1) := by decide +kernel
theorem dL_act_891 : decode cL_act 891 = .ok (.invokevirtual 93, 3) := by decide +kernel
theorem dL_act_894 : decode cL_act 894 = .ok (.aload 4, 2) := by decide +kernel
theorem dL_act_896 : decode cL_act 896 = .ok (.iconst 3, 1) := by decide +kernel
theorem dL_act_897 : decode cL_act 897 = .ok (.iaload, 1) := by decide +kernel
theorem dL_act_898 : decode cL_act 898 = .ok (.iconst 1, 1) := by decide +kernel
theorem dL_act_899 : decode cL_act 899 = .ok (.isub, 1) := by decide +kernel
theorem dL_act_900 : decode cL_act 900 = .ok (.if_icmp .ne 7, 3) := by decide +kernel
theorem dL_act_903 : decode cL_act 903 = .ok (.iconst 1, 1) := by decide +kernel
theorem dL_act_904 : decode cL_act 904 = .ok (.goto 4, 3) := by decide +kernel
theorem dL_act_907 : decode cL_act 907 = .ok (.iconst 0, 1) := by decide +kernel
theorem dL_act_908 : decode cL_act 908 = .ok (.ireturn, 1) := by decide +kernel
theorem dL_act_909 : decode cL_act 909 = .ok (.iload_n 1, 1) := by decide +kernel
theorem dL_act_910 : decode cL_act 910 = .ok (.bipush 11, 2) := by decide +kernel
theorem dL_act_912 : decode cL_act 912 = .ok (.if_icmp .ne 51, 3) := by decide +kernel
theorem dL_act_915 : decode cL_act 915 = .ok (.aload 4, 2) := by decide +kernel
theorem dL_act_917 : decode cL_act 917 = .ok (.iconst 3, 1) := by decide +kernel
theorem dL_act_918 : decode cL_act 918 = .ok (.iaload, 1) := by decide +kernel
theorem dL_act_919 : decode cL_act 919 = .ok (.ifCond .eq 17, 3) := by decide +kernel
theorem dL_act_922 : decode cL_act 922 = .ok (.aload 4, 2) := by decide +kernel
theorem dL_act_924 : decode cL_act 924 = .ok (.iconst 3, 1) := by decide +kernel
theorem dL_act_925 : decode cL_act 925 = .ok (.iaload, 1) := by decide +kernel
theorem dL_act_926 : decode cL_act 926 = .ok (.iconst 1, 1) := by decide +kernel
theorem dL_act_927 : decode cL_act 927 = .ok (.isub, 1) := by decide +kernel
theorem dL_act_928 : decode cL_act 928 = .ok (.aload 4, 2) := by decide +kernel
theorem dL_act_930 : decode cL_act 930 = .ok (.invokestatic 18, 3) := by decide +kernel
theorem dL_act_933 : decode cL_act 933 = .ok (.ifCond .lt 5, 3) := by decide +kernel
theorem dL_act_936 : decode cL_act 936 = .ok (.iconst 1, 1) := by decide +kernel
theorem dL_act_937 : decode cL_act 937 = .ok (.ireturn, 1) := by decide +kernel
theorem dL_act_938 : decode cL_act 938 = .ok (.aload 4, 2) := by decide +kernel
theorem dL_act_940 : decode cL_act 940 = .ok (.iconst 3, 1) := by decide +kernel
theorem dL_act_941 : decode cL_act 941 = .ok (.dup2, 1) := by decide +kernel
theorem dL_act_942 : decode cL_act 942 = .ok (.iaload, 1) := by decide +kernel
theorem dL_act_943 : decode cL_act 943 = .ok (.iconst 1, 1) := by decide +kernel
theorem dL_act_944 : decode cL_act 944 = .ok (.isub, 1) := by decide +kernel
theorem dL_act_945 : decode cL_act 945 = .ok (.iastore, 1) := by decide +kernel
theorem dL_act_946 : decode cL_act 946 = .ok (.aload_n 0, 1) := by decide +kernel
theorem dL_act_947 : decode cL_act 947 = .ok (.invokevirtual 96, 3) := by decide +kernel
theorem dL_act_950 : decode cL_act 950 = .ok (.aload 4, 2) := by decide +kernel
theorem dL_act_952 : decode cL_act 952 = .ok (.iconst 3, 1) := by decide +kernel
theorem dL_act_953 : decode cL_act 953 = .ok (.iaload, 1) := by decide +kernel
theorem dL_act_954 : decode cL_act 954 = .ok (.if_icmp .ne 7, 3) := by decide +kernel
theorem dL_act_957 : decode cL_act 957 = .ok (.iconst 1, 1) := by decide +kernel
theorem dL_act_958 : decode cL_act 958 = .ok (.goto 4, 3) := by decide +kernel
theorem dL_act_961 : decode cL_act 961 = .ok (.iconst 0, 1) := by decide +kernel
theorem dL_act_962 : decode cL_act 962 = .ok (.ireturn, 1) := by decide +kernel
theorem dL_act_963 : decode cL_act 963 = .ok (.bipush 15, 2) := by decide +kernel
theorem dL_act_965 : decode cL_act 965 = .ok (.newarray .int, 2) := by decide +kernel
theorem dL_act_967 : decode cL_act 967 = .ok (.astore 8, 2) := by decide +kernel
theorem dL_act_969 : decode cL_act 969 = .ok (.iconst 1, 1) := by decide +kernel
theorem dL_act_970 : decode cL_act 970 = .ok (.aload 4, 2) := by decide +kernel
theorem dL_act_972 : decode cL_act 972 = .ok (.aload 5, 2) := by decide +kernel
theorem dL_act_974 : decode cL_act 974 = .ok (.aload 8, 2) := by decide +kernel
theorem dL_act_976 : decode cL_act 976 = .ok (.invokestatic 46, 3) := by decide +kernel
theorem dL_act_979 : decode cL_act 979 = .ok (.aload 8, 2) := by decide +kernel
theorem dL_act_981 : decode cL_act 981 = .ok (.iconst 0, 1) := by decide +kernel
theorem dL_act_982 : decode cL_act 982 = .ok (.iaload, 1) := by decide +kernel
theorem dL_act_983 : decode cL_act 983 = .ok (.ifCond .ne 5, 3) := by decide +kernel
theorem dL_act_986 : decode cL_act 986 = .ok (.iconst 1, 1) := by decide +kernel
theorem dL_act_987 : decode cL_act 987 = .ok (.ireturn, 1) := by decide +kernel
theorem dL_act_988 : decode cL_act 988 = .ok (.iconst 0, 1) := by decide +kernel
theorem dL_act_989 : decode cL_act 989 = .ok (.istore 9, 2) := by decide +kernel
theorem dL_act_991 : decode cL_act 991 = .ok (.iconst 0, 1) := by decide +kernel
theorem dL_act_992 : decode cL_act 992 = .ok (.istore 10, 2) := by decide +kernel
theorem dL_act_994 : decode cL_act 994 = .ok (.iload 10, 2) := by decide +kernel
theorem dL_act_996 : decode cL_act 996 = .ok (.iload 6, 2) := by decide +kernel
theorem dL_act_998 : decode cL_act 998 = .ok (.if_icmp .ge 39, 3) := by decide +kernel
theorem dL_act_1001 : decode cL_act 1001 = .ok (.aload 4, 2) := by decide +kernel
theorem dL_act_1003 : decode cL_act 1003 = .ok (.iconst 4, 1) := by decide +kernel
theorem dL_act_1004 : decode cL_act 1004 = .ok (.iload 10, 2) := by decide +kernel
theorem dL_act_1006 : decode cL_act 1006 = .ok (.iadd, 1) := by decide +kernel
theorem dL_act_1007 : decode cL_act 1007 = .ok (.iaload, 1) := by decide +kernel
theorem dL_act_1008 : decode cL_act 1008 = .ok (.ifCond .lt 6, 3) := by decide +kernel
theorem dL_act_1011 : decode cL_act 1011 = .ok (.goto 20, 3) := by decide +kernel

/-! what the bytes of the law say -/
theorem dL_law_828 : decode cL_law 828 = .ok (.invokevirtual 253, 3) := by decide +kernel
theorem dL_law_831 : decode cL_law 831 = .ok (.ldc_w 296, 3) := by decide +kernel
theorem dL_law_834 : decode cL_law 834 = .ok (.fcmp .l, 1) := by decide +kernel
theorem dL_law_835 : decode cL_law 835 = .ok (.ifCond .ne 18, 3) := by decide +kernel
theorem dL_law_838 : decode cL_law 838 = .ok (.aload 6, 2) := by decide +kernel
theorem dL_law_840 : decode cL_law 840 = .ok (.bipush 10, 2) := by decide +kernel
theorem dL_law_842 : decode cL_law 842 = .ok (.bipush 11, 2) := by decide +kernel
theorem dL_law_844 : decode cL_law 844 = .ok (.iconst 0, 1) := by decide +kernel
theorem dL_law_845 : decode cL_law 845 = .ok (.invokestatic 33, 3) := by decide +kernel
theorem dL_law_848 : decode cL_law 848 = .ok (.ldc 68, 2) := by decide +kernel
theorem dL_law_850 : decode cL_law 850 = .ok (.if_icmp .eq 5, 3) := by decide +kernel
theorem dL_law_853 : decode cL_law 853 = .ok (.iconst 0, 1) := by decide +kernel
theorem dL_law_854 : decode cL_law 854 = .ok (.ireturn, 1) := by decide +kernel
theorem dL_law_855 : decode cL_law 855 = .ok (.aload 6, 2) := by decide +kernel
theorem dL_law_857 : decode cL_law 857 = .ok (.bipush 7, 2) := by decide +kernel
theorem dL_law_859 : decode cL_law 859 = .ok (.invokevirtual 75, 3) := by decide +kernel
theorem dL_law_862 : decode cL_law 862 = .ok (.bipush 9, 2) := by decide +kernel
theorem dL_law_864 : decode cL_law 864 = .ok (.if_icmp .ne 113, 3) := by decide +kernel
theorem dL_law_867 : decode cL_law 867 = .ok (.aload 6, 2) := by decide +kernel
theorem dL_law_869 : decode cL_law 869 = .ok (.bipush 7, 2) := by decide +kernel
theorem dL_law_871 : decode cL_law 871 = .ok (.invokevirtual 122, 3) := by decide +kernel
theorem dL_law_874 : decode cL_law 874 = .ok (.ifCond .eq 103, 3) := by decide +kernel
theorem dL_law_877 : decode cL_law 877 = .ok (.aload 6, 2) := by decide +kernel
theorem dL_law_879 : decode cL_law 879 = .ok (.iconst 3, 1) := by decide +kernel
theorem dL_law_880 : decode cL_law 880 = .ok (.bipush 7, 2) := by decide +kernel
theorem dL_law_882 : decode cL_law 882 = .ok (.iconst 0, 1) := by decide +kernel
theorem dL_law_883 : decode cL_law 883 = .ok (.invokestatic 33, 3) := by decide +kernel
theorem dL_law_886 : decode cL_law 886 = .ok (.ldc 68, 2) := by decide +kernel
theorem dL_law_888 : decode cL_law 888 = .ok (.if_icmp .ne 89, 3) := by decide +kernel
theorem dL_law_891 : decode cL_law 891 = .ok (.aload 6, 2) := by decide +kernel
theorem dL_law_893 : decode cL_law 893 = .ok (.iconst 3, 1) := by decide +kernel
theorem dL_law_894 : decode cL_law 894 = .ok (.bipush 9, 2) := by decide +kernel
theorem dL_law_896 : decode cL_law 896 = .ok (.iconst 0, 1) := by decide +kernel
theorem dL_law_897 : decode cL_law 897 = .ok (.invokestatic 33, 3) := by decide +kernel
theorem dL_law_900 : decode cL_law 900 = .ok (.ldc 68, 2) := by decide +kernel
theorem dL_law_902 : decode cL_law 902 = .ok (.if_icmp .ne 75, 3) := by decide +kernel
theorem dL_law_905 : decode cL_law 905 = .ok (.aload 6, 2) := by decide +kernel
theorem dL_law_907 : decode cL_law 907 = .ok (.iconst 0, 1) := by decide +kernel
theorem dL_law_908 : decode cL_law 908 = .ok (.invokevirtual 241, 3) := by decide +kernel
theorem dL_law_911 : decode cL_law 911 = .ok (.ldc2_w 297, 3) := by decide +kernel
theorem dL_law_914 : decode cL_law 914 = .ok (.lcmp, 1) := by decide +kernel
theorem dL_law_915 : decode cL_law 915 = .ok (.ifCond .ne 62, 3) := by decide +kernel
theorem dL_law_918 : decode cL_law 918 = .ok (.aload 6, 2) := by decide +kernel
theorem dL_law_920 : decode cL_law 920 = .ok (.iconst 2, 1) := by decide +kernel
theorem dL_law_921 : decode cL_law 921 = .ok (.invokevirtual 241, 3) := by decide +kernel
theorem dL_law_924 : decode cL_law 924 = .ok (.ldc2_w 264, 3) := by decide +kernel
theorem dL_law_927 : decode cL_law 927 = .ok (.lcmp, 1) := by decide +kernel
theorem dL_law_928 : decode cL_law 928 = .ok (.ifCond .ne 49, 3) := by decide +kernel
theorem dL_law_931 : decode cL_law 931 = .ok (.aload 6, 2) := by decide +kernel
theorem dL_law_933 : decode cL_law 933 = .ok (.invokevirtual 287, 3) := by decide +kernel
theorem dL_law_936 : decode cL_law 936 = .ok (.bipush 10, 2) := by decide +kernel
theorem dL_law_938 : decode cL_law 938 = .ok (.if_icmp .ne 39, 3) := by decide +kernel
theorem dL_law_941 : decode cL_law 941 = .ok (.aload 6, 2) := by decide +kernel
theorem dL_law_943 : decode cL_law 943 = .ok (.aload 6, 2) := by decide +kernel
theorem dL_law_945 : decode cL_law 945 = .ok (.bipush 7, 2) := by decide +kernel
theorem dL_law_947 : decode cL_law 947 = .ok (.invokevirtual 299, 3) := by decide +kernel
theorem dL_law_950 : decode cL_law 950 = .ok (.ldc_w 302, 3) := by decide +kernel
theorem dL_law_953 : decode cL_law 953 = .ok (.invokestatic 304, 3) := by decide +kernel
theorem dL_law_956 : decode cL_law 956 = .ok (.ifCond .eq 21, 3) := by decide +kernel
theorem dL_law_959 : decode cL_law 959 = .ok (.aload 6, 2) := by decide +kernel
theorem dL_law_961 : decode cL_law 961 = .ok (.aload 6, 2) := by decide +kernel
theorem dL_law_963 : decode cL_law 963 = .ok (.bipush 9, 2) := by decide +kernel
theorem dL_law_965 : decode cL_law 965 = .ok (.invokevirtual 299, 3) := by decide +kernel
theorem dL_law_968 : decode cL_law 968 = .ok (.ldc_w 308, 3) := by decide +kernel
theorem dL_law_971 : decode cL_law 971 = .ok (.invokestatic 304, 3) := by decide +kernel
theorem dL_law_974 : decode cL_law 974 = .ok (.ifCond .ne 5, 3) := by decide +kernel
theorem dL_law_977 : decode cL_law 977 = .ok (.iconst 0, 1) := by decide +kernel
theorem dL_law_978 : decode cL_law 978 = .ok (.ireturn, 1) := by decide +kernel
theorem dL_law_979 : decode cL_law 979 = .ok (.aload 6, 2) := by decide +kernel
theorem dL_law_981 : decode cL_law 981 = .ok (.iconst 5, 1) := by decide +kernel
theorem dL_law_982 : decode cL_law 982 = .ok (.iconst 0, 1) := by decide +kernel
theorem dL_law_983 : decode cL_law 983 = .ok (.iload 5, 2) := by decide +kernel
theorem dL_law_985 : decode cL_law 985 = .ok (.iconst 2, 1) := by decide +kernel
theorem dL_law_986 : decode cL_law 986 = .ok (.iconst 2, 1) := by decide +kernel
theorem dL_law_987 : decode cL_law 987 = .ok (.invokevirtual 63, 3) := by decide +kernel
theorem dL_law_990 : decode cL_law 990 = .ok (.ifCond .ne 161, 3) := by decide +kernel
theorem dL_law_993 : decode cL_law 993 = .ok (.aload 6, 2) := by decide +kernel
theorem dL_law_995 : decode cL_law 995 = .ok (.iconst 0, 1) := by decide +kernel
theorem dL_law_996 : decode cL_law 996 = .ok (.invokevirtual 166, 3) := by decide +kernel
theorem dL_law_999 : decode cL_law 999 = .ok (.iconst 2, 1) := by decide +kernel
theorem dL_law_1000 : decode cL_law 1000 = .ok (.if_icmp .ne 151, 3) := by decide +kernel
theorem dL_law_1003 : decode cL_law 1003 = .ok (.aload 6, 2) := by decide +kernel
theorem dL_law_1005 : decode cL_law 1005 = .ok (.iconst 1, 1) := by decide +kernel
theorem dL_law_1006 : decode cL_law 1006 = .ok (.invokevirtual 310, 3) := by decide +kernel
theorem dL_law_1009 : decode cL_law 1009 = .ok (.ldc2_w 297, 3) := by decide +kernel
theorem dL_law_1012 : decode cL_law 1012 = .ok (.lcmp, 1) := by decide +kernel
theorem dL_law_1013 : decode cL_law 1013 = .ok (.ifCond .ne 138, 3) := by decide +kernel
theorem dL_law_1016 : decode cL_law 1016 = .ok (.aload 6, 2) := by decide +kernel
theorem dL_law_1018 : decode cL_law 1018 = .ok (.iconst 2, 1) := by decide +kernel
theorem dL_law_1019 : decode cL_law 1019 = .ok (.invokevirtual 310, 3) := by decide +kernel
theorem dL_law_1022 : decode cL_law 1022 = .ok (.ldc2_w 297, 3) := by decide +kernel
theorem dL_law_1025 : decode cL_law 1025 = .ok (.iload 5, 2) := by decide +kernel
theorem dL_law_1027 : decode cL_law 1027 = .ok (.i2l, 1) := by decide +kernel
theorem dL_law_1028 : decode cL_law 1028 = .ok (.lsub, 1) := by decide +kernel
theorem dL_law_1029 : decode cL_law 1029 = .ok (.lcmp, 1) := by decide +kernel
theorem dL_law_1030 : decode cL_law 1030 = .ok (.ifCond .ne 121, 3) := by decide +kernel
theorem dL_law_1033 : decode cL_law 1033 = .ok (.aload 6, 2) := by decide +kernel
theorem dL_law_1035 : decode cL_law 1035 = .ok (.bipush 24, 2) := by decide +kernel
theorem dL_law_1037 : decode cL_law 1037 = .ok (.invokevirtual 310, 3) := by decide +kernel
theorem dL_law_1040 : decode cL_law 1040 = .ok (.ldc2_w 297, 3) := by decide +kernel
theorem dL_law_1043 : decode cL_law 1043 = .ok (.iconst 2, 1) := by decide +kernel
theorem dL_law_1044 : decode cL_law 1044 = .ok (.iload 5, 2) := by decide +kernel
theorem dL_law_1046 : decode cL_law 1046 = .ok (.imul, 1) := by decide +kernel
theorem dL_law_1047 : decode cL_law 1047 = .ok (.i2l, 1) := by decide +kernel
theorem dL_law_1048 : decode cL_law 1048 = .ok (.lsub, 1) := by decide +kernel
theorem dL_law_1049 : decode cL_law 1049 = .ok (.lcmp, 1) := by decide +kernel
theorem dL_law_1050 : decode cL_law 1050 = .ok (.ifCond .ne 101, 3) := by decide +kernel
theorem dL_law_1053 : decode cL_law 1053 = .ok (.aload 6, 2) := by decide +kernel
theorem dL_law_1055 : decode cL_law 1055 = .ok (.iconst 3, 1) := by decide +kernel
theorem dL_law_1056 : decode cL_law 1056 = .ok (.invokevirtual 81, 3) := by decide +kernel
theorem dL_law_1059 : decode cL_law 1059 = .ok (.iconst 1, 1) := by decide +kernel
theorem dL_law_1060 : decode cL_law 1060 = .ok (.if_icmp .ne 91, 3) := by decide +kernel
theorem dL_law_1063 : decode cL_law 1063 = .ok (.aload 6, 2) := by decide +kernel
theorem dL_law_1065 : decode cL_law 1065 = .ok (.iconst 0, 1) := by decide +kernel
theorem dL_law_1066 : decode cL_law 1066 = .ok (.invokevirtual 241, 3) := by decide +kernel
theorem dL_law_1069 : decode cL_law 1069 = .ok (.ldc2_w 297, 3) := by decide +kernel
theorem dL_law_1072 : decode cL_law 1072 = .ok (.iload 5, 2) := by decide +kernel
theorem dL_law_1074 : decode cL_law 1074 = .ok (.i2l, 1) := by decide +kernel
theorem dL_law_1075 : decode cL_law 1075 = .ok (.lsub, 1) := by decide +kernel
theorem dL_law_1076 : decode cL_law 1076 = .ok (.lcmp, 1) := by decide +kernel
theorem dL_law_1077 : decode cL_law 1077 = .ok (.ifCond .ne 74, 3) := by decide +kernel
theorem dL_law_1080 : decode cL_law 1080 = .ok (.aload 6, 2) := by decide +kernel
theorem dL_law_1082 : decode cL_law 1082 = .ok (.iconst 0, 1) := by decide +kernel
theorem dL_law_1083 : decode cL_law 1083 = .ok (.invokevirtual 166, 3) := by decide +kernel
theorem dL_law_1086 : decode cL_law 1086 = .ok (.iconst 1, 1) := by decide +kernel
theorem dL_law_1087 : decode cL_law 1087 = .ok (.if_icmp .ne 64, 3) := by decide +kernel
theorem dL_law_1090 : decode cL_law 1090 = .ok (.aload 6, 2) := by decide +kernel
theorem dL_law_1092 : decode cL_law 1092 = .ok (.iconst 0, 1) := by decide +kernel
theorem dL_law_1093 : decode cL_law 1093 = .ok (.invokevirtual 169, 3) := by decide +kernel
theorem dL_law_1096 : decode cL_law 1096 = .ok (.iconst 1, 1) := by decide +kernel

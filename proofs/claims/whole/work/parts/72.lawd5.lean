/-! The law's own instructions, 550 on -/
theorem d_W_892 : decode code 892 = .ok (.iconst 1, 1) := by decide +kernel
theorem d_W_893 : decode code 893 = .ok (.iadd, 1) := by decide +kernel
theorem d_W_894 : decode code 894 = .ok (.iaload, 1) := by decide +kernel
theorem d_W_895 : decode code 895 = .ok (.aload_n 0, 1) := by decide +kernel
theorem d_W_896 : decode code 896 = .ok (.iload 4, 2) := by decide +kernel
theorem d_W_898 : decode code 898 = .ok (.iconst 2, 1) := by decide +kernel
theorem d_W_899 : decode code 899 = .ok (.iadd, 1) := by decide +kernel
theorem d_W_900 : decode code 900 = .ok (.iaload, 1) := by decide +kernel
theorem d_W_901 : decode code 901 = .ok (.aload_n 0, 1) := by decide +kernel
theorem d_W_902 : decode code 902 = .ok (.iload 4, 2) := by decide +kernel
theorem d_W_904 : decode code 904 = .ok (.iconst 3, 1) := by decide +kernel
theorem d_W_905 : decode code 905 = .ok (.iadd, 1) := by decide +kernel
theorem d_W_906 : decode code 906 = .ok (.iaload, 1) := by decide +kernel
theorem d_W_907 : decode code 907 = .ok (.aload_n 3, 1) := by decide +kernel
theorem d_W_908 : decode code 908 = .ok (.invokestatic 109, 3) := by decide +kernel
theorem d_W_911 : decode code 911 = .ok (.istore 5, 2) := by decide +kernel
theorem d_W_913 : decode code 913 = .ok (.aload_n 2, 1) := by decide +kernel
theorem d_W_914 : decode code 914 = .ok (.aload_n 0, 1) := by decide +kernel
theorem d_W_915 : decode code 915 = .ok (.iload 4, 2) := by decide +kernel
theorem d_W_917 : decode code 917 = .ok (.iconst 1, 1) := by decide +kernel
theorem d_W_918 : decode code 918 = .ok (.iadd, 1) := by decide +kernel
theorem d_W_919 : decode code 919 = .ok (.iaload, 1) := by decide +kernel
theorem d_W_920 : decode code 920 = .ok (.aload_n 0, 1) := by decide +kernel
theorem d_W_921 : decode code 921 = .ok (.iload 4, 2) := by decide +kernel
theorem d_W_923 : decode code 923 = .ok (.iconst 2, 1) := by decide +kernel
theorem d_W_924 : decode code 924 = .ok (.iadd, 1) := by decide +kernel
theorem d_W_925 : decode code 925 = .ok (.iaload, 1) := by decide +kernel
theorem d_W_926 : decode code 926 = .ok (.aload_n 0, 1) := by decide +kernel
theorem d_W_927 : decode code 927 = .ok (.iload 4, 2) := by decide +kernel
theorem d_W_929 : decode code 929 = .ok (.iconst 3, 1) := by decide +kernel
theorem d_W_930 : decode code 930 = .ok (.iadd, 1) := by decide +kernel
theorem d_W_931 : decode code 931 = .ok (.iaload, 1) := by decide +kernel
theorem d_W_932 : decode code 932 = .ok (.invokevirtual 111, 3) := by decide +kernel
theorem d_W_935 : decode code 935 = .ok (.istore 6, 2) := by decide +kernel
theorem d_W_937 : decode code 937 = .ok (.aload_n 2, 1) := by decide +kernel
theorem d_W_938 : decode code 938 = .ok (.invokevirtual 72, 3) := by decide +kernel
theorem d_W_941 : decode code 941 = .ok (.iload 5, 2) := by decide +kernel
theorem d_W_943 : decode code 943 = .ok (.if_icmp .eq 5, 3) := by decide +kernel
theorem d_W_946 : decode code 946 = .ok (.iconst 0, 1) := by decide +kernel
theorem d_W_947 : decode code 947 = .ok (.ireturn, 1) := by decide +kernel
theorem d_W_948 : decode code 948 = .ok (.iload 5, 2) := by decide +kernel
theorem d_W_950 : decode code 950 = .ok (.ifCond .ne 15, 3) := by decide +kernel
theorem d_W_953 : decode code 953 = .ok (.aload_n 3, 1) := by decide +kernel
theorem d_W_954 : decode code 954 = .ok (.iconst 0, 1) := by decide +kernel
theorem d_W_955 : decode code 955 = .ok (.laload, 1) := by decide +kernel
theorem d_W_956 : decode code 956 = .ok (.iload 6, 2) := by decide +kernel
theorem d_W_958 : decode code 958 = .ok (.i2l, 1) := by decide +kernel
theorem d_W_959 : decode code 959 = .ok (.lcmp, 1) := by decide +kernel
theorem d_W_960 : decode code 960 = .ok (.ifCond .eq 5, 3) := by decide +kernel
theorem d_W_963 : decode code 963 = .ok (.iconst 0, 1) := by decide +kernel
theorem d_W_964 : decode code 964 = .ok (.ireturn, 1) := by decide +kernel
theorem d_W_965 : decode code 965 = .ok (.goto 140, 3) := by decide +kernel
theorem d_W_968 : decode code 968 = .ok (.aload_n 1, 1) := by decide +kernel
theorem d_W_969 : decode code 969 = .ok (.aload_n 0, 1) := by decide +kernel
theorem d_W_970 : decode code 970 = .ok (.iload 4, 2) := by decide +kernel
theorem d_W_972 : decode code 972 = .ok (.iconst 1, 1) := by decide +kernel
theorem d_W_973 : decode code 973 = .ok (.iadd, 1) := by decide +kernel
theorem d_W_974 : decode code 974 = .ok (.iaload, 1) := by decide +kernel
theorem d_W_975 : decode code 975 = .ok (.aload_n 0, 1) := by decide +kernel
theorem d_W_976 : decode code 976 = .ok (.iload 4, 2) := by decide +kernel
theorem d_W_978 : decode code 978 = .ok (.iconst 2, 1) := by decide +kernel
theorem d_W_979 : decode code 979 = .ok (.iadd, 1) := by decide +kernel
theorem d_W_980 : decode code 980 = .ok (.iaload, 1) := by decide +kernel
theorem d_W_981 : decode code 981 = .ok (.aload_n 3, 1) := by decide +kernel
theorem d_W_982 : decode code 982 = .ok (.invokestatic 112, 3) := by decide +kernel
theorem d_W_985 : decode code 985 = .ok (.istore 5, 2) := by decide +kernel
theorem d_W_987 : decode code 987 = .ok (.aload_n 2, 1) := by decide +kernel
theorem d_W_988 : decode code 988 = .ok (.aload_n 0, 1) := by decide +kernel
theorem d_W_989 : decode code 989 = .ok (.iload 4, 2) := by decide +kernel
theorem d_W_991 : decode code 991 = .ok (.iconst 1, 1) := by decide +kernel
theorem d_W_992 : decode code 992 = .ok (.iadd, 1) := by decide +kernel
theorem d_W_993 : decode code 993 = .ok (.iaload, 1) := by decide +kernel
theorem d_W_994 : decode code 994 = .ok (.aload_n 0, 1) := by decide +kernel
theorem d_W_995 : decode code 995 = .ok (.iload 4, 2) := by decide +kernel
theorem d_W_997 : decode code 997 = .ok (.iconst 2, 1) := by decide +kernel
theorem d_W_998 : decode code 998 = .ok (.iadd, 1) := by decide +kernel
theorem d_W_999 : decode code 999 = .ok (.iaload, 1) := by decide +kernel
theorem d_W_1000 : decode code 1000 = .ok (.invokevirtual 114, 3) := by decide +kernel
theorem d_W_1003 : decode code 1003 = .ok (.istore 6, 2) := by decide +kernel
theorem d_W_1005 : decode code 1005 = .ok (.aload_n 2, 1) := by decide +kernel
theorem d_W_1006 : decode code 1006 = .ok (.invokevirtual 72, 3) := by decide +kernel
theorem d_W_1009 : decode code 1009 = .ok (.iload 5, 2) := by decide +kernel
theorem d_W_1011 : decode code 1011 = .ok (.if_icmp .eq 5, 3) := by decide +kernel
theorem d_W_1014 : decode code 1014 = .ok (.iconst 0, 1) := by decide +kernel
theorem d_W_1015 : decode code 1015 = .ok (.ireturn, 1) := by decide +kernel
theorem d_W_1016 : decode code 1016 = .ok (.iload 5, 2) := by decide +kernel
theorem d_W_1018 : decode code 1018 = .ok (.ifCond .ne 15, 3) := by decide +kernel
theorem d_W_1021 : decode code 1021 = .ok (.aload_n 3, 1) := by decide +kernel
theorem d_W_1022 : decode code 1022 = .ok (.iconst 0, 1) := by decide +kernel
theorem d_W_1023 : decode code 1023 = .ok (.laload, 1) := by decide +kernel
theorem d_W_1024 : decode code 1024 = .ok (.iload 6, 2) := by decide +kernel
theorem d_W_1026 : decode code 1026 = .ok (.i2l, 1) := by decide +kernel
theorem d_W_1027 : decode code 1027 = .ok (.lcmp, 1) := by decide +kernel
theorem d_W_1028 : decode code 1028 = .ok (.ifCond .eq 5, 3) := by decide +kernel
theorem d_W_1031 : decode code 1031 = .ok (.iconst 0, 1) := by decide +kernel
theorem d_W_1032 : decode code 1032 = .ok (.ireturn, 1) := by decide +kernel
theorem d_W_1033 : decode code 1033 = .ok (.goto 72, 3) := by decide +kernel
theorem d_W_1036 : decode code 1036 = .ok (.aload_n 1, 1) := by decide +kernel
theorem d_W_1037 : decode code 1037 = .ok (.invokevirtual 115, 3) := by decide +kernel
theorem d_W_1040 : decode code 1040 = .ok (.aload_n 2, 1) := by decide +kernel
theorem d_W_1041 : decode code 1041 = .ok (.invokevirtual 118, 3) := by decide +kernel
theorem d_W_1044 : decode code 1044 = .ok (.if_icmp .eq 61, 3) := by decide +kernel
theorem d_W_1047 : decode code 1047 = .ok (.iconst 0, 1) := by decide +kernel
theorem d_W_1048 : decode code 1048 = .ok (.ireturn, 1) := by decide +kernel
theorem d_W_1049 : decode code 1049 = .ok (.aload_n 1, 1) := by decide +kernel
theorem d_W_1050 : decode code 1050 = .ok (.aload_n 0, 1) := by decide +kernel
theorem d_W_1051 : decode code 1051 = .ok (.iload 4, 2) := by decide +kernel
theorem d_W_1053 : decode code 1053 = .ok (.iconst 1, 1) := by decide +kernel
theorem d_W_1054 : decode code 1054 = .ok (.iadd, 1) := by decide +kernel
theorem d_W_1055 : decode code 1055 = .ok (.iaload, 1) := by decide +kernel

theorem dL_law_896 : decode cL_law 896 = .ok (.dcmp .l, 1) := by decide +kernel
theorem dL_law_897 : decode cL_law 897 = .ok (.ifCond .eq 21, 3) := by decide +kernel
theorem dL_law_900 : decode cL_law 900 = .ok (.dload 4, 2) := by decide +kernel
theorem dL_law_902 : decode cL_law 902 = .ok (.dload 4, 2) := by decide +kernel
theorem dL_law_904 : decode cL_law 904 = .ok (.dcmp .l, 1) := by decide +kernel
theorem dL_law_905 : decode cL_law 905 = .ok (.ifCond .eq 11, 3) := by decide +kernel
theorem dL_law_908 : decode cL_law 908 = .ok (.dload 6, 2) := by decide +kernel
theorem dL_law_910 : decode cL_law 910 = .ok (.dload 6, 2) := by decide +kernel
theorem dL_law_912 : decode cL_law 912 = .ok (.dcmp .l, 1) := by decide +kernel
theorem dL_law_913 : decode cL_law 913 = .ok (.ifCond .ne 5, 3) := by decide +kernel
theorem dL_law_916 : decode cL_law 916 = .ok (.iconst 0, 1) := by decide +kernel
theorem dL_law_917 : decode cL_law 917 = .ok (.ireturn, 1) := by decide +kernel
theorem dL_law_918 : decode cL_law 918 = .ok (.goto 85, 3) := by decide +kernel
theorem dL_law_921 : decode cL_law 921 = .ok (.aload_n 1, 1) := by decide +kernel
theorem dL_law_922 : decode cL_law 922 = .ok (.invokevirtual 135, 3) := by decide +kernel
theorem dL_law_925 : decode cL_law 925 = .ok (.f2d, 1) := by decide +kernel
theorem dL_law_926 : decode cL_law 926 = .ok (.dstore 4, 2) := by decide +kernel
theorem dL_law_928 : decode cL_law 928 = .ok (.aload_n 2, 1) := by decide +kernel
theorem dL_law_929 : decode cL_law 929 = .ok (.invokevirtual 139, 3) := by decide +kernel
theorem dL_law_932 : decode cL_law 932 = .ok (.f2d, 1) := by decide +kernel
theorem dL_law_933 : decode cL_law 933 = .ok (.dstore 6, 2) := by decide +kernel
theorem dL_law_935 : decode cL_law 935 = .ok (.dload 4, 2) := by decide +kernel
theorem dL_law_937 : decode cL_law 937 = .ok (.dload 6, 2) := by decide +kernel
theorem dL_law_939 : decode cL_law 939 = .ok (.dcmp .l, 1) := by decide +kernel
theorem dL_law_940 : decode cL_law 940 = .ok (.ifCond .eq 21, 3) := by decide +kernel
theorem dL_law_943 : decode cL_law 943 = .ok (.dload 4, 2) := by decide +kernel
theorem dL_law_945 : decode cL_law 945 = .ok (.dload 4, 2) := by decide +kernel
theorem dL_law_947 : decode cL_law 947 = .ok (.dcmp .l, 1) := by decide +kernel
theorem dL_law_948 : decode cL_law 948 = .ok (.ifCond .eq 11, 3) := by decide +kernel
theorem dL_law_951 : decode cL_law 951 = .ok (.dload 6, 2) := by decide +kernel
theorem dL_law_953 : decode cL_law 953 = .ok (.dload 6, 2) := by decide +kernel
theorem dL_law_955 : decode cL_law 955 = .ok (.dcmp .l, 1) := by decide +kernel
theorem dL_law_956 : decode cL_law 956 = .ok (.ifCond .ne 5, 3) := by decide +kernel
theorem dL_law_959 : decode cL_law 959 = .ok (.iconst 0, 1) := by decide +kernel
theorem dL_law_960 : decode cL_law 960 = .ok (.ireturn, 1) := by decide +kernel
theorem dL_law_961 : decode cL_law 961 = .ok (.goto 42, 3) := by decide +kernel
theorem dL_law_964 : decode cL_law 964 = .ok (.aload_n 1, 1) := by decide +kernel
theorem dL_law_965 : decode cL_law 965 = .ok (.invokevirtual 140, 3) := by decide +kernel
theorem dL_law_968 : decode cL_law 968 = .ok (.aload_n 2, 1) := by decide +kernel
theorem dL_law_969 : decode cL_law 969 = .ok (.invokevirtual 143, 3) := by decide +kernel
theorem dL_law_972 : decode cL_law 972 = .ok (.if_icmp .eq 31, 3) := by decide +kernel
theorem dL_law_975 : decode cL_law 975 = .ok (.iconst 0, 1) := by decide +kernel
theorem dL_law_976 : decode cL_law 976 = .ok (.ireturn, 1) := by decide +kernel
theorem dL_law_977 : decode cL_law 977 = .ok (.aload_n 1, 1) := by decide +kernel
theorem dL_law_978 : decode cL_law 978 = .ok (.invokevirtual 144, 3) := by decide +kernel
theorem dL_law_981 : decode cL_law 981 = .ok (.aload_n 2, 1) := by decide +kernel
theorem dL_law_982 : decode cL_law 982 = .ok (.invokevirtual 147, 3) := by decide +kernel
theorem dL_law_985 : decode cL_law 985 = .ok (.if_icmp .eq 18, 3) := by decide +kernel
theorem dL_law_988 : decode cL_law 988 = .ok (.iconst 0, 1) := by decide +kernel
theorem dL_law_989 : decode cL_law 989 = .ok (.ireturn, 1) := by decide +kernel
theorem dL_law_990 : decode cL_law 990 = .ok (.aload_n 1, 1) := by decide +kernel
theorem dL_law_991 : decode cL_law 991 = .ok (.invokevirtual 148, 3) := by decide +kernel
theorem dL_law_994 : decode cL_law 994 = .ok (.aload_n 2, 1) := by decide +kernel
theorem dL_law_995 : decode cL_law 995 = .ok (.invokevirtual 151, 3) := by decide +kernel
theorem dL_law_998 : decode cL_law 998 = .ok (.if_icmp .eq 5, 3) := by decide +kernel
theorem dL_law_1001 : decode cL_law 1001 = .ok (.iconst 0, 1) := by decide +kernel
theorem dL_law_1002 : decode cL_law 1002 = .ok (.ireturn, 1) := by decide +kernel
theorem dL_law_1003 : decode cL_law 1003 = .ok (.iinc 3 4, 3) := by decide +kernel
theorem dL_law_1006 : decode cL_law 1006 = .ok (.goto (-988), 3) := by decide +kernel
theorem dL_law_1009 : decode cL_law 1009 = .ok (.iconst 1, 1) := by decide +kernel
theorem dL_law_1010 : decode cL_law 1010 = .ok (.ireturn, 1) := by decide +kernel

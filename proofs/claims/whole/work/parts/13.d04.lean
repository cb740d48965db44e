theorem dL_law_846 : decode code 846 = .ok (.iconst 3, 1) := by decide +kernel
theorem dL_law_847 : decode code 847 = .ok (.iadd, 1) := by decide +kernel
theorem dL_law_848 : decode code 848 = .ok (.iaload, 1) := by decide +kernel
theorem dL_law_849 : decode code 849 = .ok (.i2l, 1) := by decide +kernel
theorem dL_law_850 : decode code 850 = .ok (.ldc2_w 124, 3) := by decide +kernel
theorem dL_law_853 : decode code 853 = .ok (.land, 1) := by decide +kernel
theorem dL_law_854 : decode code 854 = .ok (.lor, 1) := by decide +kernel
theorem dL_law_855 : decode code 855 = .ok (.aload_n 0, 1) := by decide +kernel
theorem dL_law_856 : decode code 856 = .ok (.iload 4, 2) := by decide +kernel
theorem dL_law_858 : decode code 858 = .ok (.iconst 4, 1) := by decide +kernel
theorem dL_law_859 : decode code 859 = .ok (.iadd, 1) := by decide +kernel
theorem dL_law_860 : decode code 860 = .ok (.iaload, 1) := by decide +kernel
theorem dL_law_861 : decode code 861 = .ok (.aload_n 3, 1) := by decide +kernel
theorem dL_law_862 : decode code 862 = .ok (.invokestatic 146, 3) := by decide +kernel
theorem dL_law_865 : decode code 865 = .ok (.istore 5, 2) := by decide +kernel
theorem dL_law_867 : decode code 867 = .ok (.aload_n 2, 1) := by decide +kernel
theorem dL_law_868 : decode code 868 = .ok (.aload_n 0, 1) := by decide +kernel
theorem dL_law_869 : decode code 869 = .ok (.iload 4, 2) := by decide +kernel
theorem dL_law_871 : decode code 871 = .ok (.iconst 1, 1) := by decide +kernel
theorem dL_law_872 : decode code 872 = .ok (.iadd, 1) := by decide +kernel
theorem dL_law_873 : decode code 873 = .ok (.iaload, 1) := by decide +kernel
theorem dL_law_874 : decode code 874 = .ok (.aload_n 0, 1) := by decide +kernel
theorem dL_law_875 : decode code 875 = .ok (.iload 4, 2) := by decide +kernel
theorem dL_law_877 : decode code 877 = .ok (.iconst 2, 1) := by decide +kernel
theorem dL_law_878 : decode code 878 = .ok (.iadd, 1) := by decide +kernel
theorem dL_law_879 : decode code 879 = .ok (.iaload, 1) := by decide +kernel
theorem dL_law_880 : decode code 880 = .ok (.i2l, 1) := by decide +kernel
theorem dL_law_881 : decode code 881 = .ok (.bipush 32, 2) := by decide +kernel
theorem dL_law_883 : decode code 883 = .ok (.lshl, 1) := by decide +kernel
theorem dL_law_884 : decode code 884 = .ok (.aload_n 0, 1) := by decide +kernel
theorem dL_law_885 : decode code 885 = .ok (.iload 4, 2) := by decide +kernel
theorem dL_law_887 : decode code 887 = .ok (.iconst 3, 1) := by decide +kernel
theorem dL_law_888 : decode code 888 = .ok (.iadd, 1) := by decide +kernel
theorem dL_law_889 : decode code 889 = .ok (.iaload, 1) := by decide +kernel
theorem dL_law_890 : decode code 890 = .ok (.i2l, 1) := by decide +kernel
theorem dL_law_891 : decode code 891 = .ok (.ldc2_w 124, 3) := by decide +kernel
theorem dL_law_894 : decode code 894 = .ok (.land, 1) := by decide +kernel
theorem dL_law_895 : decode code 895 = .ok (.lor, 1) := by decide +kernel
theorem dL_law_896 : decode code 896 = .ok (.aload_n 0, 1) := by decide +kernel
theorem dL_law_897 : decode code 897 = .ok (.iload 4, 2) := by decide +kernel
theorem dL_law_899 : decode code 899 = .ok (.iconst 4, 1) := by decide +kernel
theorem dL_law_900 : decode code 900 = .ok (.iadd, 1) := by decide +kernel
theorem dL_law_901 : decode code 901 = .ok (.iaload, 1) := by decide +kernel
theorem dL_law_902 : decode code 902 = .ok (.invokevirtual 149, 3) := by decide +kernel
theorem dL_law_905 : decode code 905 = .ok (.istore 6, 2) := by decide +kernel
theorem dL_law_907 : decode code 907 = .ok (.aload_n 2, 1) := by decide +kernel
theorem dL_law_908 : decode code 908 = .ok (.invokevirtual 106, 3) := by decide +kernel
theorem dL_law_911 : decode code 911 = .ok (.iload 5, 2) := by decide +kernel
theorem dL_law_913 : decode code 913 = .ok (.if_icmp .eq 5, 3) := by decide +kernel
theorem dL_law_916 : decode code 916 = .ok (.iconst 0, 1) := by decide +kernel
theorem dL_law_917 : decode code 917 = .ok (.ireturn, 1) := by decide +kernel
theorem dL_law_918 : decode code 918 = .ok (.iload 5, 2) := by decide +kernel
theorem dL_law_920 : decode code 920 = .ok (.ifCond .ne 15, 3) := by decide +kernel
theorem dL_law_923 : decode code 923 = .ok (.aload_n 3, 1) := by decide +kernel
theorem dL_law_924 : decode code 924 = .ok (.iconst 0, 1) := by decide +kernel
theorem dL_law_925 : decode code 925 = .ok (.laload, 1) := by decide +kernel
theorem dL_law_926 : decode code 926 = .ok (.iload 6, 2) := by decide +kernel
theorem dL_law_928 : decode code 928 = .ok (.i2l, 1) := by decide +kernel
theorem dL_law_929 : decode code 929 = .ok (.lcmp, 1) := by decide +kernel
theorem dL_law_930 : decode code 930 = .ok (.ifCond .eq 5, 3) := by decide +kernel
theorem dL_law_933 : decode code 933 = .ok (.iconst 0, 1) := by decide +kernel
theorem dL_law_934 : decode code 934 = .ok (.ireturn, 1) := by decide +kernel
theorem dL_law_935 : decode code 935 = .ok (.goto 743, 3) := by decide +kernel
theorem dL_law_938 : decode code 938 = .ok (.aload_n 1, 1) := by decide +kernel
theorem dL_law_939 : decode code 939 = .ok (.aload_n 0, 1) := by decide +kernel
theorem dL_law_940 : decode code 940 = .ok (.iload 4, 2) := by decide +kernel
theorem dL_law_942 : decode code 942 = .ok (.iconst 1, 1) := by decide +kernel
theorem dL_law_943 : decode code 943 = .ok (.iadd, 1) := by decide +kernel
theorem dL_law_944 : decode code 944 = .ok (.iaload, 1) := by decide +kernel
theorem dL_law_945 : decode code 945 = .ok (.aload_n 0, 1) := by decide +kernel
theorem dL_law_946 : decode code 946 = .ok (.iload 4, 2) := by decide +kernel
theorem dL_law_948 : decode code 948 = .ok (.iconst 2, 1) := by decide +kernel
theorem dL_law_949 : decode code 949 = .ok (.iadd, 1) := by decide +kernel
theorem dL_law_950 : decode code 950 = .ok (.iaload, 1) := by decide +kernel
theorem dL_law_951 : decode code 951 = .ok (.i2l, 1) := by decide +kernel
theorem dL_law_952 : decode code 952 = .ok (.bipush 32, 2) := by decide +kernel
theorem dL_law_954 : decode code 954 = .ok (.lshl, 1) := by decide +kernel
theorem dL_law_955 : decode code 955 = .ok (.aload_n 0, 1) := by decide +kernel
theorem dL_law_956 : decode code 956 = .ok (.iload 4, 2) := by decide +kernel
theorem dL_law_958 : decode code 958 = .ok (.iconst 3, 1) := by decide +kernel
theorem dL_law_959 : decode code 959 = .ok (.iadd, 1) := by decide +kernel
theorem dL_law_960 : decode code 960 = .ok (.iaload, 1) := by decide +kernel
theorem dL_law_961 : decode code 961 = .ok (.i2l, 1) := by decide +kernel
theorem dL_law_962 : decode code 962 = .ok (.ldc2_w 124, 3) := by decide +kernel
theorem dL_law_965 : decode code 965 = .ok (.land, 1) := by decide +kernel
theorem dL_law_966 : decode code 966 = .ok (.lor, 1) := by decide +kernel
theorem dL_law_967 : decode code 967 = .ok (.aload_n 3, 1) := by decide +kernel
theorem dL_law_968 : decode code 968 = .ok (.invokestatic 150, 3) := by decide +kernel
theorem dL_law_971 : decode code 971 = .ok (.istore 5, 2) := by decide +kernel
theorem dL_law_973 : decode code 973 = .ok (.aload_n 2, 1) := by decide +kernel
theorem dL_law_974 : decode code 974 = .ok (.aload_n 0, 1) := by decide +kernel
theorem dL_law_975 : decode code 975 = .ok (.iload 4, 2) := by decide +kernel
theorem dL_law_977 : decode code 977 = .ok (.iconst 1, 1) := by decide +kernel
theorem dL_law_978 : decode code 978 = .ok (.iadd, 1) := by decide +kernel
theorem dL_law_979 : decode code 979 = .ok (.iaload, 1) := by decide +kernel
theorem dL_law_980 : decode code 980 = .ok (.aload_n 0, 1) := by decide +kernel
theorem dL_law_981 : decode code 981 = .ok (.iload 4, 2) := by decide +kernel
theorem dL_law_983 : decode code 983 = .ok (.iconst 2, 1) := by decide +kernel
theorem dL_law_984 : decode code 984 = .ok (.iadd, 1) := by decide +kernel
theorem dL_law_985 : decode code 985 = .ok (.iaload, 1) := by decide +kernel
theorem dL_law_986 : decode code 986 = .ok (.i2l, 1) := by decide +kernel
theorem dL_law_987 : decode code 987 = .ok (.bipush 32, 2) := by decide +kernel
theorem dL_law_989 : decode code 989 = .ok (.lshl, 1) := by decide +kernel
theorem dL_law_990 : decode code 990 = .ok (.aload_n 0, 1) := by decide +kernel
theorem dL_law_991 : decode code 991 = .ok (.iload 4, 2) := by decide +kernel
theorem dL_law_993 : decode code 993 = .ok (.iconst 3, 1) := by decide +kernel
theorem dL_law_994 : decode code 994 = .ok (.iadd, 1) := by decide +kernel
theorem dL_law_995 : decode code 995 = .ok (.iaload, 1) := by decide +kernel
theorem dL_law_996 : decode code 996 = .ok (.i2l, 1) := by decide +kernel
theorem dL_law_997 : decode code 997 = .ok (.ldc2_w 124, 3) := by decide +kernel
theorem dL_law_1000 : decode code 1000 = .ok (.land, 1) := by decide +kernel
theorem dL_law_1001 : decode code 1001 = .ok (.lor, 1) := by decide +kernel
theorem dL_law_1002 : decode code 1002 = .ok (.invokevirtual 153, 3) := by decide +kernel
theorem dL_law_1005 : decode code 1005 = .ok (.istore 6, 2) := by decide +kernel
theorem dL_law_1007 : decode code 1007 = .ok (.aload_n 2, 1) := by decide +kernel
theorem dL_law_1008 : decode code 1008 = .ok (.invokevirtual 106, 3) := by decide +kernel
theorem dL_law_1011 : decode code 1011 = .ok (.iload 5, 2) := by decide +kernel
theorem dL_law_1013 : decode code 1013 = .ok (.if_icmp .eq 5, 3) := by decide +kernel
theorem dL_law_1016 : decode code 1016 = .ok (.iconst 0, 1) := by decide +kernel
theorem dL_law_1017 : decode code 1017 = .ok (.ireturn, 1) := by decide +kernel

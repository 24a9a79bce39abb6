theorem d_L_876 : decode YL.2.1 876 = .ok (.aload_n 0, 1) ∧ 876 + 1 = 877 := by decide +kernel
theorem d_L_877 : decode YL.2.1 877 = .ok (.iload_n 3, 1) ∧ 877 + 1 = 878 := by decide +kernel
theorem d_L_878 : decode YL.2.1 878 = .ok (.iconst 2, 1) ∧ 878 + 1 = 879 := by decide +kernel
theorem d_L_879 : decode YL.2.1 879 = .ok (.iadd, 1) ∧ 879 + 1 = 880 := by decide +kernel
theorem d_L_880 : decode YL.2.1 880 = .ok (.iaload, 1) ∧ 880 + 1 = 881 := by decide +kernel
theorem d_L_881 : decode YL.2.1 881 = .ok (.aload_n 0, 1) ∧ 881 + 1 = 882 := by decide +kernel
theorem d_L_882 : decode YL.2.1 882 = .ok (.iload_n 3, 1) ∧ 882 + 1 = 883 := by decide +kernel
theorem d_L_883 : decode YL.2.1 883 = .ok (.iconst 3, 1) ∧ 883 + 1 = 884 := by decide +kernel
theorem d_L_884 : decode YL.2.1 884 = .ok (.iadd, 1) ∧ 884 + 1 = 885 := by decide +kernel
theorem d_L_885 : decode YL.2.1 885 = .ok (.iaload, 1) ∧ 885 + 1 = 886 := by decide +kernel
theorem d_L_886 : decode YL.2.1 886 = .ok (.aload_n 0, 1) ∧ 886 + 1 = 887 := by decide +kernel
theorem d_L_887 : decode YL.2.1 887 = .ok (.iload_n 3, 1) ∧ 887 + 1 = 888 := by decide +kernel
theorem d_L_888 : decode YL.2.1 888 = .ok (.iconst 4, 1) ∧ 888 + 1 = 889 := by decide +kernel
theorem d_L_889 : decode YL.2.1 889 = .ok (.iadd, 1) ∧ 889 + 1 = 890 := by decide +kernel
theorem d_L_890 : decode YL.2.1 890 = .ok (.iaload, 1) ∧ 890 + 1 = 891 := by decide +kernel
theorem d_L_891 : decode YL.2.1 891 = .ok (.aload_n 0, 1) ∧ 891 + 1 = 892 := by decide +kernel
theorem d_L_892 : decode YL.2.1 892 = .ok (.iload_n 3, 1) ∧ 892 + 1 = 893 := by decide +kernel
theorem d_L_893 : decode YL.2.1 893 = .ok (.iconst 5, 1) ∧ 893 + 1 = 894 := by decide +kernel
theorem d_L_894 : decode YL.2.1 894 = .ok (.iadd, 1) ∧ 894 + 1 = 895 := by decide +kernel
theorem d_L_895 : decode YL.2.1 895 = .ok (.iaload, 1) ∧ 895 + 1 = 896 := by decide +kernel
theorem d_L_896 : decode YL.2.1 896 = .ok (.aload_n 0, 1) ∧ 896 + 1 = 897 := by decide +kernel
theorem d_L_897 : decode YL.2.1 897 = .ok (.iload_n 3, 1) ∧ 897 + 1 = 898 := by decide +kernel
theorem d_L_898 : decode YL.2.1 898 = .ok (.bipush 6, 2) ∧ 898 + 2 = 900 := by decide +kernel
theorem d_L_900 : decode YL.2.1 900 = .ok (.iadd, 1) ∧ 900 + 1 = 901 := by decide +kernel
theorem d_L_901 : decode YL.2.1 901 = .ok (.iaload, 1) ∧ 901 + 1 = 902 := by decide +kernel
theorem d_L_902 : decode YL.2.1 902 = .ok (.aload_n 0, 1) ∧ 902 + 1 = 903 := by decide +kernel
theorem d_L_903 : decode YL.2.1 903 = .ok (.iload_n 3, 1) ∧ 903 + 1 = 904 := by decide +kernel
theorem d_L_904 : decode YL.2.1 904 = .ok (.bipush 7, 2) ∧ 904 + 2 = 906 := by decide +kernel
theorem d_L_906 : decode YL.2.1 906 = .ok (.iadd, 1) ∧ 906 + 1 = 907 := by decide +kernel
theorem d_L_907 : decode YL.2.1 907 = .ok (.iaload, 1) ∧ 907 + 1 = 908 := by decide +kernel
theorem d_L_908 : decode YL.2.1 908 = .ok (.invokevirtual 70, 3) ∧ 908 + 3 = 911 := by decide +kernel
theorem d_L_911 : decode YL.2.1 911 = .ok (.pop, 1) ∧ 911 + 1 = 912 := by decide +kernel
theorem d_L_912 : decode YL.2.1 912 = .ok (.aload_n 2, 1) ∧ 912 + 1 = 913 := by decide +kernel
theorem d_L_913 : decode YL.2.1 913 = .ok (.aload_n 0, 1) ∧ 913 + 1 = 914 := by decide +kernel
theorem d_L_914 : decode YL.2.1 914 = .ok (.iload_n 3, 1) ∧ 914 + 1 = 915 := by decide +kernel
theorem d_L_915 : decode YL.2.1 915 = .ok (.iconst 1, 1) ∧ 915 + 1 = 916 := by decide +kernel
theorem d_L_916 : decode YL.2.1 916 = .ok (.iadd, 1) ∧ 916 + 1 = 917 := by decide +kernel
theorem d_L_917 : decode YL.2.1 917 = .ok (.iaload, 1) ∧ 917 + 1 = 918 := by decide +kernel
theorem d_L_918 : decode YL.2.1 918 = .ok (.aload_n 0, 1) ∧ 918 + 1 = 919 := by decide +kernel
theorem d_L_919 : decode YL.2.1 919 = .ok (.iload_n 3, 1) ∧ 919 + 1 = 920 := by decide +kernel
theorem d_L_920 : decode YL.2.1 920 = .ok (.iconst 2, 1) ∧ 920 + 1 = 921 := by decide +kernel
theorem d_L_921 : decode YL.2.1 921 = .ok (.iadd, 1) ∧ 921 + 1 = 922 := by decide +kernel
theorem d_L_922 : decode YL.2.1 922 = .ok (.iaload, 1) ∧ 922 + 1 = 923 := by decide +kernel
theorem d_L_923 : decode YL.2.1 923 = .ok (.aload_n 0, 1) ∧ 923 + 1 = 924 := by decide +kernel
theorem d_L_924 : decode YL.2.1 924 = .ok (.iload_n 3, 1) ∧ 924 + 1 = 925 := by decide +kernel
theorem d_L_925 : decode YL.2.1 925 = .ok (.iconst 3, 1) ∧ 925 + 1 = 926 := by decide +kernel
theorem d_L_926 : decode YL.2.1 926 = .ok (.iadd, 1) ∧ 926 + 1 = 927 := by decide +kernel
theorem d_L_927 : decode YL.2.1 927 = .ok (.iaload, 1) ∧ 927 + 1 = 928 := by decide +kernel
theorem d_L_928 : decode YL.2.1 928 = .ok (.aload_n 0, 1) ∧ 928 + 1 = 929 := by decide +kernel
theorem d_L_929 : decode YL.2.1 929 = .ok (.iload_n 3, 1) ∧ 929 + 1 = 930 := by decide +kernel
theorem d_L_930 : decode YL.2.1 930 = .ok (.iconst 4, 1) ∧ 930 + 1 = 931 := by decide +kernel
theorem d_L_931 : decode YL.2.1 931 = .ok (.iadd, 1) ∧ 931 + 1 = 932 := by decide +kernel
theorem d_L_932 : decode YL.2.1 932 = .ok (.iaload, 1) ∧ 932 + 1 = 933 := by decide +kernel
theorem d_L_933 : decode YL.2.1 933 = .ok (.aload_n 0, 1) ∧ 933 + 1 = 934 := by decide +kernel
theorem d_L_934 : decode YL.2.1 934 = .ok (.iload_n 3, 1) ∧ 934 + 1 = 935 := by decide +kernel
theorem d_L_935 : decode YL.2.1 935 = .ok (.iconst 5, 1) ∧ 935 + 1 = 936 := by decide +kernel
theorem d_L_936 : decode YL.2.1 936 = .ok (.iadd, 1) ∧ 936 + 1 = 937 := by decide +kernel
theorem d_L_937 : decode YL.2.1 937 = .ok (.iaload, 1) ∧ 937 + 1 = 938 := by decide +kernel
theorem d_L_938 : decode YL.2.1 938 = .ok (.aload_n 0, 1) ∧ 938 + 1 = 939 := by decide +kernel
theorem d_L_939 : decode YL.2.1 939 = .ok (.iload_n 3, 1) ∧ 939 + 1 = 940 := by decide +kernel
theorem d_L_940 : decode YL.2.1 940 = .ok (.bipush 6, 2) ∧ 940 + 2 = 942 := by decide +kernel
theorem d_L_942 : decode YL.2.1 942 = .ok (.iadd, 1) ∧ 942 + 1 = 943 := by decide +kernel
theorem d_L_943 : decode YL.2.1 943 = .ok (.iaload, 1) ∧ 943 + 1 = 944 := by decide +kernel
theorem d_L_944 : decode YL.2.1 944 = .ok (.aload_n 0, 1) ∧ 944 + 1 = 945 := by decide +kernel
theorem d_L_945 : decode YL.2.1 945 = .ok (.iload_n 3, 1) ∧ 945 + 1 = 946 := by decide +kernel
theorem d_L_946 : decode YL.2.1 946 = .ok (.bipush 7, 2) ∧ 946 + 2 = 948 := by decide +kernel
theorem d_L_948 : decode YL.2.1 948 = .ok (.iadd, 1) ∧ 948 + 1 = 949 := by decide +kernel
theorem d_L_949 : decode YL.2.1 949 = .ok (.iaload, 1) ∧ 949 + 1 = 950 := by decide +kernel
theorem d_L_950 : decode YL.2.1 950 = .ok (.invokevirtual 74, 3) ∧ 950 + 3 = 953 := by decide +kernel
theorem d_L_953 : decode YL.2.1 953 = .ok (.pop, 1) ∧ 953 + 1 = 954 := by decide +kernel
theorem d_L_954 : decode YL.2.1 954 = .ok (.goto 2522, 3) ∧ ((954 : Nat) : Int) + 2522 = ((3476 : Nat) : Int) ∧ 954 + 3 = 957 := by decide +kernel
theorem d_L_957 : decode YL.2.1 957 = .ok (.aload_n 1, 1) ∧ 957 + 1 = 958 := by decide +kernel
theorem d_L_958 : decode YL.2.1 958 = .ok (.aload_n 0, 1) ∧ 958 + 1 = 959 := by decide +kernel
theorem d_L_959 : decode YL.2.1 959 = .ok (.iload_n 3, 1) ∧ 959 + 1 = 960 := by decide +kernel
theorem d_L_960 : decode YL.2.1 960 = .ok (.iconst 1, 1) ∧ 960 + 1 = 961 := by decide +kernel
theorem d_L_961 : decode YL.2.1 961 = .ok (.iadd, 1) ∧ 961 + 1 = 962 := by decide +kernel
theorem d_L_962 : decode YL.2.1 962 = .ok (.iaload, 1) ∧ 962 + 1 = 963 := by decide +kernel
theorem d_L_963 : decode YL.2.1 963 = .ok (.aload_n 0, 1) ∧ 963 + 1 = 964 := by decide +kernel
theorem d_L_964 : decode YL.2.1 964 = .ok (.iload_n 3, 1) ∧ 964 + 1 = 965 := by decide +kernel
theorem d_L_965 : decode YL.2.1 965 = .ok (.iconst 2, 1) ∧ 965 + 1 = 966 := by decide +kernel
theorem d_L_966 : decode YL.2.1 966 = .ok (.iadd, 1) ∧ 966 + 1 = 967 := by decide +kernel
theorem d_L_967 : decode YL.2.1 967 = .ok (.iaload, 1) ∧ 967 + 1 = 968 := by decide +kernel
theorem d_L_968 : decode YL.2.1 968 = .ok (.invokevirtual 75, 3) ∧ 968 + 3 = 971 := by decide +kernel
theorem d_L_971 : decode YL.2.1 971 = .ok (.pop, 1) ∧ 971 + 1 = 972 := by decide +kernel
theorem d_L_972 : decode YL.2.1 972 = .ok (.aload_n 2, 1) ∧ 972 + 1 = 973 := by decide +kernel
theorem d_L_973 : decode YL.2.1 973 = .ok (.aload_n 0, 1) ∧ 973 + 1 = 974 := by decide +kernel
theorem d_L_974 : decode YL.2.1 974 = .ok (.iload_n 3, 1) ∧ 974 + 1 = 975 := by decide +kernel
theorem d_L_975 : decode YL.2.1 975 = .ok (.iconst 1, 1) ∧ 975 + 1 = 976 := by decide +kernel
theorem d_L_976 : decode YL.2.1 976 = .ok (.iadd, 1) ∧ 976 + 1 = 977 := by decide +kernel
theorem d_L_977 : decode YL.2.1 977 = .ok (.iaload, 1) ∧ 977 + 1 = 978 := by decide +kernel
theorem d_L_978 : decode YL.2.1 978 = .ok (.aload_n 0, 1) ∧ 978 + 1 = 979 := by decide +kernel
theorem d_L_979 : decode YL.2.1 979 = .ok (.iload_n 3, 1) ∧ 979 + 1 = 980 := by decide +kernel
theorem d_L_980 : decode YL.2.1 980 = .ok (.iconst 2, 1) ∧ 980 + 1 = 981 := by decide +kernel
theorem d_L_981 : decode YL.2.1 981 = .ok (.iadd, 1) ∧ 981 + 1 = 982 := by decide +kernel
theorem d_L_982 : decode YL.2.1 982 = .ok (.iaload, 1) ∧ 982 + 1 = 983 := by decide +kernel
theorem d_L_983 : decode YL.2.1 983 = .ok (.invokevirtual 78, 3) ∧ 983 + 3 = 986 := by decide +kernel
theorem d_L_986 : decode YL.2.1 986 = .ok (.pop, 1) ∧ 986 + 1 = 987 := by decide +kernel
theorem d_L_987 : decode YL.2.1 987 = .ok (.goto 2489, 3) ∧ ((987 : Nat) : Int) + 2489 = ((3476 : Nat) : Int) ∧ 987 + 3 = 990 := by decide +kernel
theorem d_L_990 : decode YL.2.1 990 = .ok (.aload_n 1, 1) ∧ 990 + 1 = 991 := by decide +kernel
theorem d_L_991 : decode YL.2.1 991 = .ok (.aload_n 0, 1) ∧ 991 + 1 = 992 := by decide +kernel
theorem d_L_992 : decode YL.2.1 992 = .ok (.iload_n 3, 1) ∧ 992 + 1 = 993 := by decide +kernel
theorem d_L_993 : decode YL.2.1 993 = .ok (.iconst 1, 1) ∧ 993 + 1 = 994 := by decide +kernel
theorem d_L_994 : decode YL.2.1 994 = .ok (.iadd, 1) ∧ 994 + 1 = 995 := by decide +kernel
theorem d_L_995 : decode YL.2.1 995 = .ok (.iaload, 1) ∧ 995 + 1 = 996 := by decide +kernel
theorem d_L_996 : decode YL.2.1 996 = .ok (.aload_n 0, 1) ∧ 996 + 1 = 997 := by decide +kernel
theorem d_L_997 : decode YL.2.1 997 = .ok (.iload_n 3, 1) ∧ 997 + 1 = 998 := by decide +kernel
theorem d_L_998 : decode YL.2.1 998 = .ok (.iconst 2, 1) ∧ 998 + 1 = 999 := by decide +kernel
theorem d_L_999 : decode YL.2.1 999 = .ok (.iadd, 1) ∧ 999 + 1 = 1000 := by decide +kernel
theorem d_L_1000 : decode YL.2.1 1000 = .ok (.iaload, 1) ∧ 1000 + 1 = 1001 := by decide +kernel
theorem d_L_1001 : decode YL.2.1 1001 = .ok (.invokevirtual 79, 3) ∧ 1001 + 3 = 1004 := by decide +kernel
theorem d_L_1004 : decode YL.2.1 1004 = .ok (.pop, 1) ∧ 1004 + 1 = 1005 := by decide +kernel
theorem d_L_1005 : decode YL.2.1 1005 = .ok (.aload_n 2, 1) ∧ 1005 + 1 = 1006 := by decide +kernel
theorem d_L_1006 : decode YL.2.1 1006 = .ok (.aload_n 0, 1) ∧ 1006 + 1 = 1007 := by decide +kernel
theorem d_L_1007 : decode YL.2.1 1007 = .ok (.iload_n 3, 1) ∧ 1007 + 1 = 1008 := by decide +kernel
theorem d_L_1008 : decode YL.2.1 1008 = .ok (.iconst 1, 1) ∧ 1008 + 1 = 1009 := by decide +kernel
theorem d_L_1009 : decode YL.2.1 1009 = .ok (.iadd, 1) ∧ 1009 + 1 = 1010 := by decide +kernel
theorem d_L_1010 : decode YL.2.1 1010 = .ok (.iaload, 1) ∧ 1010 + 1 = 1011 := by decide +kernel
theorem d_L_1011 : decode YL.2.1 1011 = .ok (.aload_n 0, 1) ∧ 1011 + 1 = 1012 := by decide +kernel
theorem d_L_1012 : decode YL.2.1 1012 = .ok (.iload_n 3, 1) ∧ 1012 + 1 = 1013 := by decide +kernel
theorem d_L_1013 : decode YL.2.1 1013 = .ok (.iconst 2, 1) ∧ 1013 + 1 = 1014 := by decide +kernel
theorem d_L_1014 : decode YL.2.1 1014 = .ok (.iadd, 1) ∧ 1014 + 1 = 1015 := by decide +kernel
theorem d_L_1015 : decode YL.2.1 1015 = .ok (.iaload, 1) ∧ 1015 + 1 = 1016 := by decide +kernel
theorem d_L_1016 : decode YL.2.1 1016 = .ok (.invokevirtual 82, 3) ∧ 1016 + 3 = 1019 := by decide +kernel
theorem d_L_1019 : decode YL.2.1 1019 = .ok (.pop, 1) ∧ 1019 + 1 = 1020 := by decide +kernel
theorem d_L_1020 : decode YL.2.1 1020 = .ok (.goto 2456, 3) ∧ ((1020 : Nat) : Int) + 2456 = ((3476 : Nat) : Int) ∧ 1020 + 3 = 1023 := by decide +kernel
theorem d_L_1023 : decode YL.2.1 1023 = .ok (.aload_n 1, 1) ∧ 1023 + 1 = 1024 := by decide +kernel
theorem d_L_1024 : decode YL.2.1 1024 = .ok (.aload_n 0, 1) ∧ 1024 + 1 = 1025 := by decide +kernel
theorem d_L_1025 : decode YL.2.1 1025 = .ok (.iload_n 3, 1) ∧ 1025 + 1 = 1026 := by decide +kernel
theorem d_L_1026 : decode YL.2.1 1026 = .ok (.iconst 1, 1) ∧ 1026 + 1 = 1027 := by decide +kernel
theorem d_L_1027 : decode YL.2.1 1027 = .ok (.iadd, 1) ∧ 1027 + 1 = 1028 := by decide +kernel
theorem d_L_1028 : decode YL.2.1 1028 = .ok (.iaload, 1) ∧ 1028 + 1 = 1029 := by decide +kernel
theorem d_L_1029 : decode YL.2.1 1029 = .ok (.aload_n 0, 1) ∧ 1029 + 1 = 1030 := by decide +kernel
theorem d_L_1030 : decode YL.2.1 1030 = .ok (.iload_n 3, 1) ∧ 1030 + 1 = 1031 := by decide +kernel
theorem d_L_1031 : decode YL.2.1 1031 = .ok (.iconst 2, 1) ∧ 1031 + 1 = 1032 := by decide +kernel
theorem d_L_1032 : decode YL.2.1 1032 = .ok (.iadd, 1) ∧ 1032 + 1 = 1033 := by decide +kernel
theorem d_L_1033 : decode YL.2.1 1033 = .ok (.iaload, 1) ∧ 1033 + 1 = 1034 := by decide +kernel
theorem d_L_1034 : decode YL.2.1 1034 = .ok (.ifCond .eq 7, 3) ∧ ((1034 : Nat) : Int) + 7 = ((1041 : Nat) : Int) ∧ 1034 + 3 = 1037 := by decide +kernel
theorem d_L_1037 : decode YL.2.1 1037 = .ok (.iconst 1, 1) ∧ 1037 + 1 = 1038 := by decide +kernel
theorem d_L_1038 : decode YL.2.1 1038 = .ok (.goto 4, 3) ∧ ((1038 : Nat) : Int) + 4 = ((1042 : Nat) : Int) ∧ 1038 + 3 = 1041 := by decide +kernel
theorem d_L_1041 : decode YL.2.1 1041 = .ok (.iconst 0, 1) ∧ 1041 + 1 = 1042 := by decide +kernel
theorem d_L_1042 : decode YL.2.1 1042 = .ok (.invokevirtual 83, 3) ∧ 1042 + 3 = 1045 := by decide +kernel
theorem d_L_1045 : decode YL.2.1 1045 = .ok (.pop, 1) ∧ 1045 + 1 = 1046 := by decide +kernel
theorem d_L_1046 : decode YL.2.1 1046 = .ok (.aload_n 2, 1) ∧ 1046 + 1 = 1047 := by decide +kernel
theorem d_L_1047 : decode YL.2.1 1047 = .ok (.aload_n 0, 1) ∧ 1047 + 1 = 1048 := by decide +kernel
theorem d_L_1048 : decode YL.2.1 1048 = .ok (.iload_n 3, 1) ∧ 1048 + 1 = 1049 := by decide +kernel
theorem d_L_1049 : decode YL.2.1 1049 = .ok (.iconst 1, 1) ∧ 1049 + 1 = 1050 := by decide +kernel
theorem d_L_1050 : decode YL.2.1 1050 = .ok (.iadd, 1) ∧ 1050 + 1 = 1051 := by decide +kernel
theorem d_L_1051 : decode YL.2.1 1051 = .ok (.iaload, 1) ∧ 1051 + 1 = 1052 := by decide +kernel
theorem d_L_1052 : decode YL.2.1 1052 = .ok (.aload_n 0, 1) ∧ 1052 + 1 = 1053 := by decide +kernel
theorem d_L_1053 : decode YL.2.1 1053 = .ok (.iload_n 3, 1) ∧ 1053 + 1 = 1054 := by decide +kernel
theorem d_L_1054 : decode YL.2.1 1054 = .ok (.iconst 2, 1) ∧ 1054 + 1 = 1055 := by decide +kernel
theorem d_L_1055 : decode YL.2.1 1055 = .ok (.iadd, 1) ∧ 1055 + 1 = 1056 := by decide +kernel
theorem d_L_1056 : decode YL.2.1 1056 = .ok (.iaload, 1) ∧ 1056 + 1 = 1057 := by decide +kernel
theorem d_L_1057 : decode YL.2.1 1057 = .ok (.ifCond .eq 7, 3) ∧ ((1057 : Nat) : Int) + 7 = ((1064 : Nat) : Int) ∧ 1057 + 3 = 1060 := by decide +kernel
theorem d_L_1060 : decode YL.2.1 1060 = .ok (.iconst 1, 1) ∧ 1060 + 1 = 1061 := by decide +kernel
theorem d_L_1061 : decode YL.2.1 1061 = .ok (.goto 4, 3) ∧ ((1061 : Nat) : Int) + 4 = ((1065 : Nat) : Int) ∧ 1061 + 3 = 1064 := by decide +kernel
theorem d_L_1064 : decode YL.2.1 1064 = .ok (.iconst 0, 1) ∧ 1064 + 1 = 1065 := by decide +kernel
theorem d_L_1065 : decode YL.2.1 1065 = .ok (.invokevirtual 87, 3) ∧ 1065 + 3 = 1068 := by decide +kernel
theorem d_L_1068 : decode YL.2.1 1068 = .ok (.pop, 1) ∧ 1068 + 1 = 1069 := by decide +kernel
theorem d_L_1069 : decode YL.2.1 1069 = .ok (.goto 2407, 3) ∧ ((1069 : Nat) : Int) + 2407 = ((3476 : Nat) : Int) ∧ 1069 + 3 = 1072 := by decide +kernel
theorem d_L_1072 : decode YL.2.1 1072 = .ok (.aload_n 1, 1) ∧ 1072 + 1 = 1073 := by decide +kernel
theorem d_L_1073 : decode YL.2.1 1073 = .ok (.aload_n 0, 1) ∧ 1073 + 1 = 1074 := by decide +kernel
theorem d_L_1074 : decode YL.2.1 1074 = .ok (.iload_n 3, 1) ∧ 1074 + 1 = 1075 := by decide +kernel
theorem d_L_1075 : decode YL.2.1 1075 = .ok (.iconst 1, 1) ∧ 1075 + 1 = 1076 := by decide +kernel
theorem d_L_1076 : decode YL.2.1 1076 = .ok (.iadd, 1) ∧ 1076 + 1 = 1077 := by decide +kernel
theorem d_L_1077 : decode YL.2.1 1077 = .ok (.iaload, 1) ∧ 1077 + 1 = 1078 := by decide +kernel
theorem d_L_1078 : decode YL.2.1 1078 = .ok (.invokevirtual 88, 3) ∧ 1078 + 3 = 1081 := by decide +kernel
theorem d_L_1081 : decode YL.2.1 1081 = .ok (.pop, 1) ∧ 1081 + 1 = 1082 := by decide +kernel
theorem d_L_1082 : decode YL.2.1 1082 = .ok (.aload_n 2, 1) ∧ 1082 + 1 = 1083 := by decide +kernel
theorem d_L_1083 : decode YL.2.1 1083 = .ok (.aload_n 0, 1) ∧ 1083 + 1 = 1084 := by decide +kernel
theorem d_L_1084 : decode YL.2.1 1084 = .ok (.iload_n 3, 1) ∧ 1084 + 1 = 1085 := by decide +kernel
theorem d_L_1085 : decode YL.2.1 1085 = .ok (.iconst 1, 1) ∧ 1085 + 1 = 1086 := by decide +kernel
theorem d_L_1086 : decode YL.2.1 1086 = .ok (.iadd, 1) ∧ 1086 + 1 = 1087 := by decide +kernel
theorem d_L_1087 : decode YL.2.1 1087 = .ok (.iaload, 1) ∧ 1087 + 1 = 1088 := by decide +kernel
theorem d_L_1088 : decode YL.2.1 1088 = .ok (.invokevirtual 91, 3) ∧ 1088 + 3 = 1091 := by decide +kernel
theorem d_L_1091 : decode YL.2.1 1091 = .ok (.pop, 1) ∧ 1091 + 1 = 1092 := by decide +kernel
theorem d_L_1092 : decode YL.2.1 1092 = .ok (.goto 2384, 3) ∧ ((1092 : Nat) : Int) + 2384 = ((3476 : Nat) : Int) ∧ 1092 + 3 = 1095 := by decide +kernel
theorem d_L_1095 : decode YL.2.1 1095 = .ok (.aload_n 1, 1) ∧ 1095 + 1 = 1096 := by decide +kernel
theorem d_L_1096 : decode YL.2.1 1096 = .ok (.aload_n 0, 1) ∧ 1096 + 1 = 1097 := by decide +kernel
theorem d_L_1097 : decode YL.2.1 1097 = .ok (.iload_n 3, 1) ∧ 1097 + 1 = 1098 := by decide +kernel
theorem d_L_1098 : decode YL.2.1 1098 = .ok (.iconst 1, 1) ∧ 1098 + 1 = 1099 := by decide +kernel
theorem d_L_1099 : decode YL.2.1 1099 = .ok (.iadd, 1) ∧ 1099 + 1 = 1100 := by decide +kernel
theorem d_L_1100 : decode YL.2.1 1100 = .ok (.iaload, 1) ∧ 1100 + 1 = 1101 := by decide +kernel
theorem d_L_1101 : decode YL.2.1 1101 = .ok (.aload_n 0, 1) ∧ 1101 + 1 = 1102 := by decide +kernel
theorem d_L_1102 : decode YL.2.1 1102 = .ok (.iload_n 3, 1) ∧ 1102 + 1 = 1103 := by decide +kernel
theorem d_L_1103 : decode YL.2.1 1103 = .ok (.iconst 2, 1) ∧ 1103 + 1 = 1104 := by decide +kernel
theorem d_L_1104 : decode YL.2.1 1104 = .ok (.iadd, 1) ∧ 1104 + 1 = 1105 := by decide +kernel
theorem d_L_1105 : decode YL.2.1 1105 = .ok (.iaload, 1) ∧ 1105 + 1 = 1106 := by decide +kernel
theorem d_L_1106 : decode YL.2.1 1106 = .ok (.invokevirtual 92, 3) ∧ 1106 + 3 = 1109 := by decide +kernel
theorem d_L_1109 : decode YL.2.1 1109 = .ok (.pop, 1) ∧ 1109 + 1 = 1110 := by decide +kernel
theorem d_L_1110 : decode YL.2.1 1110 = .ok (.aload_n 2, 1) ∧ 1110 + 1 = 1111 := by decide +kernel
theorem d_L_1111 : decode YL.2.1 1111 = .ok (.aload_n 0, 1) ∧ 1111 + 1 = 1112 := by decide +kernel
theorem d_L_1112 : decode YL.2.1 1112 = .ok (.iload_n 3, 1) ∧ 1112 + 1 = 1113 := by decide +kernel
theorem d_L_1113 : decode YL.2.1 1113 = .ok (.iconst 1, 1) ∧ 1113 + 1 = 1114 := by decide +kernel
theorem d_L_1114 : decode YL.2.1 1114 = .ok (.iadd, 1) ∧ 1114 + 1 = 1115 := by decide +kernel
theorem d_L_1115 : decode YL.2.1 1115 = .ok (.iaload, 1) ∧ 1115 + 1 = 1116 := by decide +kernel
theorem d_L_1116 : decode YL.2.1 1116 = .ok (.aload_n 0, 1) ∧ 1116 + 1 = 1117 := by decide +kernel
theorem d_L_1117 : decode YL.2.1 1117 = .ok (.iload_n 3, 1) ∧ 1117 + 1 = 1118 := by decide +kernel
theorem d_L_1118 : decode YL.2.1 1118 = .ok (.iconst 2, 1) ∧ 1118 + 1 = 1119 := by decide +kernel
theorem d_L_1119 : decode YL.2.1 1119 = .ok (.iadd, 1) ∧ 1119 + 1 = 1120 := by decide +kernel
theorem d_L_1120 : decode YL.2.1 1120 = .ok (.iaload, 1) ∧ 1120 + 1 = 1121 := by decide +kernel
theorem d_L_1121 : decode YL.2.1 1121 = .ok (.invokevirtual 95, 3) ∧ 1121 + 3 = 1124 := by decide +kernel
theorem d_L_1124 : decode YL.2.1 1124 = .ok (.pop, 1) ∧ 1124 + 1 = 1125 := by decide +kernel
theorem d_L_1125 : decode YL.2.1 1125 = .ok (.goto 2351, 3) ∧ ((1125 : Nat) : Int) + 2351 = ((3476 : Nat) : Int) ∧ 1125 + 3 = 1128 := by decide +kernel
theorem d_L_1128 : decode YL.2.1 1128 = .ok (.aload_n 1, 1) ∧ 1128 + 1 = 1129 := by decide +kernel
theorem d_L_1129 : decode YL.2.1 1129 = .ok (.aload_n 0, 1) ∧ 1129 + 1 = 1130 := by decide +kernel
theorem d_L_1130 : decode YL.2.1 1130 = .ok (.iload_n 3, 1) ∧ 1130 + 1 = 1131 := by decide +kernel
theorem d_L_1131 : decode YL.2.1 1131 = .ok (.iconst 1, 1) ∧ 1131 + 1 = 1132 := by decide +kernel
theorem d_L_1132 : decode YL.2.1 1132 = .ok (.iadd, 1) ∧ 1132 + 1 = 1133 := by decide +kernel
theorem d_L_1133 : decode YL.2.1 1133 = .ok (.iaload, 1) ∧ 1133 + 1 = 1134 := by decide +kernel
theorem d_L_1134 : decode YL.2.1 1134 = .ok (.aload_n 0, 1) ∧ 1134 + 1 = 1135 := by decide +kernel
theorem d_L_1135 : decode YL.2.1 1135 = .ok (.iload_n 3, 1) ∧ 1135 + 1 = 1136 := by decide +kernel
theorem d_L_1136 : decode YL.2.1 1136 = .ok (.iconst 2, 1) ∧ 1136 + 1 = 1137 := by decide +kernel
theorem d_L_1137 : decode YL.2.1 1137 = .ok (.iadd, 1) ∧ 1137 + 1 = 1138 := by decide +kernel
theorem d_L_1138 : decode YL.2.1 1138 = .ok (.iaload, 1) ∧ 1138 + 1 = 1139 := by decide +kernel
theorem d_L_1139 : decode YL.2.1 1139 = .ok (.invokevirtual 96, 3) ∧ 1139 + 3 = 1142 := by decide +kernel
theorem d_L_1142 : decode YL.2.1 1142 = .ok (.pop, 1) ∧ 1142 + 1 = 1143 := by decide +kernel
theorem d_L_1143 : decode YL.2.1 1143 = .ok (.aload_n 2, 1) ∧ 1143 + 1 = 1144 := by decide +kernel
theorem d_L_1144 : decode YL.2.1 1144 = .ok (.aload_n 0, 1) ∧ 1144 + 1 = 1145 := by decide +kernel
theorem d_L_1145 : decode YL.2.1 1145 = .ok (.iload_n 3, 1) ∧ 1145 + 1 = 1146 := by decide +kernel
theorem d_L_1146 : decode YL.2.1 1146 = .ok (.iconst 1, 1) ∧ 1146 + 1 = 1147 := by decide +kernel
theorem d_L_1147 : decode YL.2.1 1147 = .ok (.iadd, 1) ∧ 1147 + 1 = 1148 := by decide +kernel
theorem d_L_1148 : decode YL.2.1 1148 = .ok (.iaload, 1) ∧ 1148 + 1 = 1149 := by decide +kernel
theorem d_L_1149 : decode YL.2.1 1149 = .ok (.aload_n 0, 1) ∧ 1149 + 1 = 1150 := by decide +kernel
theorem d_L_1150 : decode YL.2.1 1150 = .ok (.iload_n 3, 1) ∧ 1150 + 1 = 1151 := by decide +kernel
theorem d_L_1151 : decode YL.2.1 1151 = .ok (.iconst 2, 1) ∧ 1151 + 1 = 1152 := by decide +kernel
theorem d_L_1152 : decode YL.2.1 1152 = .ok (.iadd, 1) ∧ 1152 + 1 = 1153 := by decide +kernel
theorem d_L_1153 : decode YL.2.1 1153 = .ok (.iaload, 1) ∧ 1153 + 1 = 1154 := by decide +kernel
theorem d_L_1154 : decode YL.2.1 1154 = .ok (.invokevirtual 99, 3) ∧ 1154 + 3 = 1157 := by decide +kernel
theorem d_L_1157 : decode YL.2.1 1157 = .ok (.pop, 1) ∧ 1157 + 1 = 1158 := by decide +kernel
theorem d_L_1158 : decode YL.2.1 1158 = .ok (.goto 2318, 3) ∧ ((1158 : Nat) : Int) + 2318 = ((3476 : Nat) : Int) ∧ 1158 + 3 = 1161 := by decide +kernel
theorem d_L_1161 : decode YL.2.1 1161 = .ok (.aload_n 1, 1) ∧ 1161 + 1 = 1162 := by decide +kernel
theorem d_L_1162 : decode YL.2.1 1162 = .ok (.aload_n 0, 1) ∧ 1162 + 1 = 1163 := by decide +kernel
theorem d_L_1163 : decode YL.2.1 1163 = .ok (.iload_n 3, 1) ∧ 1163 + 1 = 1164 := by decide +kernel
theorem d_L_1164 : decode YL.2.1 1164 = .ok (.iconst 1, 1) ∧ 1164 + 1 = 1165 := by decide +kernel
theorem d_L_1165 : decode YL.2.1 1165 = .ok (.iadd, 1) ∧ 1165 + 1 = 1166 := by decide +kernel
theorem d_L_1166 : decode YL.2.1 1166 = .ok (.iaload, 1) ∧ 1166 + 1 = 1167 := by decide +kernel
theorem d_L_1167 : decode YL.2.1 1167 = .ok (.aload_n 0, 1) ∧ 1167 + 1 = 1168 := by decide +kernel
theorem d_L_1168 : decode YL.2.1 1168 = .ok (.iload_n 3, 1) ∧ 1168 + 1 = 1169 := by decide +kernel
theorem d_L_1169 : decode YL.2.1 1169 = .ok (.iconst 2, 1) ∧ 1169 + 1 = 1170 := by decide +kernel
theorem d_L_1170 : decode YL.2.1 1170 = .ok (.iadd, 1) ∧ 1170 + 1 = 1171 := by decide +kernel
theorem d_L_1171 : decode YL.2.1 1171 = .ok (.iaload, 1) ∧ 1171 + 1 = 1172 := by decide +kernel
theorem d_L_1172 : decode YL.2.1 1172 = .ok (.aload_n 0, 1) ∧ 1172 + 1 = 1173 := by decide +kernel
theorem d_L_1173 : decode YL.2.1 1173 = .ok (.iload_n 3, 1) ∧ 1173 + 1 = 1174 := by decide +kernel
theorem d_L_1174 : decode YL.2.1 1174 = .ok (.iconst 3, 1) ∧ 1174 + 1 = 1175 := by decide +kernel
theorem d_L_1175 : decode YL.2.1 1175 = .ok (.iadd, 1) ∧ 1175 + 1 = 1176 := by decide +kernel
theorem d_L_1176 : decode YL.2.1 1176 = .ok (.iaload, 1) ∧ 1176 + 1 = 1177 := by decide +kernel
theorem d_L_1177 : decode YL.2.1 1177 = .ok (.ifCond .eq 7, 3) ∧ ((1177 : Nat) : Int) + 7 = ((1184 : Nat) : Int) ∧ 1177 + 3 = 1180 := by decide +kernel
theorem d_L_1180 : decode YL.2.1 1180 = .ok (.iconst 1, 1) ∧ 1180 + 1 = 1181 := by decide +kernel
theorem d_L_1181 : decode YL.2.1 1181 = .ok (.goto 4, 3) ∧ ((1181 : Nat) : Int) + 4 = ((1185 : Nat) : Int) ∧ 1181 + 3 = 1184 := by decide +kernel
theorem d_L_1184 : decode YL.2.1 1184 = .ok (.iconst 0, 1) ∧ 1184 + 1 = 1185 := by decide +kernel
theorem d_L_1185 : decode YL.2.1 1185 = .ok (.invokevirtual 100, 3) ∧ 1185 + 3 = 1188 := by decide +kernel
theorem d_L_1188 : decode YL.2.1 1188 = .ok (.pop, 1) ∧ 1188 + 1 = 1189 := by decide +kernel
theorem d_L_1189 : decode YL.2.1 1189 = .ok (.aload_n 2, 1) ∧ 1189 + 1 = 1190 := by decide +kernel
theorem d_L_1190 : decode YL.2.1 1190 = .ok (.aload_n 0, 1) ∧ 1190 + 1 = 1191 := by decide +kernel
theorem d_L_1191 : decode YL.2.1 1191 = .ok (.iload_n 3, 1) ∧ 1191 + 1 = 1192 := by decide +kernel
theorem d_L_1192 : decode YL.2.1 1192 = .ok (.iconst 1, 1) ∧ 1192 + 1 = 1193 := by decide +kernel
theorem d_L_1193 : decode YL.2.1 1193 = .ok (.iadd, 1) ∧ 1193 + 1 = 1194 := by decide +kernel
theorem d_L_1194 : decode YL.2.1 1194 = .ok (.iaload, 1) ∧ 1194 + 1 = 1195 := by decide +kernel
theorem d_L_1195 : decode YL.2.1 1195 = .ok (.aload_n 0, 1) ∧ 1195 + 1 = 1196 := by decide +kernel
theorem d_L_1196 : decode YL.2.1 1196 = .ok (.iload_n 3, 1) ∧ 1196 + 1 = 1197 := by decide +kernel
theorem d_L_1197 : decode YL.2.1 1197 = .ok (.iconst 2, 1) ∧ 1197 + 1 = 1198 := by decide +kernel
theorem d_L_1198 : decode YL.2.1 1198 = .ok (.iadd, 1) ∧ 1198 + 1 = 1199 := by decide +kernel
theorem d_L_1199 : decode YL.2.1 1199 = .ok (.iaload, 1) ∧ 1199 + 1 = 1200 := by decide +kernel
theorem d_L_1200 : decode YL.2.1 1200 = .ok (.aload_n 0, 1) ∧ 1200 + 1 = 1201 := by decide +kernel
theorem d_L_1201 : decode YL.2.1 1201 = .ok (.iload_n 3, 1) ∧ 1201 + 1 = 1202 := by decide +kernel
theorem d_L_1202 : decode YL.2.1 1202 = .ok (.iconst 3, 1) ∧ 1202 + 1 = 1203 := by decide +kernel
theorem d_L_1203 : decode YL.2.1 1203 = .ok (.iadd, 1) ∧ 1203 + 1 = 1204 := by decide +kernel
theorem d_L_1204 : decode YL.2.1 1204 = .ok (.iaload, 1) ∧ 1204 + 1 = 1205 := by decide +kernel
theorem d_L_1205 : decode YL.2.1 1205 = .ok (.ifCond .eq 7, 3) ∧ ((1205 : Nat) : Int) + 7 = ((1212 : Nat) : Int) ∧ 1205 + 3 = 1208 := by decide +kernel
theorem d_L_1208 : decode YL.2.1 1208 = .ok (.iconst 1, 1) ∧ 1208 + 1 = 1209 := by decide +kernel
theorem d_L_1209 : decode YL.2.1 1209 = .ok (.goto 4, 3) ∧ ((1209 : Nat) : Int) + 4 = ((1213 : Nat) : Int) ∧ 1209 + 3 = 1212 := by decide +kernel
theorem d_L_1212 : decode YL.2.1 1212 = .ok (.iconst 0, 1) ∧ 1212 + 1 = 1213 := by decide +kernel
theorem d_L_1213 : decode YL.2.1 1213 = .ok (.invokevirtual 104, 3) ∧ 1213 + 3 = 1216 := by decide +kernel
theorem d_L_1216 : decode YL.2.1 1216 = .ok (.pop, 1) ∧ 1216 + 1 = 1217 := by decide +kernel
theorem d_L_1217 : decode YL.2.1 1217 = .ok (.goto 2259, 3) ∧ ((1217 : Nat) : Int) + 2259 = ((3476 : Nat) : Int) ∧ 1217 + 3 = 1220 := by decide +kernel
theorem d_L_1220 : decode YL.2.1 1220 = .ok (.aload_n 1, 1) ∧ 1220 + 1 = 1221 := by decide +kernel
theorem d_L_1221 : decode YL.2.1 1221 = .ok (.aload_n 0, 1) ∧ 1221 + 1 = 1222 := by decide +kernel
theorem d_L_1222 : decode YL.2.1 1222 = .ok (.iload_n 3, 1) ∧ 1222 + 1 = 1223 := by decide +kernel
theorem d_L_1223 : decode YL.2.1 1223 = .ok (.iconst 1, 1) ∧ 1223 + 1 = 1224 := by decide +kernel
theorem d_L_1224 : decode YL.2.1 1224 = .ok (.iadd, 1) ∧ 1224 + 1 = 1225 := by decide +kernel
theorem d_L_1225 : decode YL.2.1 1225 = .ok (.iaload, 1) ∧ 1225 + 1 = 1226 := by decide +kernel
theorem d_L_1226 : decode YL.2.1 1226 = .ok (.aload_n 0, 1) ∧ 1226 + 1 = 1227 := by decide +kernel
theorem d_L_1227 : decode YL.2.1 1227 = .ok (.iload_n 3, 1) ∧ 1227 + 1 = 1228 := by decide +kernel
theorem d_L_1228 : decode YL.2.1 1228 = .ok (.iconst 2, 1) ∧ 1228 + 1 = 1229 := by decide +kernel
theorem d_L_1229 : decode YL.2.1 1229 = .ok (.iadd, 1) ∧ 1229 + 1 = 1230 := by decide +kernel
theorem d_L_1230 : decode YL.2.1 1230 = .ok (.iaload, 1) ∧ 1230 + 1 = 1231 := by decide +kernel
theorem d_L_1231 : decode YL.2.1 1231 = .ok (.invokevirtual 105, 3) ∧ 1231 + 3 = 1234 := by decide +kernel
theorem d_L_1234 : decode YL.2.1 1234 = .ok (.pop, 1) ∧ 1234 + 1 = 1235 := by decide +kernel
theorem d_L_1235 : decode YL.2.1 1235 = .ok (.aload_n 2, 1) ∧ 1235 + 1 = 1236 := by decide +kernel
theorem d_L_1236 : decode YL.2.1 1236 = .ok (.aload_n 0, 1) ∧ 1236 + 1 = 1237 := by decide +kernel
theorem d_L_1237 : decode YL.2.1 1237 = .ok (.iload_n 3, 1) ∧ 1237 + 1 = 1238 := by decide +kernel
theorem d_L_1238 : decode YL.2.1 1238 = .ok (.iconst 1, 1) ∧ 1238 + 1 = 1239 := by decide +kernel
theorem d_L_1239 : decode YL.2.1 1239 = .ok (.iadd, 1) ∧ 1239 + 1 = 1240 := by decide +kernel
theorem d_L_1240 : decode YL.2.1 1240 = .ok (.iaload, 1) ∧ 1240 + 1 = 1241 := by decide +kernel
theorem d_L_1241 : decode YL.2.1 1241 = .ok (.aload_n 0, 1) ∧ 1241 + 1 = 1242 := by decide +kernel
theorem d_L_1242 : decode YL.2.1 1242 = .ok (.iload_n 3, 1) ∧ 1242 + 1 = 1243 := by decide +kernel
theorem d_L_1243 : decode YL.2.1 1243 = .ok (.iconst 2, 1) ∧ 1243 + 1 = 1244 := by decide +kernel
theorem d_L_1244 : decode YL.2.1 1244 = .ok (.iadd, 1) ∧ 1244 + 1 = 1245 := by decide +kernel
theorem d_L_1245 : decode YL.2.1 1245 = .ok (.iaload, 1) ∧ 1245 + 1 = 1246 := by decide +kernel
theorem d_L_1246 : decode YL.2.1 1246 = .ok (.invokevirtual 108, 3) ∧ 1246 + 3 = 1249 := by decide +kernel
theorem d_L_1249 : decode YL.2.1 1249 = .ok (.pop, 1) ∧ 1249 + 1 = 1250 := by decide +kernel
theorem d_L_1250 : decode YL.2.1 1250 = .ok (.goto 2226, 3) ∧ ((1250 : Nat) : Int) + 2226 = ((3476 : Nat) : Int) ∧ 1250 + 3 = 1253 := by decide +kernel
theorem d_L_1253 : decode YL.2.1 1253 = .ok (.aload_n 1, 1) ∧ 1253 + 1 = 1254 := by decide +kernel
theorem d_L_1254 : decode YL.2.1 1254 = .ok (.aload_n 0, 1) ∧ 1254 + 1 = 1255 := by decide +kernel
theorem d_L_1255 : decode YL.2.1 1255 = .ok (.iload_n 3, 1) ∧ 1255 + 1 = 1256 := by decide +kernel
theorem d_L_1256 : decode YL.2.1 1256 = .ok (.iconst 1, 1) ∧ 1256 + 1 = 1257 := by decide +kernel
theorem d_L_1257 : decode YL.2.1 1257 = .ok (.iadd, 1) ∧ 1257 + 1 = 1258 := by decide +kernel
theorem d_L_1258 : decode YL.2.1 1258 = .ok (.iaload, 1) ∧ 1258 + 1 = 1259 := by decide +kernel
theorem d_L_1259 : decode YL.2.1 1259 = .ok (.invokevirtual 109, 3) ∧ 1259 + 3 = 1262 := by decide +kernel
theorem d_L_1262 : decode YL.2.1 1262 = .ok (.pop, 1) ∧ 1262 + 1 = 1263 := by decide +kernel
theorem d_L_1263 : decode YL.2.1 1263 = .ok (.aload_n 2, 1) ∧ 1263 + 1 = 1264 := by decide +kernel
theorem d_L_1264 : decode YL.2.1 1264 = .ok (.aload_n 0, 1) ∧ 1264 + 1 = 1265 := by decide +kernel
theorem d_L_1265 : decode YL.2.1 1265 = .ok (.iload_n 3, 1) ∧ 1265 + 1 = 1266 := by decide +kernel
theorem d_L_1266 : decode YL.2.1 1266 = .ok (.iconst 1, 1) ∧ 1266 + 1 = 1267 := by decide +kernel
theorem d_L_1267 : decode YL.2.1 1267 = .ok (.iadd, 1) ∧ 1267 + 1 = 1268 := by decide +kernel
theorem d_L_1268 : decode YL.2.1 1268 = .ok (.iaload, 1) ∧ 1268 + 1 = 1269 := by decide +kernel
theorem d_L_1269 : decode YL.2.1 1269 = .ok (.invokevirtual 112, 3) ∧ 1269 + 3 = 1272 := by decide +kernel
theorem d_L_1272 : decode YL.2.1 1272 = .ok (.pop, 1) ∧ 1272 + 1 = 1273 := by decide +kernel
theorem d_L_1273 : decode YL.2.1 1273 = .ok (.goto 2203, 3) ∧ ((1273 : Nat) : Int) + 2203 = ((3476 : Nat) : Int) ∧ 1273 + 3 = 1276 := by decide +kernel
theorem d_L_1276 : decode YL.2.1 1276 = .ok (.aload_n 1, 1) ∧ 1276 + 1 = 1277 := by decide +kernel
theorem d_L_1277 : decode YL.2.1 1277 = .ok (.aload_n 0, 1) ∧ 1277 + 1 = 1278 := by decide +kernel
theorem d_L_1278 : decode YL.2.1 1278 = .ok (.iload_n 3, 1) ∧ 1278 + 1 = 1279 := by decide +kernel
theorem d_L_1279 : decode YL.2.1 1279 = .ok (.iconst 1, 1) ∧ 1279 + 1 = 1280 := by decide +kernel
theorem d_L_1280 : decode YL.2.1 1280 = .ok (.iadd, 1) ∧ 1280 + 1 = 1281 := by decide +kernel
theorem d_L_1281 : decode YL.2.1 1281 = .ok (.iaload, 1) ∧ 1281 + 1 = 1282 := by decide +kernel
theorem d_L_1282 : decode YL.2.1 1282 = .ok (.invokevirtual 113, 3) ∧ 1282 + 3 = 1285 := by decide +kernel
theorem d_L_1285 : decode YL.2.1 1285 = .ok (.pop, 1) ∧ 1285 + 1 = 1286 := by decide +kernel
theorem d_L_1286 : decode YL.2.1 1286 = .ok (.aload_n 2, 1) ∧ 1286 + 1 = 1287 := by decide +kernel
theorem d_L_1287 : decode YL.2.1 1287 = .ok (.aload_n 0, 1) ∧ 1287 + 1 = 1288 := by decide +kernel
theorem d_L_1288 : decode YL.2.1 1288 = .ok (.iload_n 3, 1) ∧ 1288 + 1 = 1289 := by decide +kernel
theorem d_L_1289 : decode YL.2.1 1289 = .ok (.iconst 1, 1) ∧ 1289 + 1 = 1290 := by decide +kernel
theorem d_L_1290 : decode YL.2.1 1290 = .ok (.iadd, 1) ∧ 1290 + 1 = 1291 := by decide +kernel
theorem d_L_1291 : decode YL.2.1 1291 = .ok (.iaload, 1) ∧ 1291 + 1 = 1292 := by decide +kernel
theorem d_L_1292 : decode YL.2.1 1292 = .ok (.invokevirtual 116, 3) ∧ 1292 + 3 = 1295 := by decide +kernel
theorem d_L_1295 : decode YL.2.1 1295 = .ok (.pop, 1) ∧ 1295 + 1 = 1296 := by decide +kernel
theorem d_L_1296 : decode YL.2.1 1296 = .ok (.goto 2180, 3) ∧ ((1296 : Nat) : Int) + 2180 = ((3476 : Nat) : Int) ∧ 1296 + 3 = 1299 := by decide +kernel
theorem d_L_1299 : decode YL.2.1 1299 = .ok (.aload_n 1, 1) ∧ 1299 + 1 = 1300 := by decide +kernel
theorem d_L_1300 : decode YL.2.1 1300 = .ok (.aload_n 0, 1) ∧ 1300 + 1 = 1301 := by decide +kernel
theorem d_L_1301 : decode YL.2.1 1301 = .ok (.iload_n 3, 1) ∧ 1301 + 1 = 1302 := by decide +kernel
theorem d_L_1302 : decode YL.2.1 1302 = .ok (.iconst 1, 1) ∧ 1302 + 1 = 1303 := by decide +kernel
theorem d_L_1303 : decode YL.2.1 1303 = .ok (.iadd, 1) ∧ 1303 + 1 = 1304 := by decide +kernel
theorem d_L_1304 : decode YL.2.1 1304 = .ok (.iaload, 1) ∧ 1304 + 1 = 1305 := by decide +kernel
theorem d_L_1305 : decode YL.2.1 1305 = .ok (.invokevirtual 117, 3) ∧ 1305 + 3 = 1308 := by decide +kernel
theorem d_L_1308 : decode YL.2.1 1308 = .ok (.pop, 1) ∧ 1308 + 1 = 1309 := by decide +kernel
theorem d_L_1309 : decode YL.2.1 1309 = .ok (.aload_n 2, 1) ∧ 1309 + 1 = 1310 := by decide +kernel
theorem d_L_1310 : decode YL.2.1 1310 = .ok (.aload_n 0, 1) ∧ 1310 + 1 = 1311 := by decide +kernel
theorem d_L_1311 : decode YL.2.1 1311 = .ok (.iload_n 3, 1) ∧ 1311 + 1 = 1312 := by decide +kernel
theorem d_L_1312 : decode YL.2.1 1312 = .ok (.iconst 1, 1) ∧ 1312 + 1 = 1313 := by decide +kernel
theorem d_L_1313 : decode YL.2.1 1313 = .ok (.iadd, 1) ∧ 1313 + 1 = 1314 := by decide +kernel
theorem d_L_1314 : decode YL.2.1 1314 = .ok (.iaload, 1) ∧ 1314 + 1 = 1315 := by decide +kernel
theorem d_L_1315 : decode YL.2.1 1315 = .ok (.invokevirtual 120, 3) ∧ 1315 + 3 = 1318 := by decide +kernel
theorem d_L_1318 : decode YL.2.1 1318 = .ok (.pop, 1) ∧ 1318 + 1 = 1319 := by decide +kernel
theorem d_L_1319 : decode YL.2.1 1319 = .ok (.goto 2157, 3) ∧ ((1319 : Nat) : Int) + 2157 = ((3476 : Nat) : Int) ∧ 1319 + 3 = 1322 := by decide +kernel
theorem d_L_1322 : decode YL.2.1 1322 = .ok (.aload_n 1, 1) ∧ 1322 + 1 = 1323 := by decide +kernel
theorem d_L_1323 : decode YL.2.1 1323 = .ok (.aload_n 0, 1) ∧ 1323 + 1 = 1324 := by decide +kernel
theorem d_L_1324 : decode YL.2.1 1324 = .ok (.iload_n 3, 1) ∧ 1324 + 1 = 1325 := by decide +kernel
theorem d_L_1325 : decode YL.2.1 1325 = .ok (.iconst 1, 1) ∧ 1325 + 1 = 1326 := by decide +kernel
theorem d_L_1326 : decode YL.2.1 1326 = .ok (.iadd, 1) ∧ 1326 + 1 = 1327 := by decide +kernel
theorem d_L_1327 : decode YL.2.1 1327 = .ok (.iaload, 1) ∧ 1327 + 1 = 1328 := by decide +kernel
theorem d_L_1328 : decode YL.2.1 1328 = .ok (.aload_n 0, 1) ∧ 1328 + 1 = 1329 := by decide +kernel
theorem d_L_1329 : decode YL.2.1 1329 = .ok (.iload_n 3, 1) ∧ 1329 + 1 = 1330 := by decide +kernel
theorem d_L_1330 : decode YL.2.1 1330 = .ok (.iconst 2, 1) ∧ 1330 + 1 = 1331 := by decide +kernel
theorem d_L_1331 : decode YL.2.1 1331 = .ok (.iadd, 1) ∧ 1331 + 1 = 1332 := by decide +kernel
theorem d_L_1332 : decode YL.2.1 1332 = .ok (.iaload, 1) ∧ 1332 + 1 = 1333 := by decide +kernel
theorem d_L_1333 : decode YL.2.1 1333 = .ok (.aload_n 0, 1) ∧ 1333 + 1 = 1334 := by decide +kernel
theorem d_L_1334 : decode YL.2.1 1334 = .ok (.iload_n 3, 1) ∧ 1334 + 1 = 1335 := by decide +kernel
theorem d_L_1335 : decode YL.2.1 1335 = .ok (.iconst 3, 1) ∧ 1335 + 1 = 1336 := by decide +kernel
theorem d_L_1336 : decode YL.2.1 1336 = .ok (.iadd, 1) ∧ 1336 + 1 = 1337 := by decide +kernel
theorem d_L_1337 : decode YL.2.1 1337 = .ok (.iaload, 1) ∧ 1337 + 1 = 1338 := by decide +kernel
theorem d_L_1338 : decode YL.2.1 1338 = .ok (.invokevirtual 121, 3) ∧ 1338 + 3 = 1341 := by decide +kernel
theorem d_L_1341 : decode YL.2.1 1341 = .ok (.pop, 1) ∧ 1341 + 1 = 1342 := by decide +kernel
theorem d_L_1342 : decode YL.2.1 1342 = .ok (.aload_n 2, 1) ∧ 1342 + 1 = 1343 := by decide +kernel
theorem d_L_1343 : decode YL.2.1 1343 = .ok (.aload_n 0, 1) ∧ 1343 + 1 = 1344 := by decide +kernel
theorem d_L_1344 : decode YL.2.1 1344 = .ok (.iload_n 3, 1) ∧ 1344 + 1 = 1345 := by decide +kernel
theorem d_L_1345 : decode YL.2.1 1345 = .ok (.iconst 1, 1) ∧ 1345 + 1 = 1346 := by decide +kernel
theorem d_L_1346 : decode YL.2.1 1346 = .ok (.iadd, 1) ∧ 1346 + 1 = 1347 := by decide +kernel
theorem d_L_1347 : decode YL.2.1 1347 = .ok (.iaload, 1) ∧ 1347 + 1 = 1348 := by decide +kernel
theorem d_L_1348 : decode YL.2.1 1348 = .ok (.aload_n 0, 1) ∧ 1348 + 1 = 1349 := by decide +kernel
theorem d_L_1349 : decode YL.2.1 1349 = .ok (.iload_n 3, 1) ∧ 1349 + 1 = 1350 := by decide +kernel
theorem d_L_1350 : decode YL.2.1 1350 = .ok (.iconst 2, 1) ∧ 1350 + 1 = 1351 := by decide +kernel
theorem d_L_1351 : decode YL.2.1 1351 = .ok (.iadd, 1) ∧ 1351 + 1 = 1352 := by decide +kernel
theorem d_L_1352 : decode YL.2.1 1352 = .ok (.iaload, 1) ∧ 1352 + 1 = 1353 := by decide +kernel
theorem d_L_1353 : decode YL.2.1 1353 = .ok (.aload_n 0, 1) ∧ 1353 + 1 = 1354 := by decide +kernel
theorem d_L_1354 : decode YL.2.1 1354 = .ok (.iload_n 3, 1) ∧ 1354 + 1 = 1355 := by decide +kernel
theorem d_L_1355 : decode YL.2.1 1355 = .ok (.iconst 3, 1) ∧ 1355 + 1 = 1356 := by decide +kernel
theorem d_L_1356 : decode YL.2.1 1356 = .ok (.iadd, 1) ∧ 1356 + 1 = 1357 := by decide +kernel
theorem d_L_1357 : decode YL.2.1 1357 = .ok (.iaload, 1) ∧ 1357 + 1 = 1358 := by decide +kernel
theorem d_L_1358 : decode YL.2.1 1358 = .ok (.invokevirtual 125, 3) ∧ 1358 + 3 = 1361 := by decide +kernel
theorem d_L_1361 : decode YL.2.1 1361 = .ok (.pop, 1) ∧ 1361 + 1 = 1362 := by decide +kernel
theorem d_L_1362 : decode YL.2.1 1362 = .ok (.goto 2114, 3) ∧ ((1362 : Nat) : Int) + 2114 = ((3476 : Nat) : Int) ∧ 1362 + 3 = 1365 := by decide +kernel
theorem d_L_1365 : decode YL.2.1 1365 = .ok (.aload_n 1, 1) ∧ 1365 + 1 = 1366 := by decide +kernel
theorem d_L_1366 : decode YL.2.1 1366 = .ok (.aload_n 0, 1) ∧ 1366 + 1 = 1367 := by decide +kernel
theorem d_L_1367 : decode YL.2.1 1367 = .ok (.iload_n 3, 1) ∧ 1367 + 1 = 1368 := by decide +kernel
theorem d_L_1368 : decode YL.2.1 1368 = .ok (.iconst 1, 1) ∧ 1368 + 1 = 1369 := by decide +kernel
theorem d_L_1369 : decode YL.2.1 1369 = .ok (.iadd, 1) ∧ 1369 + 1 = 1370 := by decide +kernel
theorem d_L_1370 : decode YL.2.1 1370 = .ok (.iaload, 1) ∧ 1370 + 1 = 1371 := by decide +kernel
theorem d_L_1371 : decode YL.2.1 1371 = .ok (.aload_n 0, 1) ∧ 1371 + 1 = 1372 := by decide +kernel
theorem d_L_1372 : decode YL.2.1 1372 = .ok (.iload_n 3, 1) ∧ 1372 + 1 = 1373 := by decide +kernel
theorem d_L_1373 : decode YL.2.1 1373 = .ok (.iconst 2, 1) ∧ 1373 + 1 = 1374 := by decide +kernel
theorem d_L_1374 : decode YL.2.1 1374 = .ok (.iadd, 1) ∧ 1374 + 1 = 1375 := by decide +kernel
theorem d_L_1375 : decode YL.2.1 1375 = .ok (.iaload, 1) ∧ 1375 + 1 = 1376 := by decide +kernel
theorem d_L_1376 : decode YL.2.1 1376 = .ok (.aload_n 0, 1) ∧ 1376 + 1 = 1377 := by decide +kernel
theorem d_L_1377 : decode YL.2.1 1377 = .ok (.iload_n 3, 1) ∧ 1377 + 1 = 1378 := by decide +kernel
theorem d_L_1378 : decode YL.2.1 1378 = .ok (.iconst 3, 1) ∧ 1378 + 1 = 1379 := by decide +kernel
theorem d_L_1379 : decode YL.2.1 1379 = .ok (.iadd, 1) ∧ 1379 + 1 = 1380 := by decide +kernel
theorem d_L_1380 : decode YL.2.1 1380 = .ok (.iaload, 1) ∧ 1380 + 1 = 1381 := by decide +kernel
theorem d_L_1381 : decode YL.2.1 1381 = .ok (.aload_n 0, 1) ∧ 1381 + 1 = 1382 := by decide +kernel
theorem d_L_1382 : decode YL.2.1 1382 = .ok (.iload_n 3, 1) ∧ 1382 + 1 = 1383 := by decide +kernel
theorem d_L_1383 : decode YL.2.1 1383 = .ok (.iconst 4, 1) ∧ 1383 + 1 = 1384 := by decide +kernel
theorem d_L_1384 : decode YL.2.1 1384 = .ok (.iadd, 1) ∧ 1384 + 1 = 1385 := by decide +kernel
theorem d_L_1385 : decode YL.2.1 1385 = .ok (.iaload, 1) ∧ 1385 + 1 = 1386 := by decide +kernel
theorem d_L_1386 : decode YL.2.1 1386 = .ok (.aload_n 0, 1) ∧ 1386 + 1 = 1387 := by decide +kernel
theorem d_L_1387 : decode YL.2.1 1387 = .ok (.iload_n 3, 1) ∧ 1387 + 1 = 1388 := by decide +kernel
theorem d_L_1388 : decode YL.2.1 1388 = .ok (.iconst 5, 1) ∧ 1388 + 1 = 1389 := by decide +kernel
theorem d_L_1389 : decode YL.2.1 1389 = .ok (.iadd, 1) ∧ 1389 + 1 = 1390 := by decide +kernel
theorem d_L_1390 : decode YL.2.1 1390 = .ok (.iaload, 1) ∧ 1390 + 1 = 1391 := by decide +kernel
theorem d_L_1391 : decode YL.2.1 1391 = .ok (.invokevirtual 126, 3) ∧ 1391 + 3 = 1394 := by decide +kernel
theorem d_L_1394 : decode YL.2.1 1394 = .ok (.pop, 1) ∧ 1394 + 1 = 1395 := by decide +kernel
theorem d_L_1395 : decode YL.2.1 1395 = .ok (.aload_n 2, 1) ∧ 1395 + 1 = 1396 := by decide +kernel
theorem d_L_1396 : decode YL.2.1 1396 = .ok (.aload_n 0, 1) ∧ 1396 + 1 = 1397 := by decide +kernel
theorem d_L_1397 : decode YL.2.1 1397 = .ok (.iload_n 3, 1) ∧ 1397 + 1 = 1398 := by decide +kernel
theorem d_L_1398 : decode YL.2.1 1398 = .ok (.iconst 1, 1) ∧ 1398 + 1 = 1399 := by decide +kernel
theorem d_L_1399 : decode YL.2.1 1399 = .ok (.iadd, 1) ∧ 1399 + 1 = 1400 := by decide +kernel
theorem d_L_1400 : decode YL.2.1 1400 = .ok (.iaload, 1) ∧ 1400 + 1 = 1401 := by decide +kernel
theorem d_L_1401 : decode YL.2.1 1401 = .ok (.aload_n 0, 1) ∧ 1401 + 1 = 1402 := by decide +kernel
theorem d_L_1402 : decode YL.2.1 1402 = .ok (.iload_n 3, 1) ∧ 1402 + 1 = 1403 := by decide +kernel
theorem d_L_1403 : decode YL.2.1 1403 = .ok (.iconst 2, 1) ∧ 1403 + 1 = 1404 := by decide +kernel
theorem d_L_1404 : decode YL.2.1 1404 = .ok (.iadd, 1) ∧ 1404 + 1 = 1405 := by decide +kernel
theorem d_L_1405 : decode YL.2.1 1405 = .ok (.iaload, 1) ∧ 1405 + 1 = 1406 := by decide +kernel

theorem d_Law_law_830 : decode code 830 = .ok (.iconst 0, 1) := by decide +kernel
theorem d_Law_law_831 : decode code 831 = .ok (.ireturn, 1) := by decide +kernel
theorem d_Law_law_832 : decode code 832 = .ok (.aload_n 1, 1) := by decide +kernel
theorem d_Law_law_833 : decode code 833 = .ok (.aload_n 0, 1) := by decide +kernel
theorem d_Law_law_834 : decode code 834 = .ok (.iload_n 3, 1) := by decide +kernel
theorem d_Law_law_835 : decode code 835 = .ok (.iconst 1, 1) := by decide +kernel
theorem d_Law_law_836 : decode code 836 = .ok (.iadd, 1) := by decide +kernel
theorem d_Law_law_837 : decode code 837 = .ok (.iaload, 1) := by decide +kernel
theorem d_Law_law_838 : decode code 838 = .ok (.aload_n 0, 1) := by decide +kernel
theorem d_Law_law_839 : decode code 839 = .ok (.iload_n 3, 1) := by decide +kernel
theorem d_Law_law_840 : decode code 840 = .ok (.iconst 2, 1) := by decide +kernel
theorem d_Law_law_841 : decode code 841 = .ok (.iadd, 1) := by decide +kernel
theorem d_Law_law_842 : decode code 842 = .ok (.iaload, 1) := by decide +kernel
theorem d_Law_law_843 : decode code 843 = .ok (.invokevirtual 96, 3) := by decide +kernel
theorem d_Law_law_846 : decode code 846 = .ok (.aload_n 2, 1) := by decide +kernel
theorem d_Law_law_847 : decode code 847 = .ok (.aload_n 0, 1) := by decide +kernel
theorem d_Law_law_848 : decode code 848 = .ok (.iload_n 3, 1) := by decide +kernel
theorem d_Law_law_849 : decode code 849 = .ok (.iconst 1, 1) := by decide +kernel
theorem d_Law_law_850 : decode code 850 = .ok (.iadd, 1) := by decide +kernel
theorem d_Law_law_851 : decode code 851 = .ok (.iaload, 1) := by decide +kernel
theorem d_Law_law_852 : decode code 852 = .ok (.aload_n 0, 1) := by decide +kernel
theorem d_Law_law_853 : decode code 853 = .ok (.iload_n 3, 1) := by decide +kernel
theorem d_Law_law_854 : decode code 854 = .ok (.iconst 2, 1) := by decide +kernel
theorem d_Law_law_855 : decode code 855 = .ok (.iadd, 1) := by decide +kernel
theorem d_Law_law_856 : decode code 856 = .ok (.iaload, 1) := by decide +kernel
theorem d_Law_law_857 : decode code 857 = .ok (.invokevirtual 99, 3) := by decide +kernel
theorem d_Law_law_860 : decode code 860 = .ok (.if_icmp .eq 606, 3) := by decide +kernel
theorem d_Law_law_863 : decode code 863 = .ok (.iconst 0, 1) := by decide +kernel
theorem d_Law_law_864 : decode code 864 = .ok (.ireturn, 1) := by decide +kernel
theorem d_Law_law_865 : decode code 865 = .ok (.aload_n 1, 1) := by decide +kernel
theorem d_Law_law_866 : decode code 866 = .ok (.aload_n 0, 1) := by decide +kernel
theorem d_Law_law_867 : decode code 867 = .ok (.iload_n 3, 1) := by decide +kernel
theorem d_Law_law_868 : decode code 868 = .ok (.iconst 1, 1) := by decide +kernel
theorem d_Law_law_869 : decode code 869 = .ok (.iadd, 1) := by decide +kernel
theorem d_Law_law_870 : decode code 870 = .ok (.iaload, 1) := by decide +kernel
theorem d_Law_law_871 : decode code 871 = .ok (.aload_n 0, 1) := by decide +kernel
theorem d_Law_law_872 : decode code 872 = .ok (.iload_n 3, 1) := by decide +kernel
theorem d_Law_law_873 : decode code 873 = .ok (.iconst 2, 1) := by decide +kernel
theorem d_Law_law_874 : decode code 874 = .ok (.iadd, 1) := by decide +kernel
theorem d_Law_law_875 : decode code 875 = .ok (.iaload, 1) := by decide +kernel
theorem d_Law_law_876 : decode code 876 = .ok (.invokevirtual 100, 3) := by decide +kernel
theorem d_Law_law_879 : decode code 879 = .ok (.aload_n 2, 1) := by decide +kernel
theorem d_Law_law_880 : decode code 880 = .ok (.aload_n 0, 1) := by decide +kernel
theorem d_Law_law_881 : decode code 881 = .ok (.iload_n 3, 1) := by decide +kernel
theorem d_Law_law_882 : decode code 882 = .ok (.iconst 1, 1) := by decide +kernel
theorem d_Law_law_883 : decode code 883 = .ok (.iadd, 1) := by decide +kernel
theorem d_Law_law_884 : decode code 884 = .ok (.iaload, 1) := by decide +kernel
theorem d_Law_law_885 : decode code 885 = .ok (.aload_n 0, 1) := by decide +kernel
theorem d_Law_law_886 : decode code 886 = .ok (.iload_n 3, 1) := by decide +kernel
theorem d_Law_law_887 : decode code 887 = .ok (.iconst 2, 1) := by decide +kernel
theorem d_Law_law_888 : decode code 888 = .ok (.iadd, 1) := by decide +kernel
theorem d_Law_law_889 : decode code 889 = .ok (.iaload, 1) := by decide +kernel
theorem d_Law_law_890 : decode code 890 = .ok (.invokevirtual 103, 3) := by decide +kernel
theorem d_Law_law_893 : decode code 893 = .ok (.if_icmp .eq 573, 3) := by decide +kernel
theorem d_Law_law_896 : decode code 896 = .ok (.iconst 0, 1) := by decide +kernel
theorem d_Law_law_897 : decode code 897 = .ok (.ireturn, 1) := by decide +kernel
theorem d_Law_law_898 : decode code 898 = .ok (.aload_n 1, 1) := by decide +kernel
theorem d_Law_law_899 : decode code 899 = .ok (.aload_n 0, 1) := by decide +kernel
theorem d_Law_law_900 : decode code 900 = .ok (.iload_n 3, 1) := by decide +kernel
theorem d_Law_law_901 : decode code 901 = .ok (.iconst 1, 1) := by decide +kernel
theorem d_Law_law_902 : decode code 902 = .ok (.iadd, 1) := by decide +kernel
theorem d_Law_law_903 : decode code 903 = .ok (.iaload, 1) := by decide +kernel
theorem d_Law_law_904 : decode code 904 = .ok (.aload_n 0, 1) := by decide +kernel
theorem d_Law_law_905 : decode code 905 = .ok (.iload_n 3, 1) := by decide +kernel
theorem d_Law_law_906 : decode code 906 = .ok (.iconst 2, 1) := by decide +kernel
theorem d_Law_law_907 : decode code 907 = .ok (.iadd, 1) := by decide +kernel
theorem d_Law_law_908 : decode code 908 = .ok (.iaload, 1) := by decide +kernel
theorem d_Law_law_909 : decode code 909 = .ok (.invokevirtual 104, 3) := by decide +kernel
theorem d_Law_law_912 : decode code 912 = .ok (.aload_n 2, 1) := by decide +kernel
theorem d_Law_law_913 : decode code 913 = .ok (.aload_n 0, 1) := by decide +kernel
theorem d_Law_law_914 : decode code 914 = .ok (.iload_n 3, 1) := by decide +kernel
theorem d_Law_law_915 : decode code 915 = .ok (.iconst 1, 1) := by decide +kernel
theorem d_Law_law_916 : decode code 916 = .ok (.iadd, 1) := by decide +kernel
theorem d_Law_law_917 : decode code 917 = .ok (.iaload, 1) := by decide +kernel
theorem d_Law_law_918 : decode code 918 = .ok (.aload_n 0, 1) := by decide +kernel
theorem d_Law_law_919 : decode code 919 = .ok (.iload_n 3, 1) := by decide +kernel
theorem d_Law_law_920 : decode code 920 = .ok (.iconst 2, 1) := by decide +kernel
theorem d_Law_law_921 : decode code 921 = .ok (.iadd, 1) := by decide +kernel
theorem d_Law_law_922 : decode code 922 = .ok (.iaload, 1) := by decide +kernel
theorem d_Law_law_923 : decode code 923 = .ok (.invokevirtual 107, 3) := by decide +kernel
theorem d_Law_law_926 : decode code 926 = .ok (.if_icmp .eq 540, 3) := by decide +kernel
theorem d_Law_law_929 : decode code 929 = .ok (.iconst 0, 1) := by decide +kernel
theorem d_Law_law_930 : decode code 930 = .ok (.ireturn, 1) := by decide +kernel
theorem d_Law_law_931 : decode code 931 = .ok (.aload_n 1, 1) := by decide +kernel
theorem d_Law_law_932 : decode code 932 = .ok (.aload_n 0, 1) := by decide +kernel
theorem d_Law_law_933 : decode code 933 = .ok (.iload_n 3, 1) := by decide +kernel
theorem d_Law_law_934 : decode code 934 = .ok (.iconst 1, 1) := by decide +kernel
theorem d_Law_law_935 : decode code 935 = .ok (.iadd, 1) := by decide +kernel
theorem d_Law_law_936 : decode code 936 = .ok (.iaload, 1) := by decide +kernel
theorem d_Law_law_937 : decode code 937 = .ok (.aload_n 0, 1) := by decide +kernel
theorem d_Law_law_938 : decode code 938 = .ok (.iload_n 3, 1) := by decide +kernel
theorem d_Law_law_939 : decode code 939 = .ok (.iconst 2, 1) := by decide +kernel
theorem d_Law_law_940 : decode code 940 = .ok (.iadd, 1) := by decide +kernel
theorem d_Law_law_941 : decode code 941 = .ok (.iaload, 1) := by decide +kernel
theorem d_Law_law_942 : decode code 942 = .ok (.invokevirtual 108, 3) := by decide +kernel
theorem d_Law_law_945 : decode code 945 = .ok (.aload_n 2, 1) := by decide +kernel
theorem d_Law_law_946 : decode code 946 = .ok (.aload_n 0, 1) := by decide +kernel
theorem d_Law_law_947 : decode code 947 = .ok (.iload_n 3, 1) := by decide +kernel
theorem d_Law_law_948 : decode code 948 = .ok (.iconst 1, 1) := by decide +kernel
theorem d_Law_law_949 : decode code 949 = .ok (.iadd, 1) := by decide +kernel
theorem d_Law_law_950 : decode code 950 = .ok (.iaload, 1) := by decide +kernel
theorem d_Law_law_951 : decode code 951 = .ok (.aload_n 0, 1) := by decide +kernel
theorem d_Law_law_952 : decode code 952 = .ok (.iload_n 3, 1) := by decide +kernel
theorem d_Law_law_953 : decode code 953 = .ok (.iconst 2, 1) := by decide +kernel
theorem d_Law_law_954 : decode code 954 = .ok (.iadd, 1) := by decide +kernel
theorem d_Law_law_955 : decode code 955 = .ok (.iaload, 1) := by decide +kernel
theorem d_Law_law_956 : decode code 956 = .ok (.invokevirtual 111, 3) := by decide +kernel
theorem d_Law_law_959 : decode code 959 = .ok (.if_icmp .eq 507, 3) := by decide +kernel
theorem d_Law_law_962 : decode code 962 = .ok (.iconst 0, 1) := by decide +kernel
theorem d_Law_law_963 : decode code 963 = .ok (.ireturn, 1) := by decide +kernel
theorem d_Law_law_964 : decode code 964 = .ok (.aload_n 1, 1) := by decide +kernel
theorem d_Law_law_965 : decode code 965 = .ok (.aload_n 0, 1) := by decide +kernel
theorem d_Law_law_966 : decode code 966 = .ok (.iload_n 3, 1) := by decide +kernel
theorem d_Law_law_967 : decode code 967 = .ok (.iconst 1, 1) := by decide +kernel
theorem d_Law_law_968 : decode code 968 = .ok (.iadd, 1) := by decide +kernel
theorem d_Law_law_969 : decode code 969 = .ok (.iaload, 1) := by decide +kernel
theorem d_Law_law_970 : decode code 970 = .ok (.aload_n 0, 1) := by decide +kernel
theorem d_Law_law_971 : decode code 971 = .ok (.iload_n 3, 1) := by decide +kernel
theorem d_Law_law_972 : decode code 972 = .ok (.iconst 2, 1) := by decide +kernel
theorem d_Law_law_973 : decode code 973 = .ok (.iadd, 1) := by decide +kernel
theorem d_Law_law_974 : decode code 974 = .ok (.iaload, 1) := by decide +kernel
theorem d_Law_law_975 : decode code 975 = .ok (.invokevirtual 112, 3) := by decide +kernel
theorem d_Law_law_978 : decode code 978 = .ok (.aload_n 2, 1) := by decide +kernel
theorem d_Law_law_979 : decode code 979 = .ok (.aload_n 0, 1) := by decide +kernel
theorem d_Law_law_980 : decode code 980 = .ok (.iload_n 3, 1) := by decide +kernel
theorem d_Law_law_981 : decode code 981 = .ok (.iconst 1, 1) := by decide +kernel
theorem d_Law_law_982 : decode code 982 = .ok (.iadd, 1) := by decide +kernel
theorem d_Law_law_983 : decode code 983 = .ok (.iaload, 1) := by decide +kernel
theorem d_Law_law_984 : decode code 984 = .ok (.aload_n 0, 1) := by decide +kernel
theorem d_Law_law_985 : decode code 985 = .ok (.iload_n 3, 1) := by decide +kernel
theorem d_Law_law_986 : decode code 986 = .ok (.iconst 2, 1) := by decide +kernel
theorem d_Law_law_987 : decode code 987 = .ok (.iadd, 1) := by decide +kernel
theorem d_Law_law_988 : decode code 988 = .ok (.iaload, 1) := by decide +kernel
theorem d_Law_law_989 : decode code 989 = .ok (.invokevirtual 115, 3) := by decide +kernel
theorem d_Law_law_992 : decode code 992 = .ok (.if_icmp .eq 474, 3) := by decide +kernel
theorem d_Law_law_995 : decode code 995 = .ok (.iconst 0, 1) := by decide +kernel
theorem d_Law_law_996 : decode code 996 = .ok (.ireturn, 1) := by decide +kernel
theorem d_Law_law_997 : decode code 997 = .ok (.aload_n 1, 1) := by decide +kernel
theorem d_Law_law_998 : decode code 998 = .ok (.aload_n 0, 1) := by decide +kernel
theorem d_Law_law_999 : decode code 999 = .ok (.iload_n 3, 1) := by decide +kernel
theorem d_Law_law_1000 : decode code 1000 = .ok (.iconst 1, 1) := by decide +kernel
theorem d_Law_law_1001 : decode code 1001 = .ok (.iadd, 1) := by decide +kernel
theorem d_Law_law_1002 : decode code 1002 = .ok (.iaload, 1) := by decide +kernel
theorem d_Law_law_1003 : decode code 1003 = .ok (.invokevirtual 116, 3) := by decide +kernel
theorem d_Law_law_1006 : decode code 1006 = .ok (.aload_n 2, 1) := by decide +kernel
theorem d_Law_law_1007 : decode code 1007 = .ok (.aload_n 0, 1) := by decide +kernel
theorem d_Law_law_1008 : decode code 1008 = .ok (.iload_n 3, 1) := by decide +kernel
theorem d_Law_law_1009 : decode code 1009 = .ok (.iconst 1, 1) := by decide +kernel
theorem d_Law_law_1010 : decode code 1010 = .ok (.iadd, 1) := by decide +kernel
theorem d_Law_law_1011 : decode code 1011 = .ok (.iaload, 1) := by decide +kernel
theorem d_Law_law_1012 : decode code 1012 = .ok (.invokevirtual 119, 3) := by decide +kernel
theorem d_Law_law_1015 : decode code 1015 = .ok (.if_icmp .eq 451, 3) := by decide +kernel
theorem d_Law_law_1018 : decode code 1018 = .ok (.iconst 0, 1) := by decide +kernel
theorem d_Law_law_1019 : decode code 1019 = .ok (.ireturn, 1) := by decide +kernel
theorem d_Law_law_1020 : decode code 1020 = .ok (.aload_n 1, 1) := by decide +kernel
theorem d_Law_law_1021 : decode code 1021 = .ok (.aload_n 0, 1) := by decide +kernel
theorem d_Law_law_1022 : decode code 1022 = .ok (.iload_n 3, 1) := by decide +kernel
theorem d_Law_law_1023 : decode code 1023 = .ok (.iconst 1, 1) := by decide +kernel
theorem d_Law_law_1024 : decode code 1024 = .ok (.iadd, 1) := by decide +kernel
theorem d_Law_law_1025 : decode code 1025 = .ok (.iaload, 1) := by decide +kernel
theorem d_Law_law_1026 : decode code 1026 = .ok (.aload_n 0, 1) := by decide +kernel
theorem d_Law_law_1027 : decode code 1027 = .ok (.iload_n 3, 1) := by decide +kernel
theorem d_Law_law_1028 : decode code 1028 = .ok (.iconst 2, 1) := by decide +kernel
theorem d_Law_law_1029 : decode code 1029 = .ok (.iadd, 1) := by decide +kernel
theorem d_Law_law_1030 : decode code 1030 = .ok (.iaload, 1) := by decide +kernel
theorem d_Law_law_1031 : decode code 1031 = .ok (.invokevirtual 120, 3) := by decide +kernel
theorem d_Law_law_1034 : decode code 1034 = .ok (.aload_n 2, 1) := by decide +kernel
theorem d_Law_law_1035 : decode code 1035 = .ok (.aload_n 0, 1) := by decide +kernel
theorem d_Law_law_1036 : decode code 1036 = .ok (.iload_n 3, 1) := by decide +kernel
theorem d_Law_law_1037 : decode code 1037 = .ok (.iconst 1, 1) := by decide +kernel
theorem d_Law_law_1038 : decode code 1038 = .ok (.iadd, 1) := by decide +kernel
theorem d_Law_law_1039 : decode code 1039 = .ok (.iaload, 1) := by decide +kernel
theorem d_Law_law_1040 : decode code 1040 = .ok (.aload_n 0, 1) := by decide +kernel
theorem d_Law_law_1041 : decode code 1041 = .ok (.iload_n 3, 1) := by decide +kernel
theorem d_Law_law_1042 : decode code 1042 = .ok (.iconst 2, 1) := by decide +kernel
theorem d_Law_law_1043 : decode code 1043 = .ok (.iadd, 1) := by decide +kernel
theorem d_Law_law_1044 : decode code 1044 = .ok (.iaload, 1) := by decide +kernel
theorem d_Law_law_1045 : decode code 1045 = .ok (.invokevirtual 123, 3) := by decide +kernel
theorem d_Law_law_1048 : decode code 1048 = .ok (.if_icmp .eq 418, 3) := by decide +kernel
theorem d_Law_law_1051 : decode code 1051 = .ok (.iconst 0, 1) := by decide +kernel
theorem d_Law_law_1052 : decode code 1052 = .ok (.ireturn, 1) := by decide +kernel
theorem d_Law_law_1053 : decode code 1053 = .ok (.aload_n 1, 1) := by decide +kernel
theorem d_Law_law_1054 : decode code 1054 = .ok (.aload_n 0, 1) := by decide +kernel
theorem d_Law_law_1055 : decode code 1055 = .ok (.iload_n 3, 1) := by decide +kernel
theorem d_Law_law_1056 : decode code 1056 = .ok (.iconst 1, 1) := by decide +kernel
theorem d_Law_law_1057 : decode code 1057 = .ok (.iadd, 1) := by decide +kernel
theorem d_Law_law_1058 : decode code 1058 = .ok (.iaload, 1) := by decide +kernel
theorem d_Law_law_1059 : decode code 1059 = .ok (.aload_n 0, 1) := by decide +kernel
theorem d_Law_law_1060 : decode code 1060 = .ok (.iload_n 3, 1) := by decide +kernel
theorem d_Law_law_1061 : decode code 1061 = .ok (.iconst 2, 1) := by decide +kernel
theorem d_Law_law_1062 : decode code 1062 = .ok (.iadd, 1) := by decide +kernel
theorem d_Law_law_1063 : decode code 1063 = .ok (.iaload, 1) := by decide +kernel
theorem d_Law_law_1064 : decode code 1064 = .ok (.invokevirtual 124, 3) := by decide +kernel
theorem d_Law_law_1067 : decode code 1067 = .ok (.aload_n 2, 1) := by decide +kernel
theorem d_Law_law_1068 : decode code 1068 = .ok (.aload_n 0, 1) := by decide +kernel
theorem d_Law_law_1069 : decode code 1069 = .ok (.iload_n 3, 1) := by decide +kernel
theorem d_Law_law_1070 : decode code 1070 = .ok (.iconst 1, 1) := by decide +kernel
theorem d_Law_law_1071 : decode code 1071 = .ok (.iadd, 1) := by decide +kernel
theorem d_Law_law_1072 : decode code 1072 = .ok (.iaload, 1) := by decide +kernel
theorem d_Law_law_1073 : decode code 1073 = .ok (.aload_n 0, 1) := by decide +kernel
theorem d_Law_law_1074 : decode code 1074 = .ok (.iload_n 3, 1) := by decide +kernel
theorem d_Law_law_1075 : decode code 1075 = .ok (.iconst 2, 1) := by decide +kernel
theorem d_Law_law_1076 : decode code 1076 = .ok (.iadd, 1) := by decide +kernel
theorem d_Law_law_1077 : decode code 1077 = .ok (.iaload, 1) := by decide +kernel
theorem d_Law_law_1078 : decode code 1078 = .ok (.invokevirtual 127, 3) := by decide +kernel
theorem d_Law_law_1081 : decode code 1081 = .ok (.if_icmp .eq 385, 3) := by decide +kernel
theorem d_Law_law_1084 : decode code 1084 = .ok (.iconst 0, 1) := by decide +kernel
theorem d_Law_law_1085 : decode code 1085 = .ok (.ireturn, 1) := by decide +kernel
theorem d_Law_law_1086 : decode code 1086 = .ok (.aload_n 1, 1) := by decide +kernel
theorem d_Law_law_1087 : decode code 1087 = .ok (.invokevirtual 128, 3) := by decide +kernel
theorem d_Law_law_1090 : decode code 1090 = .ok (.aload_n 2, 1) := by decide +kernel
theorem d_Law_law_1091 : decode code 1091 = .ok (.invokevirtual 132, 3) := by decide +kernel
theorem d_Law_law_1094 : decode code 1094 = .ok (.if_icmp .eq 372, 3) := by decide +kernel
theorem d_Law_law_1097 : decode code 1097 = .ok (.iconst 0, 1) := by decide +kernel
theorem d_Law_law_1098 : decode code 1098 = .ok (.ireturn, 1) := by decide +kernel
theorem d_Law_law_1099 : decode code 1099 = .ok (.aload_n 1, 1) := by decide +kernel
theorem d_Law_law_1100 : decode code 1100 = .ok (.invokevirtual 133, 3) := by decide +kernel
theorem d_Law_law_1103 : decode code 1103 = .ok (.aload_n 2, 1) := by decide +kernel
theorem d_Law_law_1104 : decode code 1104 = .ok (.invokevirtual 136, 3) := by decide +kernel
theorem d_Law_law_1107 : decode code 1107 = .ok (.if_icmp .eq 359, 3) := by decide +kernel
theorem d_Law_law_1110 : decode code 1110 = .ok (.iconst 0, 1) := by decide +kernel
theorem d_Law_law_1111 : decode code 1111 = .ok (.ireturn, 1) := by decide +kernel
theorem d_Law_law_1112 : decode code 1112 = .ok (.aload_n 1, 1) := by decide +kernel
theorem d_Law_law_1113 : decode code 1113 = .ok (.aload_n 0, 1) := by decide +kernel
theorem d_Law_law_1114 : decode code 1114 = .ok (.iload_n 3, 1) := by decide +kernel
theorem d_Law_law_1115 : decode code 1115 = .ok (.iconst 1, 1) := by decide +kernel
theorem d_Law_law_1116 : decode code 1116 = .ok (.iadd, 1) := by decide +kernel
theorem d_Law_law_1117 : decode code 1117 = .ok (.iaload, 1) := by decide +kernel
theorem d_Law_law_1118 : decode code 1118 = .ok (.aload_n 0, 1) := by decide +kernel
theorem d_Law_law_1119 : decode code 1119 = .ok (.iload_n 3, 1) := by decide +kernel
theorem d_Law_law_1120 : decode code 1120 = .ok (.iconst 2, 1) := by decide +kernel
theorem d_Law_law_1121 : decode code 1121 = .ok (.iadd, 1) := by decide +kernel
theorem d_Law_law_1122 : decode code 1122 = .ok (.iaload, 1) := by decide +kernel
theorem d_Law_law_1123 : decode code 1123 = .ok (.aload_n 0, 1) := by decide +kernel
theorem d_Law_law_1124 : decode code 1124 = .ok (.iload_n 3, 1) := by decide +kernel
theorem d_Law_law_1125 : decode code 1125 = .ok (.iconst 3, 1) := by decide +kernel
theorem d_Law_law_1126 : decode code 1126 = .ok (.iadd, 1) := by decide +kernel
theorem d_Law_law_1127 : decode code 1127 = .ok (.iaload, 1) := by decide +kernel
theorem d_Law_law_1128 : decode code 1128 = .ok (.invokevirtual 137, 3) := by decide +kernel
theorem d_Law_law_1131 : decode code 1131 = .ok (.aload_n 2, 1) := by decide +kernel
theorem d_Law_law_1132 : decode code 1132 = .ok (.aload_n 0, 1) := by decide +kernel
theorem d_Law_law_1133 : decode code 1133 = .ok (.iload_n 3, 1) := by decide +kernel
theorem d_Law_law_1134 : decode code 1134 = .ok (.iconst 1, 1) := by decide +kernel
theorem d_Law_law_1135 : decode code 1135 = .ok (.iadd, 1) := by decide +kernel
theorem d_Law_law_1136 : decode code 1136 = .ok (.iaload, 1) := by decide +kernel
theorem d_Law_law_1137 : decode code 1137 = .ok (.aload_n 0, 1) := by decide +kernel
theorem d_Law_law_1138 : decode code 1138 = .ok (.iload_n 3, 1) := by decide +kernel
theorem d_Law_law_1139 : decode code 1139 = .ok (.iconst 2, 1) := by decide +kernel
theorem d_Law_law_1140 : decode code 1140 = .ok (.iadd, 1) := by decide +kernel
theorem d_Law_law_1141 : decode code 1141 = .ok (.iaload, 1) := by decide +kernel
theorem d_Law_law_1142 : decode code 1142 = .ok (.aload_n 0, 1) := by decide +kernel
theorem d_Law_law_1143 : decode code 1143 = .ok (.iload_n 3, 1) := by decide +kernel
theorem d_Law_law_1144 : decode code 1144 = .ok (.iconst 3, 1) := by decide +kernel
theorem d_Law_law_1145 : decode code 1145 = .ok (.iadd, 1) := by decide +kernel
theorem d_Law_law_1146 : decode code 1146 = .ok (.iaload, 1) := by decide +kernel
theorem d_Law_law_1147 : decode code 1147 = .ok (.invokevirtual 140, 3) := by decide +kernel
theorem d_Law_law_1150 : decode code 1150 = .ok (.if_icmp .eq 316, 3) := by decide +kernel
theorem d_Law_law_1153 : decode code 1153 = .ok (.iconst 0, 1) := by decide +kernel
theorem d_Law_law_1154 : decode code 1154 = .ok (.ireturn, 1) := by decide +kernel
theorem d_Law_law_1155 : decode code 1155 = .ok (.aload_n 1, 1) := by decide +kernel

/-! THE LAW: its instructions. -/
theorem dl_776 : decode code 776 = .ok (.iadd, 1) := by decide +kernel
theorem dl_777 : decode code 777 = .ok (.iaload, 1) := by decide +kernel
theorem dl_778 : decode code 778 = .ok (.aload_n 0, 1) := by decide +kernel
theorem dl_779 : decode code 779 = .ok (.iload_n 3, 1) := by decide +kernel
theorem dl_780 : decode code 780 = .ok (.iconst 3, 1) := by decide +kernel
theorem dl_781 : decode code 781 = .ok (.iadd, 1) := by decide +kernel
theorem dl_782 : decode code 782 = .ok (.iaload, 1) := by decide +kernel
theorem dl_783 : decode code 783 = .ok (.invokevirtual 95, 3) := by decide +kernel
theorem dl_786 : decode code 786 = .ok (.if_icmp .eq 585, 3) := by decide +kernel
theorem dl_789 : decode code 789 = .ok (.iconst 0, 1) := by decide +kernel
theorem dl_790 : decode code 790 = .ok (.ireturn, 1) := by decide +kernel
theorem dl_791 : decode code 791 = .ok (.aload_n 1, 1) := by decide +kernel
theorem dl_792 : decode code 792 = .ok (.aload_n 0, 1) := by decide +kernel
theorem dl_793 : decode code 793 = .ok (.iload_n 3, 1) := by decide +kernel
theorem dl_794 : decode code 794 = .ok (.iconst 1, 1) := by decide +kernel
theorem dl_795 : decode code 795 = .ok (.iadd, 1) := by decide +kernel
theorem dl_796 : decode code 796 = .ok (.iaload, 1) := by decide +kernel
theorem dl_797 : decode code 797 = .ok (.aload_n 0, 1) := by decide +kernel
theorem dl_798 : decode code 798 = .ok (.iload_n 3, 1) := by decide +kernel
theorem dl_799 : decode code 799 = .ok (.iconst 2, 1) := by decide +kernel
theorem dl_800 : decode code 800 = .ok (.iadd, 1) := by decide +kernel
theorem dl_801 : decode code 801 = .ok (.iaload, 1) := by decide +kernel
theorem dl_802 : decode code 802 = .ok (.invokevirtual 96, 3) := by decide +kernel
theorem dl_805 : decode code 805 = .ok (.aload_n 2, 1) := by decide +kernel
theorem dl_806 : decode code 806 = .ok (.aload_n 0, 1) := by decide +kernel
theorem dl_807 : decode code 807 = .ok (.iload_n 3, 1) := by decide +kernel
theorem dl_808 : decode code 808 = .ok (.iconst 1, 1) := by decide +kernel
theorem dl_809 : decode code 809 = .ok (.iadd, 1) := by decide +kernel
theorem dl_810 : decode code 810 = .ok (.iaload, 1) := by decide +kernel
theorem dl_811 : decode code 811 = .ok (.aload_n 0, 1) := by decide +kernel
theorem dl_812 : decode code 812 = .ok (.iload_n 3, 1) := by decide +kernel
theorem dl_813 : decode code 813 = .ok (.iconst 2, 1) := by decide +kernel
theorem dl_814 : decode code 814 = .ok (.iadd, 1) := by decide +kernel
theorem dl_815 : decode code 815 = .ok (.iaload, 1) := by decide +kernel
theorem dl_816 : decode code 816 = .ok (.invokevirtual 99, 3) := by decide +kernel
theorem dl_819 : decode code 819 = .ok (.if_icmp .eq 552, 3) := by decide +kernel
theorem dl_822 : decode code 822 = .ok (.iconst 0, 1) := by decide +kernel
theorem dl_823 : decode code 823 = .ok (.ireturn, 1) := by decide +kernel
theorem dl_824 : decode code 824 = .ok (.aload_n 1, 1) := by decide +kernel
theorem dl_825 : decode code 825 = .ok (.aload_n 0, 1) := by decide +kernel
theorem dl_826 : decode code 826 = .ok (.iload_n 3, 1) := by decide +kernel
theorem dl_827 : decode code 827 = .ok (.iconst 1, 1) := by decide +kernel
theorem dl_828 : decode code 828 = .ok (.iadd, 1) := by decide +kernel
theorem dl_829 : decode code 829 = .ok (.iaload, 1) := by decide +kernel
theorem dl_830 : decode code 830 = .ok (.aload_n 0, 1) := by decide +kernel
theorem dl_831 : decode code 831 = .ok (.iload_n 3, 1) := by decide +kernel
theorem dl_832 : decode code 832 = .ok (.iconst 2, 1) := by decide +kernel
theorem dl_833 : decode code 833 = .ok (.iadd, 1) := by decide +kernel
theorem dl_834 : decode code 834 = .ok (.iaload, 1) := by decide +kernel
theorem dl_835 : decode code 835 = .ok (.invokevirtual 100, 3) := by decide +kernel
theorem dl_838 : decode code 838 = .ok (.aload_n 2, 1) := by decide +kernel
theorem dl_839 : decode code 839 = .ok (.aload_n 0, 1) := by decide +kernel
theorem dl_840 : decode code 840 = .ok (.iload_n 3, 1) := by decide +kernel
theorem dl_841 : decode code 841 = .ok (.iconst 1, 1) := by decide +kernel
theorem dl_842 : decode code 842 = .ok (.iadd, 1) := by decide +kernel
theorem dl_843 : decode code 843 = .ok (.iaload, 1) := by decide +kernel
theorem dl_844 : decode code 844 = .ok (.aload_n 0, 1) := by decide +kernel
theorem dl_845 : decode code 845 = .ok (.iload_n 3, 1) := by decide +kernel
theorem dl_846 : decode code 846 = .ok (.iconst 2, 1) := by decide +kernel
theorem dl_847 : decode code 847 = .ok (.iadd, 1) := by decide +kernel
theorem dl_848 : decode code 848 = .ok (.iaload, 1) := by decide +kernel
theorem dl_849 : decode code 849 = .ok (.invokevirtual 103, 3) := by decide +kernel
theorem dl_852 : decode code 852 = .ok (.if_icmp .eq 519, 3) := by decide +kernel
theorem dl_855 : decode code 855 = .ok (.iconst 0, 1) := by decide +kernel
theorem dl_856 : decode code 856 = .ok (.ireturn, 1) := by decide +kernel
theorem dl_857 : decode code 857 = .ok (.aload_n 1, 1) := by decide +kernel
theorem dl_858 : decode code 858 = .ok (.aload_n 0, 1) := by decide +kernel
theorem dl_859 : decode code 859 = .ok (.iload_n 3, 1) := by decide +kernel
theorem dl_860 : decode code 860 = .ok (.iconst 1, 1) := by decide +kernel
theorem dl_861 : decode code 861 = .ok (.iadd, 1) := by decide +kernel
theorem dl_862 : decode code 862 = .ok (.iaload, 1) := by decide +kernel
theorem dl_863 : decode code 863 = .ok (.aload_n 0, 1) := by decide +kernel
theorem dl_864 : decode code 864 = .ok (.iload_n 3, 1) := by decide +kernel
theorem dl_865 : decode code 865 = .ok (.iconst 2, 1) := by decide +kernel
theorem dl_866 : decode code 866 = .ok (.iadd, 1) := by decide +kernel
theorem dl_867 : decode code 867 = .ok (.iaload, 1) := by decide +kernel
theorem dl_868 : decode code 868 = .ok (.invokevirtual 104, 3) := by decide +kernel
theorem dl_871 : decode code 871 = .ok (.aload_n 2, 1) := by decide +kernel
theorem dl_872 : decode code 872 = .ok (.aload_n 0, 1) := by decide +kernel
theorem dl_873 : decode code 873 = .ok (.iload_n 3, 1) := by decide +kernel
theorem dl_874 : decode code 874 = .ok (.iconst 1, 1) := by decide +kernel
theorem dl_875 : decode code 875 = .ok (.iadd, 1) := by decide +kernel
theorem dl_876 : decode code 876 = .ok (.iaload, 1) := by decide +kernel
theorem dl_877 : decode code 877 = .ok (.aload_n 0, 1) := by decide +kernel
theorem dl_878 : decode code 878 = .ok (.iload_n 3, 1) := by decide +kernel
theorem dl_879 : decode code 879 = .ok (.iconst 2, 1) := by decide +kernel
theorem dl_880 : decode code 880 = .ok (.iadd, 1) := by decide +kernel
theorem dl_881 : decode code 881 = .ok (.iaload, 1) := by decide +kernel
theorem dl_882 : decode code 882 = .ok (.invokevirtual 107, 3) := by decide +kernel
theorem dl_885 : decode code 885 = .ok (.if_icmp .eq 486, 3) := by decide +kernel
theorem dl_888 : decode code 888 = .ok (.iconst 0, 1) := by decide +kernel
theorem dl_889 : decode code 889 = .ok (.ireturn, 1) := by decide +kernel
theorem dl_890 : decode code 890 = .ok (.aload_n 1, 1) := by decide +kernel
theorem dl_891 : decode code 891 = .ok (.aload_n 0, 1) := by decide +kernel
theorem dl_892 : decode code 892 = .ok (.iload_n 3, 1) := by decide +kernel
theorem dl_893 : decode code 893 = .ok (.iconst 1, 1) := by decide +kernel
theorem dl_894 : decode code 894 = .ok (.iadd, 1) := by decide +kernel
theorem dl_895 : decode code 895 = .ok (.iaload, 1) := by decide +kernel
theorem dl_896 : decode code 896 = .ok (.invokevirtual 108, 3) := by decide +kernel
theorem dl_899 : decode code 899 = .ok (.aload_n 2, 1) := by decide +kernel
theorem dl_900 : decode code 900 = .ok (.aload_n 0, 1) := by decide +kernel
theorem dl_901 : decode code 901 = .ok (.iload_n 3, 1) := by decide +kernel
theorem dl_902 : decode code 902 = .ok (.iconst 1, 1) := by decide +kernel
theorem dl_903 : decode code 903 = .ok (.iadd, 1) := by decide +kernel
theorem dl_904 : decode code 904 = .ok (.iaload, 1) := by decide +kernel
theorem dl_905 : decode code 905 = .ok (.invokevirtual 111, 3) := by decide +kernel
theorem dl_908 : decode code 908 = .ok (.if_icmp .eq 463, 3) := by decide +kernel
theorem dl_911 : decode code 911 = .ok (.iconst 0, 1) := by decide +kernel
theorem dl_912 : decode code 912 = .ok (.ireturn, 1) := by decide +kernel
theorem dl_913 : decode code 913 = .ok (.aload_n 1, 1) := by decide +kernel
theorem dl_914 : decode code 914 = .ok (.aload_n 0, 1) := by decide +kernel
theorem dl_915 : decode code 915 = .ok (.iload_n 3, 1) := by decide +kernel
theorem dl_916 : decode code 916 = .ok (.iconst 1, 1) := by decide +kernel
theorem dl_917 : decode code 917 = .ok (.iadd, 1) := by decide +kernel
theorem dl_918 : decode code 918 = .ok (.iaload, 1) := by decide +kernel
theorem dl_919 : decode code 919 = .ok (.invokevirtual 112, 3) := by decide +kernel
theorem dl_922 : decode code 922 = .ok (.aload_n 2, 1) := by decide +kernel
theorem dl_923 : decode code 923 = .ok (.aload_n 0, 1) := by decide +kernel
theorem dl_924 : decode code 924 = .ok (.iload_n 3, 1) := by decide +kernel
theorem dl_925 : decode code 925 = .ok (.iconst 1, 1) := by decide +kernel
theorem dl_926 : decode code 926 = .ok (.iadd, 1) := by decide +kernel
theorem dl_927 : decode code 927 = .ok (.iaload, 1) := by decide +kernel
theorem dl_928 : decode code 928 = .ok (.invokevirtual 115, 3) := by decide +kernel
theorem dl_931 : decode code 931 = .ok (.if_icmp .eq 440, 3) := by decide +kernel
theorem dl_934 : decode code 934 = .ok (.iconst 0, 1) := by decide +kernel
theorem dl_935 : decode code 935 = .ok (.ireturn, 1) := by decide +kernel
theorem dl_936 : decode code 936 = .ok (.aload_n 1, 1) := by decide +kernel
theorem dl_937 : decode code 937 = .ok (.aload_n 0, 1) := by decide +kernel
theorem dl_938 : decode code 938 = .ok (.iload_n 3, 1) := by decide +kernel
theorem dl_939 : decode code 939 = .ok (.iconst 1, 1) := by decide +kernel
theorem dl_940 : decode code 940 = .ok (.iadd, 1) := by decide +kernel
theorem dl_941 : decode code 941 = .ok (.iaload, 1) := by decide +kernel
theorem dl_942 : decode code 942 = .ok (.invokevirtual 116, 3) := by decide +kernel
theorem dl_945 : decode code 945 = .ok (.aload_n 2, 1) := by decide +kernel
theorem dl_946 : decode code 946 = .ok (.aload_n 0, 1) := by decide +kernel
theorem dl_947 : decode code 947 = .ok (.iload_n 3, 1) := by decide +kernel
theorem dl_948 : decode code 948 = .ok (.iconst 1, 1) := by decide +kernel
theorem dl_949 : decode code 949 = .ok (.iadd, 1) := by decide +kernel
theorem dl_950 : decode code 950 = .ok (.iaload, 1) := by decide +kernel
theorem dl_951 : decode code 951 = .ok (.invokevirtual 119, 3) := by decide +kernel
theorem dl_954 : decode code 954 = .ok (.if_icmp .eq 417, 3) := by decide +kernel
theorem dl_957 : decode code 957 = .ok (.iconst 0, 1) := by decide +kernel
theorem dl_958 : decode code 958 = .ok (.ireturn, 1) := by decide +kernel
theorem dl_959 : decode code 959 = .ok (.aload_n 1, 1) := by decide +kernel
theorem dl_960 : decode code 960 = .ok (.aload_n 0, 1) := by decide +kernel
theorem dl_961 : decode code 961 = .ok (.iload_n 3, 1) := by decide +kernel
theorem dl_962 : decode code 962 = .ok (.iconst 1, 1) := by decide +kernel
theorem dl_963 : decode code 963 = .ok (.iadd, 1) := by decide +kernel
theorem dl_964 : decode code 964 = .ok (.iaload, 1) := by decide +kernel
theorem dl_965 : decode code 965 = .ok (.invokevirtual 120, 3) := by decide +kernel
theorem dl_968 : decode code 968 = .ok (.aload_n 2, 1) := by decide +kernel
theorem dl_969 : decode code 969 = .ok (.aload_n 0, 1) := by decide +kernel
theorem dl_970 : decode code 970 = .ok (.iload_n 3, 1) := by decide +kernel
theorem dl_971 : decode code 971 = .ok (.iconst 1, 1) := by decide +kernel
theorem dl_972 : decode code 972 = .ok (.iadd, 1) := by decide +kernel
theorem dl_973 : decode code 973 = .ok (.iaload, 1) := by decide +kernel
theorem dl_974 : decode code 974 = .ok (.invokevirtual 123, 3) := by decide +kernel
theorem dl_977 : decode code 977 = .ok (.if_icmp .eq 394, 3) := by decide +kernel
theorem dl_980 : decode code 980 = .ok (.iconst 0, 1) := by decide +kernel
theorem dl_981 : decode code 981 = .ok (.ireturn, 1) := by decide +kernel
theorem dl_982 : decode code 982 = .ok (.aload_n 1, 1) := by decide +kernel
theorem dl_983 : decode code 983 = .ok (.aload_n 0, 1) := by decide +kernel
theorem dl_984 : decode code 984 = .ok (.iload_n 3, 1) := by decide +kernel
theorem dl_985 : decode code 985 = .ok (.iconst 1, 1) := by decide +kernel
theorem dl_986 : decode code 986 = .ok (.iadd, 1) := by decide +kernel
theorem dl_987 : decode code 987 = .ok (.iaload, 1) := by decide +kernel
theorem dl_988 : decode code 988 = .ok (.aload_n 0, 1) := by decide +kernel
theorem dl_989 : decode code 989 = .ok (.iload_n 3, 1) := by decide +kernel
theorem dl_990 : decode code 990 = .ok (.iconst 2, 1) := by decide +kernel
theorem dl_991 : decode code 991 = .ok (.iadd, 1) := by decide +kernel
theorem dl_992 : decode code 992 = .ok (.iaload, 1) := by decide +kernel
theorem dl_993 : decode code 993 = .ok (.aload_n 0, 1) := by decide +kernel
theorem dl_994 : decode code 994 = .ok (.iload_n 3, 1) := by decide +kernel
theorem dl_995 : decode code 995 = .ok (.iconst 3, 1) := by decide +kernel
theorem dl_996 : decode code 996 = .ok (.iadd, 1) := by decide +kernel
theorem dl_997 : decode code 997 = .ok (.iaload, 1) := by decide +kernel
theorem dl_998 : decode code 998 = .ok (.invokevirtual 124, 3) := by decide +kernel
theorem dl_1001 : decode code 1001 = .ok (.aload_n 2, 1) := by decide +kernel
theorem dl_1002 : decode code 1002 = .ok (.aload_n 0, 1) := by decide +kernel
theorem dl_1003 : decode code 1003 = .ok (.iload_n 3, 1) := by decide +kernel
theorem dl_1004 : decode code 1004 = .ok (.iconst 1, 1) := by decide +kernel
theorem dl_1005 : decode code 1005 = .ok (.iadd, 1) := by decide +kernel
theorem dl_1006 : decode code 1006 = .ok (.iaload, 1) := by decide +kernel
theorem dl_1007 : decode code 1007 = .ok (.aload_n 0, 1) := by decide +kernel
theorem dl_1008 : decode code 1008 = .ok (.iload_n 3, 1) := by decide +kernel
theorem dl_1009 : decode code 1009 = .ok (.iconst 2, 1) := by decide +kernel
theorem dl_1010 : decode code 1010 = .ok (.iadd, 1) := by decide +kernel
theorem dl_1011 : decode code 1011 = .ok (.iaload, 1) := by decide +kernel
theorem dl_1012 : decode code 1012 = .ok (.aload_n 0, 1) := by decide +kernel
theorem dl_1013 : decode code 1013 = .ok (.iload_n 3, 1) := by decide +kernel
theorem dl_1014 : decode code 1014 = .ok (.iconst 3, 1) := by decide +kernel
theorem dl_1015 : decode code 1015 = .ok (.iadd, 1) := by decide +kernel
theorem dl_1016 : decode code 1016 = .ok (.iaload, 1) := by decide +kernel
theorem dl_1017 : decode code 1017 = .ok (.invokevirtual 127, 3) := by decide +kernel
theorem dl_1020 : decode code 1020 = .ok (.if_icmp .eq 351, 3) := by decide +kernel
theorem dl_1023 : decode code 1023 = .ok (.iconst 0, 1) := by decide +kernel
theorem dl_1024 : decode code 1024 = .ok (.ireturn, 1) := by decide +kernel
theorem dl_1025 : decode code 1025 = .ok (.aload_n 1, 1) := by decide +kernel
theorem dl_1026 : decode code 1026 = .ok (.aload_n 0, 1) := by decide +kernel
theorem dl_1027 : decode code 1027 = .ok (.iload_n 3, 1) := by decide +kernel
theorem dl_1028 : decode code 1028 = .ok (.iconst 1, 1) := by decide +kernel
theorem dl_1029 : decode code 1029 = .ok (.iadd, 1) := by decide +kernel
theorem dl_1030 : decode code 1030 = .ok (.iaload, 1) := by decide +kernel
theorem dl_1031 : decode code 1031 = .ok (.invokevirtual 128, 3) := by decide +kernel
theorem dl_1034 : decode code 1034 = .ok (.aload_n 2, 1) := by decide +kernel
theorem dl_1035 : decode code 1035 = .ok (.aload_n 0, 1) := by decide +kernel
theorem dl_1036 : decode code 1036 = .ok (.iload_n 3, 1) := by decide +kernel
theorem dl_1037 : decode code 1037 = .ok (.iconst 1, 1) := by decide +kernel
theorem dl_1038 : decode code 1038 = .ok (.iadd, 1) := by decide +kernel
theorem dl_1039 : decode code 1039 = .ok (.iaload, 1) := by decide +kernel
theorem dl_1040 : decode code 1040 = .ok (.invokevirtual 131, 3) := by decide +kernel
theorem dl_1043 : decode code 1043 = .ok (.if_icmp .eq 328, 3) := by decide +kernel
theorem dl_1046 : decode code 1046 = .ok (.iconst 0, 1) := by decide +kernel
theorem dl_1047 : decode code 1047 = .ok (.ireturn, 1) := by decide +kernel
theorem dl_1048 : decode code 1048 = .ok (.aload_n 1, 1) := by decide +kernel
theorem dl_1049 : decode code 1049 = .ok (.aload_n 0, 1) := by decide +kernel
theorem dl_1050 : decode code 1050 = .ok (.iload_n 3, 1) := by decide +kernel
theorem dl_1051 : decode code 1051 = .ok (.iconst 1, 1) := by decide +kernel
theorem dl_1052 : decode code 1052 = .ok (.iadd, 1) := by decide +kernel
theorem dl_1053 : decode code 1053 = .ok (.iaload, 1) := by decide +kernel
theorem dl_1054 : decode code 1054 = .ok (.aload_n 0, 1) := by decide +kernel
theorem dl_1055 : decode code 1055 = .ok (.iload_n 3, 1) := by decide +kernel
theorem dl_1056 : decode code 1056 = .ok (.iconst 2, 1) := by decide +kernel
theorem dl_1057 : decode code 1057 = .ok (.iadd, 1) := by decide +kernel
theorem dl_1058 : decode code 1058 = .ok (.iaload, 1) := by decide +kernel
theorem dl_1059 : decode code 1059 = .ok (.aload_n 0, 1) := by decide +kernel
theorem dl_1060 : decode code 1060 = .ok (.iload_n 3, 1) := by decide +kernel
theorem dl_1061 : decode code 1061 = .ok (.iconst 3, 1) := by decide +kernel
theorem dl_1062 : decode code 1062 = .ok (.iadd, 1) := by decide +kernel
theorem dl_1063 : decode code 1063 = .ok (.iaload, 1) := by decide +kernel
theorem dl_1064 : decode code 1064 = .ok (.invokevirtual 132, 3) := by decide +kernel
theorem dl_1067 : decode code 1067 = .ok (.aload_n 2, 1) := by decide +kernel
theorem dl_1068 : decode code 1068 = .ok (.aload_n 0, 1) := by decide +kernel
theorem dl_1069 : decode code 1069 = .ok (.iload_n 3, 1) := by decide +kernel
theorem dl_1070 : decode code 1070 = .ok (.iconst 1, 1) := by decide +kernel
theorem dl_1071 : decode code 1071 = .ok (.iadd, 1) := by decide +kernel
theorem dl_1072 : decode code 1072 = .ok (.iaload, 1) := by decide +kernel
theorem dl_1073 : decode code 1073 = .ok (.aload_n 0, 1) := by decide +kernel
theorem dl_1074 : decode code 1074 = .ok (.iload_n 3, 1) := by decide +kernel

/-! the law's instructions (wip/gen/gen_law96.py) -/
theorem d197_752 : ins 197 752 = some (.iconst 3) := by decide +kernel
theorem d197_753 : ins 197 753 = some (.iadd) := by decide +kernel
theorem d197_754 : ins 197 754 = some (.iaload) := by decide +kernel
theorem d197_755 : ins 197 755 = some (.invokevirtual 104) := by decide +kernel
theorem d197_758 : ins 197 758 = some (.aload_n 2) := by decide +kernel
theorem d197_759 : ins 197 759 = some (.aload_n 0) := by decide +kernel
theorem d197_760 : ins 197 760 = some (.iload_n 3) := by decide +kernel
theorem d197_761 : ins 197 761 = some (.iconst 1) := by decide +kernel
theorem d197_762 : ins 197 762 = some (.iadd) := by decide +kernel
theorem d197_763 : ins 197 763 = some (.iaload) := by decide +kernel
theorem d197_764 : ins 197 764 = some (.aload_n 0) := by decide +kernel
theorem d197_765 : ins 197 765 = some (.iload_n 3) := by decide +kernel
theorem d197_766 : ins 197 766 = some (.iconst 2) := by decide +kernel
theorem d197_767 : ins 197 767 = some (.iadd) := by decide +kernel
theorem d197_768 : ins 197 768 = some (.iaload) := by decide +kernel
theorem d197_769 : ins 197 769 = some (.aload_n 0) := by decide +kernel
theorem d197_770 : ins 197 770 = some (.iload_n 3) := by decide +kernel
theorem d197_771 : ins 197 771 = some (.iconst 3) := by decide +kernel
theorem d197_772 : ins 197 772 = some (.iadd) := by decide +kernel
theorem d197_773 : ins 197 773 = some (.iaload) := by decide +kernel
theorem d197_774 : ins 197 774 = some (.invokevirtual 107) := by decide +kernel
theorem d197_777 : ins 197 777 = some (.if_icmp .eq 265) := by decide +kernel
theorem d197_780 : ins 197 780 = some (.iconst 0) := by decide +kernel
theorem d197_781 : ins 197 781 = some (.ireturn) := by decide +kernel
theorem d197_782 : ins 197 782 = some (.aload_n 1) := by decide +kernel
theorem d197_783 : ins 197 783 = some (.aload_n 0) := by decide +kernel
theorem d197_784 : ins 197 784 = some (.iload_n 3) := by decide +kernel
theorem d197_785 : ins 197 785 = some (.iconst 1) := by decide +kernel
theorem d197_786 : ins 197 786 = some (.iadd) := by decide +kernel
theorem d197_787 : ins 197 787 = some (.iaload) := by decide +kernel
theorem d197_788 : ins 197 788 = some (.aload_n 0) := by decide +kernel
theorem d197_789 : ins 197 789 = some (.iload_n 3) := by decide +kernel
theorem d197_790 : ins 197 790 = some (.iconst 2) := by decide +kernel
theorem d197_791 : ins 197 791 = some (.iadd) := by decide +kernel
theorem d197_792 : ins 197 792 = some (.iaload) := by decide +kernel
theorem d197_793 : ins 197 793 = some (.aload_n 0) := by decide +kernel
theorem d197_794 : ins 197 794 = some (.iload_n 3) := by decide +kernel
theorem d197_795 : ins 197 795 = some (.iconst 3) := by decide +kernel
theorem d197_796 : ins 197 796 = some (.iadd) := by decide +kernel
theorem d197_797 : ins 197 797 = some (.iaload) := by decide +kernel
theorem d197_798 : ins 197 798 = some (.aload_n 0) := by decide +kernel
theorem d197_799 : ins 197 799 = some (.iload_n 3) := by decide +kernel
theorem d197_800 : ins 197 800 = some (.iconst 4) := by decide +kernel
theorem d197_801 : ins 197 801 = some (.iadd) := by decide +kernel
theorem d197_802 : ins 197 802 = some (.iaload) := by decide +kernel
theorem d197_803 : ins 197 803 = some (.invokevirtual 108) := by decide +kernel
theorem d197_806 : ins 197 806 = some (.aload_n 2) := by decide +kernel
theorem d197_807 : ins 197 807 = some (.aload_n 0) := by decide +kernel
theorem d197_808 : ins 197 808 = some (.iload_n 3) := by decide +kernel
theorem d197_809 : ins 197 809 = some (.iconst 1) := by decide +kernel
theorem d197_810 : ins 197 810 = some (.iadd) := by decide +kernel
theorem d197_811 : ins 197 811 = some (.iaload) := by decide +kernel
theorem d197_812 : ins 197 812 = some (.aload_n 0) := by decide +kernel
theorem d197_813 : ins 197 813 = some (.iload_n 3) := by decide +kernel
theorem d197_814 : ins 197 814 = some (.iconst 2) := by decide +kernel
theorem d197_815 : ins 197 815 = some (.iadd) := by decide +kernel
theorem d197_816 : ins 197 816 = some (.iaload) := by decide +kernel
theorem d197_817 : ins 197 817 = some (.aload_n 0) := by decide +kernel
theorem d197_818 : ins 197 818 = some (.iload_n 3) := by decide +kernel
theorem d197_819 : ins 197 819 = some (.iconst 3) := by decide +kernel
theorem d197_820 : ins 197 820 = some (.iadd) := by decide +kernel
theorem d197_821 : ins 197 821 = some (.iaload) := by decide +kernel
theorem d197_822 : ins 197 822 = some (.aload_n 0) := by decide +kernel
theorem d197_823 : ins 197 823 = some (.iload_n 3) := by decide +kernel
theorem d197_824 : ins 197 824 = some (.iconst 4) := by decide +kernel
theorem d197_825 : ins 197 825 = some (.iadd) := by decide +kernel
theorem d197_826 : ins 197 826 = some (.iaload) := by decide +kernel
theorem d197_827 : ins 197 827 = some (.invokevirtual 112) := by decide +kernel
theorem d197_830 : ins 197 830 = some (.if_icmp .eq 212) := by decide +kernel
theorem d197_833 : ins 197 833 = some (.iconst 0) := by decide +kernel
theorem d197_834 : ins 197 834 = some (.ireturn) := by decide +kernel
theorem d197_835 : ins 197 835 = some (.aload_n 1) := by decide +kernel
theorem d197_836 : ins 197 836 = some (.invokevirtual 113) := by decide +kernel
theorem d197_839 : ins 197 839 = some (.aload_n 2) := by decide +kernel
theorem d197_840 : ins 197 840 = some (.invokevirtual 116) := by decide +kernel
theorem d197_843 : ins 197 843 = some (.if_icmp .eq 199) := by decide +kernel
theorem d197_846 : ins 197 846 = some (.iconst 0) := by decide +kernel
theorem d197_847 : ins 197 847 = some (.ireturn) := by decide +kernel
theorem d197_848 : ins 197 848 = some (.aload_n 1) := by decide +kernel
theorem d197_849 : ins 197 849 = some (.aload_n 0) := by decide +kernel
theorem d197_850 : ins 197 850 = some (.iload_n 3) := by decide +kernel
theorem d197_851 : ins 197 851 = some (.iconst 1) := by decide +kernel
theorem d197_852 : ins 197 852 = some (.iadd) := by decide +kernel
theorem d197_853 : ins 197 853 = some (.iaload) := by decide +kernel
theorem d197_854 : ins 197 854 = some (.invokevirtual 117) := by decide +kernel
theorem d197_857 : ins 197 857 = some (.aload_n 2) := by decide +kernel
theorem d197_858 : ins 197 858 = some (.aload_n 0) := by decide +kernel
theorem d197_859 : ins 197 859 = some (.iload_n 3) := by decide +kernel
theorem d197_860 : ins 197 860 = some (.iconst 1) := by decide +kernel
theorem d197_861 : ins 197 861 = some (.iadd) := by decide +kernel
theorem d197_862 : ins 197 862 = some (.iaload) := by decide +kernel
theorem d197_863 : ins 197 863 = some (.invokevirtual 120) := by decide +kernel
theorem d197_866 : ins 197 866 = some (.if_icmp .eq 176) := by decide +kernel
theorem d197_869 : ins 197 869 = some (.iconst 0) := by decide +kernel
theorem d197_870 : ins 197 870 = some (.ireturn) := by decide +kernel
theorem d197_871 : ins 197 871 = some (.aload_n 1) := by decide +kernel
theorem d197_872 : ins 197 872 = some (.aload_n 0) := by decide +kernel
theorem d197_873 : ins 197 873 = some (.iload_n 3) := by decide +kernel
theorem d197_874 : ins 197 874 = some (.iconst 1) := by decide +kernel
theorem d197_875 : ins 197 875 = some (.iadd) := by decide +kernel
theorem d197_876 : ins 197 876 = some (.iaload) := by decide +kernel
theorem d197_877 : ins 197 877 = some (.aload_n 0) := by decide +kernel
theorem d197_878 : ins 197 878 = some (.iload_n 3) := by decide +kernel
theorem d197_879 : ins 197 879 = some (.iconst 2) := by decide +kernel
theorem d197_880 : ins 197 880 = some (.iadd) := by decide +kernel
theorem d197_881 : ins 197 881 = some (.iaload) := by decide +kernel
theorem d197_882 : ins 197 882 = some (.aload_n 0) := by decide +kernel
theorem d197_883 : ins 197 883 = some (.iload_n 3) := by decide +kernel
theorem d197_884 : ins 197 884 = some (.iconst 3) := by decide +kernel
theorem d197_885 : ins 197 885 = some (.iadd) := by decide +kernel
theorem d197_886 : ins 197 886 = some (.iaload) := by decide +kernel
theorem d197_887 : ins 197 887 = some (.invokevirtual 121) := by decide +kernel
theorem d197_890 : ins 197 890 = some (.aload_n 2) := by decide +kernel
theorem d197_891 : ins 197 891 = some (.aload_n 0) := by decide +kernel
theorem d197_892 : ins 197 892 = some (.iload_n 3) := by decide +kernel
theorem d197_893 : ins 197 893 = some (.iconst 1) := by decide +kernel
theorem d197_894 : ins 197 894 = some (.iadd) := by decide +kernel
theorem d197_895 : ins 197 895 = some (.iaload) := by decide +kernel
theorem d197_896 : ins 197 896 = some (.aload_n 0) := by decide +kernel
theorem d197_897 : ins 197 897 = some (.iload_n 3) := by decide +kernel
theorem d197_898 : ins 197 898 = some (.iconst 2) := by decide +kernel
theorem d197_899 : ins 197 899 = some (.iadd) := by decide +kernel
theorem d197_900 : ins 197 900 = some (.iaload) := by decide +kernel
theorem d197_901 : ins 197 901 = some (.aload_n 0) := by decide +kernel
theorem d197_902 : ins 197 902 = some (.iload_n 3) := by decide +kernel
theorem d197_903 : ins 197 903 = some (.iconst 3) := by decide +kernel
theorem d197_904 : ins 197 904 = some (.iadd) := by decide +kernel
theorem d197_905 : ins 197 905 = some (.iaload) := by decide +kernel
theorem d197_906 : ins 197 906 = some (.invokevirtual 124) := by decide +kernel
theorem d197_909 : ins 197 909 = some (.if_icmp .eq 133) := by decide +kernel
theorem d197_912 : ins 197 912 = some (.iconst 0) := by decide +kernel
theorem d197_913 : ins 197 913 = some (.ireturn) := by decide +kernel
theorem d197_914 : ins 197 914 = some (.aload_n 1) := by decide +kernel
theorem d197_915 : ins 197 915 = some (.invokevirtual 125) := by decide +kernel
theorem d197_918 : ins 197 918 = some (.aload_n 2) := by decide +kernel
theorem d197_919 : ins 197 919 = some (.invokevirtual 128) := by decide +kernel
theorem d197_922 : ins 197 922 = some (.if_icmp .eq 120) := by decide +kernel
theorem d197_925 : ins 197 925 = some (.iconst 0) := by decide +kernel
theorem d197_926 : ins 197 926 = some (.ireturn) := by decide +kernel
theorem d197_927 : ins 197 927 = some (.aload_n 1) := by decide +kernel
theorem d197_928 : ins 197 928 = some (.invokevirtual 129) := by decide +kernel
theorem d197_931 : ins 197 931 = some (.aload_n 2) := by decide +kernel
theorem d197_932 : ins 197 932 = some (.invokevirtual 132) := by decide +kernel
theorem d197_935 : ins 197 935 = some (.if_icmp .eq 107) := by decide +kernel
theorem d197_938 : ins 197 938 = some (.iconst 0) := by decide +kernel
theorem d197_939 : ins 197 939 = some (.ireturn) := by decide +kernel
theorem d197_940 : ins 197 940 = some (.aload_n 1) := by decide +kernel
theorem d197_941 : ins 197 941 = some (.aload_n 0) := by decide +kernel
theorem d197_942 : ins 197 942 = some (.iload_n 3) := by decide +kernel
theorem d197_943 : ins 197 943 = some (.iconst 1) := by decide +kernel
theorem d197_944 : ins 197 944 = some (.iadd) := by decide +kernel
theorem d197_945 : ins 197 945 = some (.iaload) := by decide +kernel
theorem d197_946 : ins 197 946 = some (.aload_n 0) := by decide +kernel
theorem d197_947 : ins 197 947 = some (.iload_n 3) := by decide +kernel
theorem d197_948 : ins 197 948 = some (.iconst 2) := by decide +kernel
theorem d197_949 : ins 197 949 = some (.iadd) := by decide +kernel
theorem d197_950 : ins 197 950 = some (.iaload) := by decide +kernel
theorem d197_951 : ins 197 951 = some (.invokevirtual 133) := by decide +kernel
theorem d197_954 : ins 197 954 = some (.aload_n 2) := by decide +kernel
theorem d197_955 : ins 197 955 = some (.aload_n 0) := by decide +kernel
theorem d197_956 : ins 197 956 = some (.iload_n 3) := by decide +kernel
theorem d197_957 : ins 197 957 = some (.iconst 1) := by decide +kernel
theorem d197_958 : ins 197 958 = some (.iadd) := by decide +kernel
theorem d197_959 : ins 197 959 = some (.iaload) := by decide +kernel
theorem d197_960 : ins 197 960 = some (.aload_n 0) := by decide +kernel
theorem d197_961 : ins 197 961 = some (.iload_n 3) := by decide +kernel
theorem d197_962 : ins 197 962 = some (.iconst 2) := by decide +kernel
theorem d197_963 : ins 197 963 = some (.iadd) := by decide +kernel
theorem d197_964 : ins 197 964 = some (.iaload) := by decide +kernel
theorem d197_965 : ins 197 965 = some (.invokevirtual 136) := by decide +kernel
theorem d197_968 : ins 197 968 = some (.if_icmp .eq 74) := by decide +kernel
theorem d197_971 : ins 197 971 = some (.iconst 0) := by decide +kernel
theorem d197_972 : ins 197 972 = some (.ireturn) := by decide +kernel
theorem d197_973 : ins 197 973 = some (.aload_n 1) := by decide +kernel
theorem d197_974 : ins 197 974 = some (.aload_n 0) := by decide +kernel
theorem d197_975 : ins 197 975 = some (.iload_n 3) := by decide +kernel
theorem d197_976 : ins 197 976 = some (.iconst 1) := by decide +kernel
theorem d197_977 : ins 197 977 = some (.iadd) := by decide +kernel
theorem d197_978 : ins 197 978 = some (.iaload) := by decide +kernel
theorem d197_979 : ins 197 979 = some (.invokevirtual 137) := by decide +kernel
theorem d197_982 : ins 197 982 = some (.aload_n 2) := by decide +kernel
theorem d197_983 : ins 197 983 = some (.aload_n 0) := by decide +kernel
theorem d197_984 : ins 197 984 = some (.iload_n 3) := by decide +kernel
theorem d197_985 : ins 197 985 = some (.iconst 1) := by decide +kernel
theorem d197_986 : ins 197 986 = some (.iadd) := by decide +kernel
theorem d197_987 : ins 197 987 = some (.iaload) := by decide +kernel
theorem d197_988 : ins 197 988 = some (.invokevirtual 140) := by decide +kernel
theorem d197_991 : ins 197 991 = some (.if_icmp .eq 51) := by decide +kernel
theorem d197_994 : ins 197 994 = some (.iconst 0) := by decide +kernel
theorem d197_995 : ins 197 995 = some (.ireturn) := by decide +kernel
theorem d197_996 : ins 197 996 = some (.aload_n 1) := by decide +kernel
theorem d197_997 : ins 197 997 = some (.aload_n 0) := by decide +kernel
theorem d197_998 : ins 197 998 = some (.iload_n 3) := by decide +kernel
theorem d197_999 : ins 197 999 = some (.iconst 1) := by decide +kernel
theorem d197_1000 : ins 197 1000 = some (.iadd) := by decide +kernel
theorem d197_1001 : ins 197 1001 = some (.iaload) := by decide +kernel
theorem d197_1002 : ins 197 1002 = some (.invokevirtual 141) := by decide +kernel
theorem d197_1005 : ins 197 1005 = some (.aload_n 2) := by decide +kernel
theorem d197_1006 : ins 197 1006 = some (.aload_n 0) := by decide +kernel
theorem d197_1007 : ins 197 1007 = some (.iload_n 3) := by decide +kernel
theorem d197_1008 : ins 197 1008 = some (.iconst 1) := by decide +kernel
theorem d197_1009 : ins 197 1009 = some (.iadd) := by decide +kernel
theorem d197_1010 : ins 197 1010 = some (.iaload) := by decide +kernel
theorem d197_1011 : ins 197 1011 = some (.invokevirtual 144) := by decide +kernel
theorem d197_1014 : ins 197 1014 = some (.if_icmp .eq 28) := by decide +kernel
theorem d197_1017 : ins 197 1017 = some (.iconst 0) := by decide +kernel
theorem d197_1018 : ins 197 1018 = some (.ireturn) := by decide +kernel
theorem d197_1019 : ins 197 1019 = some (.aload_n 1) := by decide +kernel
theorem d197_1020 : ins 197 1020 = some (.aload_n 0) := by decide +kernel
theorem d197_1021 : ins 197 1021 = some (.iload_n 3) := by decide +kernel
theorem d197_1022 : ins 197 1022 = some (.iconst 1) := by decide +kernel
theorem d197_1023 : ins 197 1023 = some (.iadd) := by decide +kernel
theorem d197_1024 : ins 197 1024 = some (.iaload) := by decide +kernel
theorem d197_1025 : ins 197 1025 = some (.invokevirtual 145) := by decide +kernel
theorem d197_1028 : ins 197 1028 = some (.aload_n 2) := by decide +kernel
theorem d197_1029 : ins 197 1029 = some (.aload_n 0) := by decide +kernel
theorem d197_1030 : ins 197 1030 = some (.iload_n 3) := by decide +kernel
theorem d197_1031 : ins 197 1031 = some (.iconst 1) := by decide +kernel
theorem d197_1032 : ins 197 1032 = some (.iadd) := by decide +kernel
theorem d197_1033 : ins 197 1033 = some (.iaload) := by decide +kernel
theorem d197_1034 : ins 197 1034 = some (.invokevirtual 148) := by decide +kernel
theorem d197_1037 : ins 197 1037 = some (.if_icmp .eq 5) := by decide +kernel
theorem d197_1040 : ins 197 1040 = some (.iconst 0) := by decide +kernel
theorem d197_1041 : ins 197 1041 = some (.ireturn) := by decide +kernel
theorem d197_1042 : ins 197 1042 = some (.iinc 3 5) := by decide +kernel
theorem d197_1045 : ins 197 1045 = some (.goto (-1027)) := by decide +kernel
theorem d197_1048 : ins 197 1048 = some (.iconst 1) := by decide +kernel
theorem d197_1049 : ins 197 1049 = some (.ireturn) := by decide +kernel

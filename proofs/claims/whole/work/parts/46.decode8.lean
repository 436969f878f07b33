/-! what each instruction is (printed by program) -/
theorem d_Z_law_793 : decode code 793 = .ok (.iconst 0, 1) := by decide +kernel
theorem d_Z_law_794 : decode code 794 = .ok (.ireturn, 1) := by decide +kernel
theorem d_Z_law_795 : decode code 795 = .ok (.iload 5, 2) := by decide +kernel
theorem d_Z_law_797 : decode code 797 = .ok (.ifCond .ne 15, 3) := by decide +kernel
theorem d_Z_law_800 : decode code 800 = .ok (.aload_n 3, 1) := by decide +kernel
theorem d_Z_law_801 : decode code 801 = .ok (.iconst 0, 1) := by decide +kernel
theorem d_Z_law_802 : decode code 802 = .ok (.laload, 1) := by decide +kernel
theorem d_Z_law_803 : decode code 803 = .ok (.iload 6, 2) := by decide +kernel
theorem d_Z_law_805 : decode code 805 = .ok (.i2l, 1) := by decide +kernel
theorem d_Z_law_806 : decode code 806 = .ok (.lcmp, 1) := by decide +kernel
theorem d_Z_law_807 : decode code 807 = .ok (.ifCond .eq 5, 3) := by decide +kernel
theorem d_Z_law_810 : decode code 810 = .ok (.iconst 0, 1) := by decide +kernel
theorem d_Z_law_811 : decode code 811 = .ok (.ireturn, 1) := by decide +kernel
theorem d_Z_law_812 : decode code 812 = .ok (.goto 288, 3) := by decide +kernel
theorem d_Z_law_815 : decode code 815 = .ok (.aload_n 1, 1) := by decide +kernel
theorem d_Z_law_816 : decode code 816 = .ok (.aload_n 0, 1) := by decide +kernel
theorem d_Z_law_817 : decode code 817 = .ok (.iload 4, 2) := by decide +kernel
theorem d_Z_law_819 : decode code 819 = .ok (.iconst 1, 1) := by decide +kernel
theorem d_Z_law_820 : decode code 820 = .ok (.iadd, 1) := by decide +kernel
theorem d_Z_law_821 : decode code 821 = .ok (.iaload, 1) := by decide +kernel
theorem d_Z_law_822 : decode code 822 = .ok (.aload_n 0, 1) := by decide +kernel
theorem d_Z_law_823 : decode code 823 = .ok (.iload 4, 2) := by decide +kernel
theorem d_Z_law_825 : decode code 825 = .ok (.iconst 2, 1) := by decide +kernel
theorem d_Z_law_826 : decode code 826 = .ok (.iadd, 1) := by decide +kernel
theorem d_Z_law_827 : decode code 827 = .ok (.iaload, 1) := by decide +kernel
theorem d_Z_law_828 : decode code 828 = .ok (.invokestatic 112, 3) := by decide +kernel
theorem d_Z_law_831 : decode code 831 = .ok (.istore 5, 2) := by decide +kernel
theorem d_Z_law_833 : decode code 833 = .ok (.aload_n 2, 1) := by decide +kernel
theorem d_Z_law_834 : decode code 834 = .ok (.aload_n 0, 1) := by decide +kernel
theorem d_Z_law_835 : decode code 835 = .ok (.iload 4, 2) := by decide +kernel
theorem d_Z_law_837 : decode code 837 = .ok (.iconst 1, 1) := by decide +kernel
theorem d_Z_law_838 : decode code 838 = .ok (.iadd, 1) := by decide +kernel
theorem d_Z_law_839 : decode code 839 = .ok (.iaload, 1) := by decide +kernel
theorem d_Z_law_840 : decode code 840 = .ok (.aload_n 0, 1) := by decide +kernel
theorem d_Z_law_841 : decode code 841 = .ok (.iload 4, 2) := by decide +kernel
theorem d_Z_law_843 : decode code 843 = .ok (.iconst 2, 1) := by decide +kernel
theorem d_Z_law_844 : decode code 844 = .ok (.iadd, 1) := by decide +kernel
theorem d_Z_law_845 : decode code 845 = .ok (.iaload, 1) := by decide +kernel
theorem d_Z_law_846 : decode code 846 = .ok (.invokevirtual 115, 3) := by decide +kernel
theorem d_Z_law_849 : decode code 849 = .ok (.aload_n 2, 1) := by decide +kernel
theorem d_Z_law_850 : decode code 850 = .ok (.invokevirtual 82, 3) := by decide +kernel
theorem d_Z_law_853 : decode code 853 = .ok (.iload 5, 2) := by decide +kernel
theorem d_Z_law_855 : decode code 855 = .ok (.if_icmp .eq 5, 3) := by decide +kernel
theorem d_Z_law_858 : decode code 858 = .ok (.iconst 0, 1) := by decide +kernel
theorem d_Z_law_859 : decode code 859 = .ok (.ireturn, 1) := by decide +kernel
theorem d_Z_law_860 : decode code 860 = .ok (.goto 240, 3) := by decide +kernel
theorem d_Z_law_863 : decode code 863 = .ok (.aload_n 1, 1) := by decide +kernel
theorem d_Z_law_864 : decode code 864 = .ok (.invokevirtual 116, 3) := by decide +kernel
theorem d_Z_law_867 : decode code 867 = .ok (.aload_n 2, 1) := by decide +kernel
theorem d_Z_law_868 : decode code 868 = .ok (.invokevirtual 119, 3) := by decide +kernel
theorem d_Z_law_871 : decode code 871 = .ok (.if_icmp .eq 229, 3) := by decide +kernel
theorem d_Z_law_874 : decode code 874 = .ok (.iconst 0, 1) := by decide +kernel
theorem d_Z_law_875 : decode code 875 = .ok (.ireturn, 1) := by decide +kernel
theorem d_Z_law_876 : decode code 876 = .ok (.aload_n 1, 1) := by decide +kernel
theorem d_Z_law_877 : decode code 877 = .ok (.aload_n 0, 1) := by decide +kernel
theorem d_Z_law_878 : decode code 878 = .ok (.iload 4, 2) := by decide +kernel
theorem d_Z_law_880 : decode code 880 = .ok (.iconst 1, 1) := by decide +kernel
theorem d_Z_law_881 : decode code 881 = .ok (.iadd, 1) := by decide +kernel
theorem d_Z_law_882 : decode code 882 = .ok (.iaload, 1) := by decide +kernel
theorem d_Z_law_883 : decode code 883 = .ok (.aload_n 0, 1) := by decide +kernel
theorem d_Z_law_884 : decode code 884 = .ok (.iload 4, 2) := by decide +kernel
theorem d_Z_law_886 : decode code 886 = .ok (.iconst 2, 1) := by decide +kernel
theorem d_Z_law_887 : decode code 887 = .ok (.iadd, 1) := by decide +kernel
theorem d_Z_law_888 : decode code 888 = .ok (.iaload, 1) := by decide +kernel
theorem d_Z_law_889 : decode code 889 = .ok (.aload_n 3, 1) := by decide +kernel
theorem d_Z_law_890 : decode code 890 = .ok (.invokestatic 120, 3) := by decide +kernel
theorem d_Z_law_893 : decode code 893 = .ok (.istore 5, 2) := by decide +kernel
theorem d_Z_law_895 : decode code 895 = .ok (.aload_n 2, 1) := by decide +kernel
theorem d_Z_law_896 : decode code 896 = .ok (.aload_n 0, 1) := by decide +kernel
theorem d_Z_law_897 : decode code 897 = .ok (.iload 4, 2) := by decide +kernel
theorem d_Z_law_899 : decode code 899 = .ok (.iconst 1, 1) := by decide +kernel
theorem d_Z_law_900 : decode code 900 = .ok (.iadd, 1) := by decide +kernel
theorem d_Z_law_901 : decode code 901 = .ok (.iaload, 1) := by decide +kernel
theorem d_Z_law_902 : decode code 902 = .ok (.aload_n 0, 1) := by decide +kernel
theorem d_Z_law_903 : decode code 903 = .ok (.iload 4, 2) := by decide +kernel
theorem d_Z_law_905 : decode code 905 = .ok (.iconst 2, 1) := by decide +kernel
theorem d_Z_law_906 : decode code 906 = .ok (.iadd, 1) := by decide +kernel
theorem d_Z_law_907 : decode code 907 = .ok (.iaload, 1) := by decide +kernel
theorem d_Z_law_908 : decode code 908 = .ok (.invokevirtual 122, 3) := by decide +kernel
theorem d_Z_law_911 : decode code 911 = .ok (.istore 6, 2) := by decide +kernel
theorem d_Z_law_913 : decode code 913 = .ok (.aload_n 2, 1) := by decide +kernel
theorem d_Z_law_914 : decode code 914 = .ok (.invokevirtual 82, 3) := by decide +kernel
theorem d_Z_law_917 : decode code 917 = .ok (.iload 5, 2) := by decide +kernel
theorem d_Z_law_919 : decode code 919 = .ok (.if_icmp .eq 5, 3) := by decide +kernel
theorem d_Z_law_922 : decode code 922 = .ok (.iconst 0, 1) := by decide +kernel
theorem d_Z_law_923 : decode code 923 = .ok (.ireturn, 1) := by decide +kernel
theorem d_Z_law_924 : decode code 924 = .ok (.iload 5, 2) := by decide +kernel
theorem d_Z_law_926 : decode code 926 = .ok (.ifCond .ne 15, 3) := by decide +kernel
theorem d_Z_law_929 : decode code 929 = .ok (.aload_n 3, 1) := by decide +kernel
theorem d_Z_law_930 : decode code 930 = .ok (.iconst 0, 1) := by decide +kernel
theorem d_Z_law_931 : decode code 931 = .ok (.laload, 1) := by decide +kernel
theorem d_Z_law_932 : decode code 932 = .ok (.iload 6, 2) := by decide +kernel
theorem d_Z_law_934 : decode code 934 = .ok (.i2l, 1) := by decide +kernel
theorem d_Z_law_935 : decode code 935 = .ok (.lcmp, 1) := by decide +kernel
theorem d_Z_law_936 : decode code 936 = .ok (.ifCond .eq 5, 3) := by decide +kernel
theorem d_Z_law_939 : decode code 939 = .ok (.iconst 0, 1) := by decide +kernel
theorem d_Z_law_940 : decode code 940 = .ok (.ireturn, 1) := by decide +kernel
theorem d_Z_law_941 : decode code 941 = .ok (.goto 159, 3) := by decide +kernel
theorem d_Z_law_944 : decode code 944 = .ok (.aload_n 1, 1) := by decide +kernel
theorem d_Z_law_945 : decode code 945 = .ok (.aload_n 3, 1) := by decide +kernel
theorem d_Z_law_946 : decode code 946 = .ok (.invokestatic 123, 3) := by decide +kernel
theorem d_Z_law_949 : decode code 949 = .ok (.istore 5, 2) := by decide +kernel
theorem d_Z_law_951 : decode code 951 = .ok (.aload_n 2, 1) := by decide +kernel
theorem d_Z_law_952 : decode code 952 = .ok (.invokevirtual 126, 3) := by decide +kernel
theorem d_Z_law_955 : decode code 955 = .ok (.istore 6, 2) := by decide +kernel
theorem d_Z_law_957 : decode code 957 = .ok (.aload_n 2, 1) := by decide +kernel
theorem d_Z_law_958 : decode code 958 = .ok (.invokevirtual 82, 3) := by decide +kernel
theorem d_Z_law_961 : decode code 961 = .ok (.iload 5, 2) := by decide +kernel
theorem d_Z_law_963 : decode code 963 = .ok (.if_icmp .eq 5, 3) := by decide +kernel
theorem d_Z_law_966 : decode code 966 = .ok (.iconst 0, 1) := by decide +kernel
theorem d_Z_law_967 : decode code 967 = .ok (.ireturn, 1) := by decide +kernel
theorem d_Z_law_968 : decode code 968 = .ok (.iload 5, 2) := by decide +kernel
theorem d_Z_law_970 : decode code 970 = .ok (.ifCond .ne 15, 3) := by decide +kernel
theorem d_Z_law_973 : decode code 973 = .ok (.aload_n 3, 1) := by decide +kernel
theorem d_Z_law_974 : decode code 974 = .ok (.iconst 0, 1) := by decide +kernel
theorem d_Z_law_975 : decode code 975 = .ok (.laload, 1) := by decide +kernel
theorem d_Z_law_976 : decode code 976 = .ok (.iload 6, 2) := by decide +kernel
theorem d_Z_law_978 : decode code 978 = .ok (.i2l, 1) := by decide +kernel
theorem d_Z_law_979 : decode code 979 = .ok (.lcmp, 1) := by decide +kernel
theorem d_Z_law_980 : decode code 980 = .ok (.ifCond .eq 5, 3) := by decide +kernel

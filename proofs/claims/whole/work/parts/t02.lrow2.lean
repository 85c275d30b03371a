/-! The law: rows (written by wip/gen8.py). -/
theorem d0_786 : decode (tb_me 0).1.2.1 786 = .ok (.iload_n 3, 1) := by decide +kernel
theorem d0_787 : decode (tb_me 0).1.2.1 787 = .ok (.iconst 1, 1) := by decide +kernel
theorem d0_788 : decode (tb_me 0).1.2.1 788 = .ok (.iadd, 1) := by decide +kernel
theorem d0_789 : decode (tb_me 0).1.2.1 789 = .ok (.iaload, 1) := by decide +kernel
theorem d0_790 : decode (tb_me 0).1.2.1 790 = .ok (.invokevirtual 105, 3) := by decide +kernel
theorem d0_793 : decode (tb_me 0).1.2.1 793 = .ok (.if_icmp .eq 321, 3) := by decide +kernel
theorem k0_106 (b : Bool) : tb_lk b 0 106 = (2, 24, 0, 0, 0) := by cases b <;> decide +kernel
theorem k0_109 (b : Bool) : tb_lk b 0 109 = (2, 245, 0, 0, 0) := by cases b <;> decide +kernel
theorem ml24 : (tb_me 24).2 = ((0, 0), (2, 0)) ∧ (tb_me 24).1.2.2.1 = 3 := by decide +kernel
theorem ml245 : (tb_me 245).2 = ((0, 0), (2, 10)) ∧ (tb_me 245).1.2.2.1 = 4 := by decide +kernel
theorem d0_798 : decode (tb_me 0).1.2.1 798 = .ok (.aload_n 1, 1) := by decide +kernel
theorem d0_799 : decode (tb_me 0).1.2.1 799 = .ok (.aload_n 0, 1) := by decide +kernel
theorem d0_800 : decode (tb_me 0).1.2.1 800 = .ok (.iload_n 3, 1) := by decide +kernel
theorem d0_801 : decode (tb_me 0).1.2.1 801 = .ok (.iconst 1, 1) := by decide +kernel
theorem d0_802 : decode (tb_me 0).1.2.1 802 = .ok (.iadd, 1) := by decide +kernel
theorem d0_803 : decode (tb_me 0).1.2.1 803 = .ok (.iaload, 1) := by decide +kernel
theorem d0_804 : decode (tb_me 0).1.2.1 804 = .ok (.aload_n 0, 1) := by decide +kernel
theorem d0_805 : decode (tb_me 0).1.2.1 805 = .ok (.iload_n 3, 1) := by decide +kernel
theorem d0_806 : decode (tb_me 0).1.2.1 806 = .ok (.iconst 2, 1) := by decide +kernel
theorem d0_807 : decode (tb_me 0).1.2.1 807 = .ok (.iadd, 1) := by decide +kernel
theorem d0_808 : decode (tb_me 0).1.2.1 808 = .ok (.iaload, 1) := by decide +kernel
theorem d0_809 : decode (tb_me 0).1.2.1 809 = .ok (.invokevirtual 106, 3) := by decide +kernel
theorem d0_812 : decode (tb_me 0).1.2.1 812 = .ok (.aload_n 2, 1) := by decide +kernel
theorem d0_813 : decode (tb_me 0).1.2.1 813 = .ok (.aload_n 0, 1) := by decide +kernel
theorem d0_814 : decode (tb_me 0).1.2.1 814 = .ok (.iload_n 3, 1) := by decide +kernel
theorem d0_815 : decode (tb_me 0).1.2.1 815 = .ok (.iconst 1, 1) := by decide +kernel
theorem d0_816 : decode (tb_me 0).1.2.1 816 = .ok (.iadd, 1) := by decide +kernel
theorem d0_817 : decode (tb_me 0).1.2.1 817 = .ok (.iaload, 1) := by decide +kernel
theorem d0_818 : decode (tb_me 0).1.2.1 818 = .ok (.aload_n 0, 1) := by decide +kernel
theorem d0_819 : decode (tb_me 0).1.2.1 819 = .ok (.iload_n 3, 1) := by decide +kernel
theorem d0_820 : decode (tb_me 0).1.2.1 820 = .ok (.iconst 2, 1) := by decide +kernel
theorem d0_821 : decode (tb_me 0).1.2.1 821 = .ok (.iadd, 1) := by decide +kernel
theorem d0_822 : decode (tb_me 0).1.2.1 822 = .ok (.iaload, 1) := by decide +kernel
theorem d0_823 : decode (tb_me 0).1.2.1 823 = .ok (.invokevirtual 109, 3) := by decide +kernel
theorem d0_826 : decode (tb_me 0).1.2.1 826 = .ok (.if_icmp .eq 288, 3) := by decide +kernel
theorem k0_110 (b : Bool) : tb_lk b 0 110 = (2, 25, 0, 0, 0) := by cases b <;> decide +kernel
theorem k0_114 (b : Bool) : tb_lk b 0 114 = (2, 248, 0, 0, 0) := by cases b <;> decide +kernel
theorem ml25 : (tb_me 25).2 = ((0, 0), (3, 0)) ∧ (tb_me 25).1.2.2.1 = 6 := by decide +kernel
theorem ml248 : (tb_me 248).2 = ((0, 0), (3, 10)) ∧ (tb_me 248).1.2.2.1 = 8 := by decide +kernel
theorem d0_831 : decode (tb_me 0).1.2.1 831 = .ok (.aload_n 1, 1) := by decide +kernel
theorem d0_832 : decode (tb_me 0).1.2.1 832 = .ok (.aload_n 0, 1) := by decide +kernel
theorem d0_833 : decode (tb_me 0).1.2.1 833 = .ok (.iload_n 3, 1) := by decide +kernel
theorem d0_834 : decode (tb_me 0).1.2.1 834 = .ok (.iconst 1, 1) := by decide +kernel
theorem d0_835 : decode (tb_me 0).1.2.1 835 = .ok (.iadd, 1) := by decide +kernel
theorem d0_836 : decode (tb_me 0).1.2.1 836 = .ok (.iaload, 1) := by decide +kernel
theorem d0_837 : decode (tb_me 0).1.2.1 837 = .ok (.aload_n 0, 1) := by decide +kernel
theorem d0_838 : decode (tb_me 0).1.2.1 838 = .ok (.iload_n 3, 1) := by decide +kernel
theorem d0_839 : decode (tb_me 0).1.2.1 839 = .ok (.iconst 2, 1) := by decide +kernel
theorem d0_840 : decode (tb_me 0).1.2.1 840 = .ok (.iadd, 1) := by decide +kernel
theorem d0_841 : decode (tb_me 0).1.2.1 841 = .ok (.iaload, 1) := by decide +kernel
theorem d0_842 : decode (tb_me 0).1.2.1 842 = .ok (.aload_n 0, 1) := by decide +kernel
theorem d0_843 : decode (tb_me 0).1.2.1 843 = .ok (.iload_n 3, 1) := by decide +kernel
theorem d0_844 : decode (tb_me 0).1.2.1 844 = .ok (.iconst 3, 1) := by decide +kernel
theorem d0_845 : decode (tb_me 0).1.2.1 845 = .ok (.iadd, 1) := by decide +kernel
theorem d0_846 : decode (tb_me 0).1.2.1 846 = .ok (.iaload, 1) := by decide +kernel
theorem d0_847 : decode (tb_me 0).1.2.1 847 = .ok (.invokevirtual 110, 3) := by decide +kernel
theorem d0_850 : decode (tb_me 0).1.2.1 850 = .ok (.aload_n 2, 1) := by decide +kernel
theorem d0_851 : decode (tb_me 0).1.2.1 851 = .ok (.aload_n 0, 1) := by decide +kernel
theorem d0_852 : decode (tb_me 0).1.2.1 852 = .ok (.iload_n 3, 1) := by decide +kernel
theorem d0_853 : decode (tb_me 0).1.2.1 853 = .ok (.iconst 1, 1) := by decide +kernel
theorem d0_854 : decode (tb_me 0).1.2.1 854 = .ok (.iadd, 1) := by decide +kernel
theorem d0_855 : decode (tb_me 0).1.2.1 855 = .ok (.iaload, 1) := by decide +kernel
theorem d0_856 : decode (tb_me 0).1.2.1 856 = .ok (.aload_n 0, 1) := by decide +kernel
theorem d0_857 : decode (tb_me 0).1.2.1 857 = .ok (.iload_n 3, 1) := by decide +kernel
theorem d0_858 : decode (tb_me 0).1.2.1 858 = .ok (.iconst 2, 1) := by decide +kernel
theorem d0_859 : decode (tb_me 0).1.2.1 859 = .ok (.iadd, 1) := by decide +kernel
theorem d0_860 : decode (tb_me 0).1.2.1 860 = .ok (.iaload, 1) := by decide +kernel
theorem d0_861 : decode (tb_me 0).1.2.1 861 = .ok (.aload_n 0, 1) := by decide +kernel
theorem d0_862 : decode (tb_me 0).1.2.1 862 = .ok (.iload_n 3, 1) := by decide +kernel
theorem d0_863 : decode (tb_me 0).1.2.1 863 = .ok (.iconst 3, 1) := by decide +kernel
theorem d0_864 : decode (tb_me 0).1.2.1 864 = .ok (.iadd, 1) := by decide +kernel
theorem d0_865 : decode (tb_me 0).1.2.1 865 = .ok (.iaload, 1) := by decide +kernel
theorem d0_866 : decode (tb_me 0).1.2.1 866 = .ok (.invokevirtual 114, 3) := by decide +kernel
theorem d0_869 : decode (tb_me 0).1.2.1 869 = .ok (.if_icmp .eq 245, 3) := by decide +kernel
theorem k0_115 (b : Bool) : tb_lk b 0 115 = (2, 26, 0, 0, 0) := by cases b <;> decide +kernel
theorem k0_119 (b : Bool) : tb_lk b 0 119 = (2, 249, 0, 0, 0) := by cases b <;> decide +kernel
theorem ml26 : (tb_me 26).2 = ((0, 0), (2, 0)) ∧ (tb_me 26).1.2.2.1 = 3 := by decide +kernel
theorem ml249 : (tb_me 249).2 = ((0, 0), (2, 10)) ∧ (tb_me 249).1.2.2.1 = 3 := by decide +kernel
theorem d0_874 : decode (tb_me 0).1.2.1 874 = .ok (.aload_n 1, 1) := by decide +kernel
theorem d0_875 : decode (tb_me 0).1.2.1 875 = .ok (.aload_n 0, 1) := by decide +kernel
theorem d0_876 : decode (tb_me 0).1.2.1 876 = .ok (.iload_n 3, 1) := by decide +kernel
theorem d0_877 : decode (tb_me 0).1.2.1 877 = .ok (.iconst 1, 1) := by decide +kernel
theorem d0_878 : decode (tb_me 0).1.2.1 878 = .ok (.iadd, 1) := by decide +kernel
theorem d0_879 : decode (tb_me 0).1.2.1 879 = .ok (.iaload, 1) := by decide +kernel
theorem d0_880 : decode (tb_me 0).1.2.1 880 = .ok (.aload_n 0, 1) := by decide +kernel
theorem d0_881 : decode (tb_me 0).1.2.1 881 = .ok (.iload_n 3, 1) := by decide +kernel
theorem d0_882 : decode (tb_me 0).1.2.1 882 = .ok (.iconst 2, 1) := by decide +kernel
theorem d0_883 : decode (tb_me 0).1.2.1 883 = .ok (.iadd, 1) := by decide +kernel
theorem d0_884 : decode (tb_me 0).1.2.1 884 = .ok (.iaload, 1) := by decide +kernel
theorem d0_885 : decode (tb_me 0).1.2.1 885 = .ok (.ifCond .eq 7, 3) := by decide +kernel
theorem d0_888 : decode (tb_me 0).1.2.1 888 = .ok (.iconst 1, 1) := by decide +kernel
theorem d0_889 : decode (tb_me 0).1.2.1 889 = .ok (.goto 4, 3) := by decide +kernel
theorem d0_892 : decode (tb_me 0).1.2.1 892 = .ok (.iconst 0, 1) := by decide +kernel
theorem d0_893 : decode (tb_me 0).1.2.1 893 = .ok (.invokevirtual 115, 3) := by decide +kernel
theorem d0_896 : decode (tb_me 0).1.2.1 896 = .ok (.aload_n 2, 1) := by decide +kernel
theorem d0_897 : decode (tb_me 0).1.2.1 897 = .ok (.aload_n 0, 1) := by decide +kernel
theorem d0_898 : decode (tb_me 0).1.2.1 898 = .ok (.iload_n 3, 1) := by decide +kernel
theorem d0_899 : decode (tb_me 0).1.2.1 899 = .ok (.iconst 1, 1) := by decide +kernel
theorem d0_900 : decode (tb_me 0).1.2.1 900 = .ok (.iadd, 1) := by decide +kernel
theorem d0_901 : decode (tb_me 0).1.2.1 901 = .ok (.iaload, 1) := by decide +kernel
theorem d0_902 : decode (tb_me 0).1.2.1 902 = .ok (.aload_n 0, 1) := by decide +kernel
theorem d0_903 : decode (tb_me 0).1.2.1 903 = .ok (.iload_n 3, 1) := by decide +kernel
theorem d0_904 : decode (tb_me 0).1.2.1 904 = .ok (.iconst 2, 1) := by decide +kernel
theorem d0_905 : decode (tb_me 0).1.2.1 905 = .ok (.iadd, 1) := by decide +kernel
theorem d0_906 : decode (tb_me 0).1.2.1 906 = .ok (.iaload, 1) := by decide +kernel
theorem d0_907 : decode (tb_me 0).1.2.1 907 = .ok (.ifCond .eq 7, 3) := by decide +kernel
theorem d0_910 : decode (tb_me 0).1.2.1 910 = .ok (.iconst 1, 1) := by decide +kernel
theorem d0_911 : decode (tb_me 0).1.2.1 911 = .ok (.goto 4, 3) := by decide +kernel
theorem d0_914 : decode (tb_me 0).1.2.1 914 = .ok (.iconst 0, 1) := by decide +kernel
theorem d0_915 : decode (tb_me 0).1.2.1 915 = .ok (.invokevirtual 119, 3) := by decide +kernel
theorem d0_918 : decode (tb_me 0).1.2.1 918 = .ok (.if_icmp .eq 196, 3) := by decide +kernel
theorem k0_120 (b : Bool) : tb_lk b 0 120 = (2, 27, 0, 0, 0) := by cases b <;> decide +kernel
theorem k0_123 (b : Bool) : tb_lk b 0 123 = (2, 251, 0, 0, 0) := by cases b <;> decide +kernel
theorem ml27 : (tb_me 27).2 = ((0, 0), (1, 0)) ∧ (tb_me 27).1.2.2.1 = 2 := by decide +kernel
theorem ml251 : (tb_me 251).2 = ((0, 0), (1, 10)) ∧ (tb_me 251).1.2.2.1 = 7 := by decide +kernel
theorem d0_923 : decode (tb_me 0).1.2.1 923 = .ok (.aload_n 1, 1) := by decide +kernel
theorem d0_924 : decode (tb_me 0).1.2.1 924 = .ok (.aload_n 0, 1) := by decide +kernel
theorem d0_925 : decode (tb_me 0).1.2.1 925 = .ok (.iload_n 3, 1) := by decide +kernel
theorem d0_926 : decode (tb_me 0).1.2.1 926 = .ok (.iconst 1, 1) := by decide +kernel
theorem d0_927 : decode (tb_me 0).1.2.1 927 = .ok (.iadd, 1) := by decide +kernel
theorem d0_928 : decode (tb_me 0).1.2.1 928 = .ok (.iaload, 1) := by decide +kernel
theorem d0_929 : decode (tb_me 0).1.2.1 929 = .ok (.invokevirtual 120, 3) := by decide +kernel
theorem d0_932 : decode (tb_me 0).1.2.1 932 = .ok (.aload_n 2, 1) := by decide +kernel
theorem d0_933 : decode (tb_me 0).1.2.1 933 = .ok (.aload_n 0, 1) := by decide +kernel
theorem d0_934 : decode (tb_me 0).1.2.1 934 = .ok (.iload_n 3, 1) := by decide +kernel
theorem d0_935 : decode (tb_me 0).1.2.1 935 = .ok (.iconst 1, 1) := by decide +kernel
theorem d0_936 : decode (tb_me 0).1.2.1 936 = .ok (.iadd, 1) := by decide +kernel
theorem d0_937 : decode (tb_me 0).1.2.1 937 = .ok (.iaload, 1) := by decide +kernel
theorem d0_938 : decode (tb_me 0).1.2.1 938 = .ok (.invokevirtual 123, 3) := by decide +kernel
theorem d0_941 : decode (tb_me 0).1.2.1 941 = .ok (.if_icmp .eq 173, 3) := by decide +kernel
theorem k0_124 (b : Bool) : tb_lk b 0 124 = (2, 28, 0, 0, 0) := by cases b <;> decide +kernel
theorem k0_127 (b : Bool) : tb_lk b 0 127 = (2, 252, 0, 0, 0) := by cases b <;> decide +kernel
theorem ml28 : (tb_me 28).2 = ((0, 0), (1, 0)) ∧ (tb_me 28).1.2.2.1 = 3 := by decide +kernel
theorem ml252 : (tb_me 252).2 = ((0, 0), (1, 10)) ∧ (tb_me 252).1.2.2.1 = 9 := by decide +kernel
theorem d0_946 : decode (tb_me 0).1.2.1 946 = .ok (.aload_n 1, 1) := by decide +kernel
theorem d0_947 : decode (tb_me 0).1.2.1 947 = .ok (.aload_n 0, 1) := by decide +kernel
theorem d0_948 : decode (tb_me 0).1.2.1 948 = .ok (.iload_n 3, 1) := by decide +kernel
theorem d0_949 : decode (tb_me 0).1.2.1 949 = .ok (.iconst 1, 1) := by decide +kernel
theorem d0_950 : decode (tb_me 0).1.2.1 950 = .ok (.iadd, 1) := by decide +kernel
theorem d0_951 : decode (tb_me 0).1.2.1 951 = .ok (.iaload, 1) := by decide +kernel
theorem d0_952 : decode (tb_me 0).1.2.1 952 = .ok (.invokevirtual 124, 3) := by decide +kernel
theorem d0_955 : decode (tb_me 0).1.2.1 955 = .ok (.aload_n 2, 1) := by decide +kernel
theorem d0_956 : decode (tb_me 0).1.2.1 956 = .ok (.aload_n 0, 1) := by decide +kernel
theorem d0_957 : decode (tb_me 0).1.2.1 957 = .ok (.iload_n 3, 1) := by decide +kernel
theorem d0_958 : decode (tb_me 0).1.2.1 958 = .ok (.iconst 1, 1) := by decide +kernel
theorem d0_959 : decode (tb_me 0).1.2.1 959 = .ok (.iadd, 1) := by decide +kernel
theorem d0_960 : decode (tb_me 0).1.2.1 960 = .ok (.iaload, 1) := by decide +kernel
theorem d0_961 : decode (tb_me 0).1.2.1 961 = .ok (.invokevirtual 127, 3) := by decide +kernel
theorem d0_964 : decode (tb_me 0).1.2.1 964 = .ok (.if_icmp .eq 150, 3) := by decide +kernel
theorem k0_128 (b : Bool) : tb_lk b 0 128 = (2, 29, 0, 0, 0) := by cases b <;> decide +kernel
theorem k0_131 (b : Bool) : tb_lk b 0 131 = (2, 253, 0, 0, 0) := by cases b <;> decide +kernel
theorem ml29 : (tb_me 29).2 = ((0, 0), (1, 0)) ∧ (tb_me 29).1.2.2.1 = 3 := by decide +kernel
theorem ml253 : (tb_me 253).2 = ((0, 0), (1, 10)) ∧ (tb_me 253).1.2.2.1 = 3 := by decide +kernel
theorem d0_969 : decode (tb_me 0).1.2.1 969 = .ok (.aload_n 1, 1) := by decide +kernel
theorem d0_970 : decode (tb_me 0).1.2.1 970 = .ok (.aload_n 0, 1) := by decide +kernel
theorem d0_971 : decode (tb_me 0).1.2.1 971 = .ok (.iload_n 3, 1) := by decide +kernel
theorem d0_972 : decode (tb_me 0).1.2.1 972 = .ok (.iconst 1, 1) := by decide +kernel
theorem d0_973 : decode (tb_me 0).1.2.1 973 = .ok (.iadd, 1) := by decide +kernel
theorem d0_974 : decode (tb_me 0).1.2.1 974 = .ok (.iaload, 1) := by decide +kernel
theorem d0_975 : decode (tb_me 0).1.2.1 975 = .ok (.invokevirtual 128, 3) := by decide +kernel
theorem d0_978 : decode (tb_me 0).1.2.1 978 = .ok (.aload_n 2, 1) := by decide +kernel
theorem d0_979 : decode (tb_me 0).1.2.1 979 = .ok (.aload_n 0, 1) := by decide +kernel
theorem d0_980 : decode (tb_me 0).1.2.1 980 = .ok (.iload_n 3, 1) := by decide +kernel
theorem d0_981 : decode (tb_me 0).1.2.1 981 = .ok (.iconst 1, 1) := by decide +kernel
theorem d0_982 : decode (tb_me 0).1.2.1 982 = .ok (.iadd, 1) := by decide +kernel
theorem d0_983 : decode (tb_me 0).1.2.1 983 = .ok (.iaload, 1) := by decide +kernel
theorem d0_984 : decode (tb_me 0).1.2.1 984 = .ok (.invokevirtual 131, 3) := by decide +kernel
theorem d0_987 : decode (tb_me 0).1.2.1 987 = .ok (.if_icmp .eq 127, 3) := by decide +kernel
theorem k0_132 (b : Bool) : tb_lk b 0 132 = (2, 30, 0, 0, 0) := by cases b <;> decide +kernel
theorem k0_136 (b : Bool) : tb_lk b 0 136 = (2, 255, 0, 0, 0) := by cases b <;> decide +kernel
theorem ml30 : (tb_me 30).2 = ((0, 0), (4, 0)) ∧ (tb_me 30).1.2.2.1 = 5 := by decide +kernel
theorem ml255 : (tb_me 255).2 = ((0, 0), (4, 10)) ∧ (tb_me 255).1.2.2.1 = 11 := by decide +kernel
theorem d0_992 : decode (tb_me 0).1.2.1 992 = .ok (.aload_n 1, 1) := by decide +kernel
theorem d0_993 : decode (tb_me 0).1.2.1 993 = .ok (.aload_n 0, 1) := by decide +kernel
theorem d0_994 : decode (tb_me 0).1.2.1 994 = .ok (.iload_n 3, 1) := by decide +kernel
theorem d0_995 : decode (tb_me 0).1.2.1 995 = .ok (.iconst 1, 1) := by decide +kernel
theorem d0_996 : decode (tb_me 0).1.2.1 996 = .ok (.iadd, 1) := by decide +kernel
theorem d0_997 : decode (tb_me 0).1.2.1 997 = .ok (.iaload, 1) := by decide +kernel
theorem d0_998 : decode (tb_me 0).1.2.1 998 = .ok (.aload_n 0, 1) := by decide +kernel
theorem d0_999 : decode (tb_me 0).1.2.1 999 = .ok (.iload_n 3, 1) := by decide +kernel
theorem d0_1000 : decode (tb_me 0).1.2.1 1000 = .ok (.iconst 2, 1) := by decide +kernel
theorem d0_1001 : decode (tb_me 0).1.2.1 1001 = .ok (.iadd, 1) := by decide +kernel
theorem d0_1002 : decode (tb_me 0).1.2.1 1002 = .ok (.iaload, 1) := by decide +kernel
theorem d0_1003 : decode (tb_me 0).1.2.1 1003 = .ok (.aload_n 0, 1) := by decide +kernel
theorem d0_1004 : decode (tb_me 0).1.2.1 1004 = .ok (.iload_n 3, 1) := by decide +kernel
theorem d0_1005 : decode (tb_me 0).1.2.1 1005 = .ok (.iconst 3, 1) := by decide +kernel
theorem d0_1006 : decode (tb_me 0).1.2.1 1006 = .ok (.iadd, 1) := by decide +kernel
theorem d0_1007 : decode (tb_me 0).1.2.1 1007 = .ok (.iaload, 1) := by decide +kernel
theorem d0_1008 : decode (tb_me 0).1.2.1 1008 = .ok (.aload_n 0, 1) := by decide +kernel
theorem d0_1009 : decode (tb_me 0).1.2.1 1009 = .ok (.iload_n 3, 1) := by decide +kernel
theorem d0_1010 : decode (tb_me 0).1.2.1 1010 = .ok (.iconst 4, 1) := by decide +kernel
theorem d0_1011 : decode (tb_me 0).1.2.1 1011 = .ok (.iadd, 1) := by decide +kernel
theorem d0_1012 : decode (tb_me 0).1.2.1 1012 = .ok (.iaload, 1) := by decide +kernel
theorem d0_1013 : decode (tb_me 0).1.2.1 1013 = .ok (.invokevirtual 132, 3) := by decide +kernel
theorem d0_1016 : decode (tb_me 0).1.2.1 1016 = .ok (.aload_n 2, 1) := by decide +kernel
theorem d0_1017 : decode (tb_me 0).1.2.1 1017 = .ok (.aload_n 0, 1) := by decide +kernel
theorem d0_1018 : decode (tb_me 0).1.2.1 1018 = .ok (.iload_n 3, 1) := by decide +kernel
theorem d0_1019 : decode (tb_me 0).1.2.1 1019 = .ok (.iconst 1, 1) := by decide +kernel
theorem d0_1020 : decode (tb_me 0).1.2.1 1020 = .ok (.iadd, 1) := by decide +kernel
theorem d0_1021 : decode (tb_me 0).1.2.1 1021 = .ok (.iaload, 1) := by decide +kernel
theorem d0_1022 : decode (tb_me 0).1.2.1 1022 = .ok (.aload_n 0, 1) := by decide +kernel
theorem d0_1023 : decode (tb_me 0).1.2.1 1023 = .ok (.iload_n 3, 1) := by decide +kernel
theorem d0_1024 : decode (tb_me 0).1.2.1 1024 = .ok (.iconst 2, 1) := by decide +kernel
theorem d0_1025 : decode (tb_me 0).1.2.1 1025 = .ok (.iadd, 1) := by decide +kernel
theorem d0_1026 : decode (tb_me 0).1.2.1 1026 = .ok (.iaload, 1) := by decide +kernel
theorem d0_1027 : decode (tb_me 0).1.2.1 1027 = .ok (.aload_n 0, 1) := by decide +kernel
theorem d0_1028 : decode (tb_me 0).1.2.1 1028 = .ok (.iload_n 3, 1) := by decide +kernel
theorem d0_1029 : decode (tb_me 0).1.2.1 1029 = .ok (.iconst 3, 1) := by decide +kernel
theorem d0_1030 : decode (tb_me 0).1.2.1 1030 = .ok (.iadd, 1) := by decide +kernel
theorem d0_1031 : decode (tb_me 0).1.2.1 1031 = .ok (.iaload, 1) := by decide +kernel
theorem d0_1032 : decode (tb_me 0).1.2.1 1032 = .ok (.aload_n 0, 1) := by decide +kernel
theorem d0_1033 : decode (tb_me 0).1.2.1 1033 = .ok (.iload_n 3, 1) := by decide +kernel
theorem d0_1034 : decode (tb_me 0).1.2.1 1034 = .ok (.iconst 4, 1) := by decide +kernel
theorem d0_1035 : decode (tb_me 0).1.2.1 1035 = .ok (.iadd, 1) := by decide +kernel
theorem d0_1036 : decode (tb_me 0).1.2.1 1036 = .ok (.iaload, 1) := by decide +kernel
theorem d0_1037 : decode (tb_me 0).1.2.1 1037 = .ok (.invokevirtual 136, 3) := by decide +kernel
theorem d0_1040 : decode (tb_me 0).1.2.1 1040 = .ok (.if_icmp .eq 74, 3) := by decide +kernel
theorem k0_137 (b : Bool) : tb_lk b 0 137 = (2, 31, 0, 0, 0) := by cases b <;> decide +kernel
theorem k0_140 (b : Bool) : tb_lk b 0 140 = (2, 256, 0, 0, 0) := by cases b <;> decide +kernel
theorem ml31 : (tb_me 31).2 = ((0, 0), (1, 0)) ∧ (tb_me 31).1.2.2.1 = 3 := by decide +kernel
theorem ml256 : (tb_me 256).2 = ((0, 0), (1, 10)) ∧ (tb_me 256).1.2.2.1 = 2 := by decide +kernel
theorem d0_1045 : decode (tb_me 0).1.2.1 1045 = .ok (.aload_n 1, 1) := by decide +kernel
theorem d0_1046 : decode (tb_me 0).1.2.1 1046 = .ok (.aload_n 0, 1) := by decide +kernel
theorem d0_1047 : decode (tb_me 0).1.2.1 1047 = .ok (.iload_n 3, 1) := by decide +kernel
theorem d0_1048 : decode (tb_me 0).1.2.1 1048 = .ok (.iconst 1, 1) := by decide +kernel
theorem d0_1049 : decode (tb_me 0).1.2.1 1049 = .ok (.iadd, 1) := by decide +kernel
theorem d0_1050 : decode (tb_me 0).1.2.1 1050 = .ok (.iaload, 1) := by decide +kernel
theorem d0_1051 : decode (tb_me 0).1.2.1 1051 = .ok (.invokevirtual 137, 3) := by decide +kernel
theorem d0_1054 : decode (tb_me 0).1.2.1 1054 = .ok (.aload_n 2, 1) := by decide +kernel
theorem d0_1055 : decode (tb_me 0).1.2.1 1055 = .ok (.aload_n 0, 1) := by decide +kernel
theorem d0_1056 : decode (tb_me 0).1.2.1 1056 = .ok (.iload_n 3, 1) := by decide +kernel
theorem d0_1057 : decode (tb_me 0).1.2.1 1057 = .ok (.iconst 1, 1) := by decide +kernel
theorem d0_1058 : decode (tb_me 0).1.2.1 1058 = .ok (.iadd, 1) := by decide +kernel
theorem d0_1059 : decode (tb_me 0).1.2.1 1059 = .ok (.iaload, 1) := by decide +kernel
theorem d0_1060 : decode (tb_me 0).1.2.1 1060 = .ok (.invokevirtual 140, 3) := by decide +kernel
theorem d0_1063 : decode (tb_me 0).1.2.1 1063 = .ok (.if_icmp .eq 51, 3) := by decide +kernel
theorem k0_141 (b : Bool) : tb_lk b 0 141 = (2, 32, 0, 0, 0) := by cases b <;> decide +kernel
theorem k0_144 (b : Bool) : tb_lk b 0 144 = (2, 257, 0, 0, 0) := by cases b <;> decide +kernel
theorem ml32 : (tb_me 32).2 = ((0, 0), (1, 0)) ∧ (tb_me 32).1.2.2.1 = 2 := by decide +kernel
theorem ml257 : (tb_me 257).2 = ((0, 0), (1, 10)) ∧ (tb_me 257).1.2.2.1 = 3 := by decide +kernel
theorem d0_1068 : decode (tb_me 0).1.2.1 1068 = .ok (.aload_n 1, 1) := by decide +kernel
theorem d0_1069 : decode (tb_me 0).1.2.1 1069 = .ok (.aload_n 0, 1) := by decide +kernel
theorem d0_1070 : decode (tb_me 0).1.2.1 1070 = .ok (.iload_n 3, 1) := by decide +kernel
theorem d0_1071 : decode (tb_me 0).1.2.1 1071 = .ok (.iconst 1, 1) := by decide +kernel
theorem d0_1072 : decode (tb_me 0).1.2.1 1072 = .ok (.iadd, 1) := by decide +kernel
theorem d0_1073 : decode (tb_me 0).1.2.1 1073 = .ok (.iaload, 1) := by decide +kernel
theorem d0_1074 : decode (tb_me 0).1.2.1 1074 = .ok (.invokevirtual 141, 3) := by decide +kernel
theorem d0_1077 : decode (tb_me 0).1.2.1 1077 = .ok (.aload_n 2, 1) := by decide +kernel
theorem d0_1078 : decode (tb_me 0).1.2.1 1078 = .ok (.aload_n 0, 1) := by decide +kernel
theorem d0_1079 : decode (tb_me 0).1.2.1 1079 = .ok (.iload_n 3, 1) := by decide +kernel
theorem d0_1080 : decode (tb_me 0).1.2.1 1080 = .ok (.iconst 1, 1) := by decide +kernel
theorem d0_1081 : decode (tb_me 0).1.2.1 1081 = .ok (.iadd, 1) := by decide +kernel
theorem d0_1082 : decode (tb_me 0).1.2.1 1082 = .ok (.iaload, 1) := by decide +kernel
theorem d0_1083 : decode (tb_me 0).1.2.1 1083 = .ok (.invokevirtual 144, 3) := by decide +kernel
theorem d0_1086 : decode (tb_me 0).1.2.1 1086 = .ok (.if_icmp .eq 28, 3) := by decide +kernel
theorem k0_145 (b : Bool) : tb_lk b 0 145 = (2, 33, 0, 0, 0) := by cases b <;> decide +kernel
theorem k0_148 (b : Bool) : tb_lk b 0 148 = (2, 258, 0, 0, 0) := by cases b <;> decide +kernel
theorem ml33 : (tb_me 33).2 = ((0, 0), (1, 0)) ∧ (tb_me 33).1.2.2.1 = 2 := by decide +kernel
theorem ml258 : (tb_me 258).2 = ((0, 0), (1, 10)) ∧ (tb_me 258).1.2.2.1 = 3 := by decide +kernel
theorem d0_1091 : decode (tb_me 0).1.2.1 1091 = .ok (.aload_n 1, 1) := by decide +kernel

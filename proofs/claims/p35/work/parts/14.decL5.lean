/-! decode rows (printed) -/
set_option maxRecDepth 100000 in
theorem dL_law_718 : decode cL_law 718 = .ok (.iload 17, 2) := by decide +kernel
set_option maxRecDepth 100000 in
theorem dL_law_720 : decode cL_law 720 = .ok (.iload 11, 2) := by decide +kernel
set_option maxRecDepth 100000 in
theorem dL_law_722 : decode cL_law 722 = .ok (.iload 19, 2) := by decide +kernel
set_option maxRecDepth 100000 in
theorem dL_law_724 : decode cL_law 724 = .ok (.iload 20, 2) := by decide +kernel
set_option maxRecDepth 100000 in
theorem dL_law_726 : decode cL_law 726 = .ok (.invokevirtual 69, 3) := by decide +kernel
set_option maxRecDepth 100000 in
theorem dL_law_729 : decode cL_law 729 = .ok (.aload 10, 2) := by decide +kernel
set_option maxRecDepth 100000 in
theorem dL_law_731 : decode cL_law 731 = .ok (.bipush 12, 2) := by decide +kernel
set_option maxRecDepth 100000 in
theorem dL_law_733 : decode cL_law 733 = .ok (.iload 20, 2) := by decide +kernel
set_option maxRecDepth 100000 in
theorem dL_law_735 : decode cL_law 735 = .ok (.iadd, 1) := by decide +kernel
set_option maxRecDepth 100000 in
theorem dL_law_736 : decode cL_law 736 = .ok (.iaload, 1) := by decide +kernel
set_option maxRecDepth 100000 in
theorem dL_law_737 : decode cL_law 737 = .ok (.if_icmp .eq 5, 3) := by decide +kernel
set_option maxRecDepth 100000 in
theorem dL_law_740 : decode cL_law 740 = .ok (.iconst 0, 1) := by decide +kernel
set_option maxRecDepth 100000 in
theorem dL_law_741 : decode cL_law 741 = .ok (.ireturn, 1) := by decide +kernel
set_option maxRecDepth 100000 in
theorem dL_law_742 : decode cL_law 742 = .ok (.iinc 20 1, 3) := by decide +kernel
set_option maxRecDepth 100000 in
theorem dL_law_745 : decode cL_law 745 = .ok (.goto (-36), 3) := by decide +kernel
set_option maxRecDepth 100000 in
theorem dL_law_748 : decode cL_law 748 = .ok (.iinc 18 1, 3) := by decide +kernel
set_option maxRecDepth 100000 in
theorem dL_law_751 : decode cL_law 751 = .ok (.goto (-85), 3) := by decide +kernel
set_option maxRecDepth 100000 in
theorem dL_law_754 : decode cL_law 754 = .ok (.aload_n 1, 1) := by decide +kernel
set_option maxRecDepth 100000 in
theorem dL_law_755 : decode cL_law 755 = .ok (.iconst 0, 1) := by decide +kernel
set_option maxRecDepth 100000 in
theorem dL_law_756 : decode cL_law 756 = .ok (.iload 17, 2) := by decide +kernel
set_option maxRecDepth 100000 in
theorem dL_law_758 : decode cL_law 758 = .ok (.iload 11, 2) := by decide +kernel
set_option maxRecDepth 100000 in
theorem dL_law_760 : decode cL_law 760 = .ok (.iconst 0, 1) := by decide +kernel
set_option maxRecDepth 100000 in
theorem dL_law_761 : decode cL_law 761 = .ok (.invokevirtual 73, 3) := by decide +kernel
set_option maxRecDepth 100000 in
theorem dL_law_764 : decode cL_law 764 = .ok (.aload 10, 2) := by decide +kernel
set_option maxRecDepth 100000 in
theorem dL_law_766 : decode cL_law 766 = .ok (.bipush 20, 2) := by decide +kernel
set_option maxRecDepth 100000 in
theorem dL_law_768 : decode cL_law 768 = .ok (.iaload, 1) := by decide +kernel
set_option maxRecDepth 100000 in
theorem dL_law_769 : decode cL_law 769 = .ok (.if_icmp .ne 21, 3) := by decide +kernel
set_option maxRecDepth 100000 in
theorem dL_law_772 : decode cL_law 772 = .ok (.aload_n 1, 1) := by decide +kernel
set_option maxRecDepth 100000 in
theorem dL_law_773 : decode cL_law 773 = .ok (.iconst 0, 1) := by decide +kernel
set_option maxRecDepth 100000 in
theorem dL_law_774 : decode cL_law 774 = .ok (.iload 17, 2) := by decide +kernel
set_option maxRecDepth 100000 in
theorem dL_law_776 : decode cL_law 776 = .ok (.iload 11, 2) := by decide +kernel
set_option maxRecDepth 100000 in
theorem dL_law_778 : decode cL_law 778 = .ok (.iconst 1, 1) := by decide +kernel
set_option maxRecDepth 100000 in
theorem dL_law_779 : decode cL_law 779 = .ok (.invokevirtual 73, 3) := by decide +kernel
set_option maxRecDepth 100000 in
theorem dL_law_782 : decode cL_law 782 = .ok (.aload 10, 2) := by decide +kernel
set_option maxRecDepth 100000 in
theorem dL_law_784 : decode cL_law 784 = .ok (.bipush 21, 2) := by decide +kernel
set_option maxRecDepth 100000 in
theorem dL_law_786 : decode cL_law 786 = .ok (.iaload, 1) := by decide +kernel
set_option maxRecDepth 100000 in
theorem dL_law_787 : decode cL_law 787 = .ok (.if_icmp .eq 5, 3) := by decide +kernel
set_option maxRecDepth 100000 in
theorem dL_law_790 : decode cL_law 790 = .ok (.iconst 0, 1) := by decide +kernel
set_option maxRecDepth 100000 in
theorem dL_law_791 : decode cL_law 791 = .ok (.ireturn, 1) := by decide +kernel
set_option maxRecDepth 100000 in
theorem dL_law_792 : decode cL_law 792 = .ok (.iconst 0, 1) := by decide +kernel
set_option maxRecDepth 100000 in
theorem dL_law_793 : decode cL_law 793 = .ok (.istore 18, 2) := by decide +kernel
set_option maxRecDepth 100000 in
theorem dL_law_795 : decode cL_law 795 = .ok (.iconst 0, 1) := by decide +kernel
set_option maxRecDepth 100000 in
theorem dL_law_796 : decode cL_law 796 = .ok (.istore 19, 2) := by decide +kernel
set_option maxRecDepth 100000 in
theorem dL_law_798 : decode cL_law 798 = .ok (.iload 19, 2) := by decide +kernel
set_option maxRecDepth 100000 in
theorem dL_law_800 : decode cL_law 800 = .ok (.aload_n 2, 1) := by decide +kernel
set_option maxRecDepth 100000 in
theorem dL_law_801 : decode cL_law 801 = .ok (.iconst 4, 1) := by decide +kernel
set_option maxRecDepth 100000 in
theorem dL_law_802 : decode cL_law 802 = .ok (.iaload, 1) := by decide +kernel
set_option maxRecDepth 100000 in
theorem dL_law_803 : decode cL_law 803 = .ok (.if_icmp .ge 92, 3) := by decide +kernel
set_option maxRecDepth 100000 in
theorem dL_law_806 : decode cL_law 806 = .ok (.aload 10, 2) := by decide +kernel
set_option maxRecDepth 100000 in
theorem dL_law_808 : decode cL_law 808 = .ok (.iload 19, 2) := by decide +kernel
set_option maxRecDepth 100000 in
theorem dL_law_810 : decode cL_law 810 = .ok (.iaload, 1) := by decide +kernel
set_option maxRecDepth 100000 in
theorem dL_law_811 : decode cL_law 811 = .ok (.iload 19, 2) := by decide +kernel
set_option maxRecDepth 100000 in
theorem dL_law_813 : decode cL_law 813 = .ok (.iconst 1, 1) := by decide +kernel
set_option maxRecDepth 100000 in
theorem dL_law_814 : decode cL_law 814 = .ok (.iadd, 1) := by decide +kernel
set_option maxRecDepth 100000 in
theorem dL_law_815 : decode cL_law 815 = .ok (.aload 4, 2) := by decide +kernel
set_option maxRecDepth 100000 in
theorem dL_law_817 : decode cL_law 817 = .ok (.iload 17, 2) := by decide +kernel
set_option maxRecDepth 100000 in
theorem dL_law_819 : decode cL_law 819 = .ok (.iaload, 1) := by decide +kernel
set_option maxRecDepth 100000 in
theorem dL_law_820 : decode cL_law 820 = .ok (.imul, 1) := by decide +kernel
set_option maxRecDepth 100000 in
theorem dL_law_821 : decode cL_law 821 = .ok (.aload_n 2, 1) := by decide +kernel
set_option maxRecDepth 100000 in
theorem dL_law_822 : decode cL_law 822 = .ok (.iconst 4, 1) := by decide +kernel
set_option maxRecDepth 100000 in
theorem dL_law_823 : decode cL_law 823 = .ok (.iaload, 1) := by decide +kernel
set_option maxRecDepth 100000 in
theorem dL_law_824 : decode cL_law 824 = .ok (.idiv, 1) := by decide +kernel
set_option maxRecDepth 100000 in
theorem dL_law_825 : decode cL_law 825 = .ok (.isub, 1) := by decide +kernel
set_option maxRecDepth 100000 in
theorem dL_law_826 : decode cL_law 826 = .ok (.istore 20, 2) := by decide +kernel
set_option maxRecDepth 100000 in
theorem dL_law_828 : decode cL_law 828 = .ok (.iload 18, 2) := by decide +kernel
set_option maxRecDepth 100000 in
theorem dL_law_830 : decode cL_law 830 = .ok (.iload 20, 2) := by decide +kernel
set_option maxRecDepth 100000 in
theorem dL_law_832 : decode cL_law 832 = .ok (.invokestatic 76, 3) := by decide +kernel
set_option maxRecDepth 100000 in
theorem dL_law_835 : decode cL_law 835 = .ok (.iadd, 1) := by decide +kernel
set_option maxRecDepth 100000 in
theorem dL_law_836 : decode cL_law 836 = .ok (.istore 18, 2) := by decide +kernel
set_option maxRecDepth 100000 in
theorem dL_law_838 : decode cL_law 838 = .ok (.aload_n 1, 1) := by decide +kernel
set_option maxRecDepth 100000 in
theorem dL_law_839 : decode cL_law 839 = .ok (.iconst 0, 1) := by decide +kernel
set_option maxRecDepth 100000 in
theorem dL_law_840 : decode cL_law 840 = .ok (.iload 17, 2) := by decide +kernel
set_option maxRecDepth 100000 in
theorem dL_law_842 : decode cL_law 842 = .ok (.iload 11, 2) := by decide +kernel
set_option maxRecDepth 100000 in
theorem dL_law_844 : decode cL_law 844 = .ok (.iload 19, 2) := by decide +kernel
set_option maxRecDepth 100000 in
theorem dL_law_846 : decode cL_law 846 = .ok (.invokevirtual 79, 3) := by decide +kernel
set_option maxRecDepth 100000 in
theorem dL_law_849 : decode cL_law 849 = .ok (.aload 10, 2) := by decide +kernel
set_option maxRecDepth 100000 in
theorem dL_law_851 : decode cL_law 851 = .ok (.iload 19, 2) := by decide +kernel
set_option maxRecDepth 100000 in
theorem dL_law_853 : decode cL_law 853 = .ok (.iaload, 1) := by decide +kernel
set_option maxRecDepth 100000 in
theorem dL_law_854 : decode cL_law 854 = .ok (.bipush 95, 2) := by decide +kernel
set_option maxRecDepth 100000 in
theorem dL_law_856 : decode cL_law 856 = .ok (.if_icmp .le 7, 3) := by decide +kernel
set_option maxRecDepth 100000 in
theorem dL_law_859 : decode cL_law 859 = .ok (.iconst (-1), 1) := by decide +kernel
set_option maxRecDepth 100000 in
theorem dL_law_860 : decode cL_law 860 = .ok (.goto 8, 3) := by decide +kernel
set_option maxRecDepth 100000 in
theorem dL_law_863 : decode cL_law 863 = .ok (.aload 10, 2) := by decide +kernel
set_option maxRecDepth 100000 in
theorem dL_law_865 : decode cL_law 865 = .ok (.iload 19, 2) := by decide +kernel
set_option maxRecDepth 100000 in
theorem dL_law_867 : decode cL_law 867 = .ok (.iaload, 1) := by decide +kernel
set_option maxRecDepth 100000 in
theorem dL_law_868 : decode cL_law 868 = .ok (.if_icmp .ne 19, 3) := by decide +kernel
set_option maxRecDepth 100000 in
theorem dL_law_871 : decode cL_law 871 = .ok (.aload_n 1, 1) := by decide +kernel
set_option maxRecDepth 100000 in
theorem dL_law_872 : decode cL_law 872 = .ok (.iconst 0, 1) := by decide +kernel
set_option maxRecDepth 100000 in
theorem dL_law_873 : decode cL_law 873 = .ok (.iload 17, 2) := by decide +kernel
set_option maxRecDepth 100000 in
theorem dL_law_875 : decode cL_law 875 = .ok (.iload 11, 2) := by decide +kernel
set_option maxRecDepth 100000 in
theorem dL_law_877 : decode cL_law 877 = .ok (.iload 19, 2) := by decide +kernel
set_option maxRecDepth 100000 in
theorem dL_law_879 : decode cL_law 879 = .ok (.invokevirtual 82, 3) := by decide +kernel
set_option maxRecDepth 100000 in
theorem dL_law_882 : decode cL_law 882 = .ok (.iload 20, 2) := by decide +kernel
set_option maxRecDepth 100000 in
theorem dL_law_884 : decode cL_law 884 = .ok (.if_icmp .eq 5, 3) := by decide +kernel
set_option maxRecDepth 100000 in
theorem dL_law_887 : decode cL_law 887 = .ok (.iconst 0, 1) := by decide +kernel
set_option maxRecDepth 100000 in
theorem dL_law_888 : decode cL_law 888 = .ok (.ireturn, 1) := by decide +kernel
set_option maxRecDepth 100000 in
theorem dL_law_889 : decode cL_law 889 = .ok (.iinc 19 1, 3) := by decide +kernel
set_option maxRecDepth 100000 in
theorem dL_law_892 : decode cL_law 892 = .ok (.goto (-94), 3) := by decide +kernel
set_option maxRecDepth 100000 in
theorem dL_law_895 : decode cL_law 895 = .ok (.iload 18, 2) := by decide +kernel
set_option maxRecDepth 100000 in
theorem dL_law_897 : decode cL_law 897 = .ok (.istore 19, 2) := by decide +kernel
set_option maxRecDepth 100000 in
theorem dL_law_899 : decode cL_law 899 = .ok (.aload_n 2, 1) := by decide +kernel
set_option maxRecDepth 100000 in
theorem dL_law_900 : decode cL_law 900 = .ok (.iconst 4, 1) := by decide +kernel
set_option maxRecDepth 100000 in
theorem dL_law_901 : decode cL_law 901 = .ok (.iaload, 1) := by decide +kernel
set_option maxRecDepth 100000 in
theorem dL_law_902 : decode cL_law 902 = .ok (.istore 20, 2) := by decide +kernel
set_option maxRecDepth 100000 in
theorem dL_law_904 : decode cL_law 904 = .ok (.iload 19, 2) := by decide +kernel
set_option maxRecDepth 100000 in
theorem dL_law_906 : decode cL_law 906 = .ok (.ifCond .le 21, 3) := by decide +kernel
set_option maxRecDepth 100000 in
theorem dL_law_909 : decode cL_law 909 = .ok (.iload 20, 2) := by decide +kernel
set_option maxRecDepth 100000 in
theorem dL_law_911 : decode cL_law 911 = .ok (.iload 19, 2) := by decide +kernel
set_option maxRecDepth 100000 in
theorem dL_law_913 : decode cL_law 913 = .ok (.irem, 1) := by decide +kernel
set_option maxRecDepth 100000 in
theorem dL_law_914 : decode cL_law 914 = .ok (.istore 21, 2) := by decide +kernel
set_option maxRecDepth 100000 in
theorem dL_law_916 : decode cL_law 916 = .ok (.iload 19, 2) := by decide +kernel
set_option maxRecDepth 100000 in
theorem dL_law_918 : decode cL_law 918 = .ok (.istore 20, 2) := by decide +kernel
set_option maxRecDepth 100000 in
theorem dL_law_920 : decode cL_law 920 = .ok (.iload 21, 2) := by decide +kernel
set_option maxRecDepth 100000 in
theorem dL_law_922 : decode cL_law 922 = .ok (.istore 19, 2) := by decide +kernel
set_option maxRecDepth 100000 in
theorem dL_law_924 : decode cL_law 924 = .ok (.goto (-20), 3) := by decide +kernel
set_option maxRecDepth 100000 in
theorem dL_law_927 : decode cL_law 927 = .ok (.aload_n 1, 1) := by decide +kernel
set_option maxRecDepth 100000 in
theorem dL_law_928 : decode cL_law 928 = .ok (.iconst 0, 1) := by decide +kernel
set_option maxRecDepth 100000 in
theorem dL_law_929 : decode cL_law 929 = .ok (.iload 17, 2) := by decide +kernel
set_option maxRecDepth 100000 in
theorem dL_law_931 : decode cL_law 931 = .ok (.iload 11, 2) := by decide +kernel
set_option maxRecDepth 100000 in
theorem dL_law_933 : decode cL_law 933 = .ok (.iconst 0, 1) := by decide +kernel
set_option maxRecDepth 100000 in
theorem dL_law_934 : decode cL_law 934 = .ok (.invokevirtual 85, 3) := by decide +kernel
set_option maxRecDepth 100000 in
theorem dL_law_937 : decode cL_law 937 = .ok (.iload 18, 2) := by decide +kernel
set_option maxRecDepth 100000 in
theorem dL_law_939 : decode cL_law 939 = .ok (.iload 20, 2) := by decide +kernel
set_option maxRecDepth 100000 in
theorem dL_law_941 : decode cL_law 941 = .ok (.idiv, 1) := by decide +kernel
set_option maxRecDepth 100000 in
theorem dL_law_942 : decode cL_law 942 = .ok (.if_icmp .ne 22, 3) := by decide +kernel
set_option maxRecDepth 100000 in
theorem dL_law_945 : decode cL_law 945 = .ok (.aload_n 1, 1) := by decide +kernel
set_option maxRecDepth 100000 in
theorem dL_law_946 : decode cL_law 946 = .ok (.iconst 0, 1) := by decide +kernel
set_option maxRecDepth 100000 in
theorem dL_law_947 : decode cL_law 947 = .ok (.iload 17, 2) := by decide +kernel
set_option maxRecDepth 100000 in
theorem dL_law_949 : decode cL_law 949 = .ok (.iload 11, 2) := by decide +kernel
set_option maxRecDepth 100000 in
theorem dL_law_951 : decode cL_law 951 = .ok (.iconst 1, 1) := by decide +kernel
set_option maxRecDepth 100000 in
theorem dL_law_952 : decode cL_law 952 = .ok (.invokevirtual 85, 3) := by decide +kernel
set_option maxRecDepth 100000 in
theorem dL_law_955 : decode cL_law 955 = .ok (.aload_n 2, 1) := by decide +kernel
set_option maxRecDepth 100000 in
theorem dL_law_956 : decode cL_law 956 = .ok (.iconst 4, 1) := by decide +kernel
set_option maxRecDepth 100000 in
theorem dL_law_957 : decode cL_law 957 = .ok (.iaload, 1) := by decide +kernel
set_option maxRecDepth 100000 in
theorem dL_law_958 : decode cL_law 958 = .ok (.iload 20, 2) := by decide +kernel
set_option maxRecDepth 100000 in
theorem dL_law_960 : decode cL_law 960 = .ok (.idiv, 1) := by decide +kernel
set_option maxRecDepth 100000 in
theorem dL_law_961 : decode cL_law 961 = .ok (.if_icmp .eq 5, 3) := by decide +kernel
set_option maxRecDepth 100000 in
theorem dL_law_964 : decode cL_law 964 = .ok (.iconst 0, 1) := by decide +kernel
set_option maxRecDepth 100000 in
theorem dL_law_965 : decode cL_law 965 = .ok (.ireturn, 1) := by decide +kernel
set_option maxRecDepth 100000 in
theorem dL_law_966 : decode cL_law 966 = .ok (.bipush 64, 2) := by decide +kernel
set_option maxRecDepth 100000 in
theorem dL_law_968 : decode cL_law 968 = .ok (.newarray .int, 2) := by decide +kernel
set_option maxRecDepth 100000 in
theorem dL_law_970 : decode cL_law 970 = .ok (.astore 21, 2) := by decide +kernel
set_option maxRecDepth 100000 in
theorem dL_law_972 : decode cL_law 972 = .ok (.bipush 64, 2) := by decide +kernel
set_option maxRecDepth 100000 in
theorem dL_law_974 : decode cL_law 974 = .ok (.newarray .int, 2) := by decide +kernel
set_option maxRecDepth 100000 in
theorem dL_law_976 : decode cL_law 976 = .ok (.astore 22, 2) := by decide +kernel
set_option maxRecDepth 100000 in
theorem dL_law_978 : decode cL_law 978 = .ok (.iconst 0, 1) := by decide +kernel
set_option maxRecDepth 100000 in
theorem dL_law_979 : decode cL_law 979 = .ok (.istore 23, 2) := by decide +kernel
set_option maxRecDepth 100000 in
theorem dL_law_981 : decode cL_law 981 = .ok (.iconst 4, 1) := by decide +kernel
set_option maxRecDepth 100000 in
theorem dL_law_982 : decode cL_law 982 = .ok (.newarray .int, 2) := by decide +kernel
set_option maxRecDepth 100000 in
theorem dL_law_984 : decode cL_law 984 = .ok (.astore 24, 2) := by decide +kernel
set_option maxRecDepth 100000 in
theorem dL_law_986 : decode cL_law 986 = .ok (.bipush 6, 2) := by decide +kernel
set_option maxRecDepth 100000 in
theorem dL_law_988 : decode cL_law 988 = .ok (.newarray .int, 2) := by decide +kernel
set_option maxRecDepth 100000 in
theorem dL_law_990 : decode cL_law 990 = .ok (.astore 25, 2) := by decide +kernel
set_option maxRecDepth 100000 in
theorem dL_law_992 : decode cL_law 992 = .ok (.bipush 64, 2) := by decide +kernel
set_option maxRecDepth 100000 in
theorem dL_law_994 : decode cL_law 994 = .ok (.newarray .int, 2) := by decide +kernel
set_option maxRecDepth 100000 in
theorem dL_law_996 : decode cL_law 996 = .ok (.astore 26, 2) := by decide +kernel
set_option maxRecDepth 100000 in
theorem dL_law_998 : decode cL_law 998 = .ok (.iconst 0, 1) := by decide +kernel
set_option maxRecDepth 100000 in
theorem dL_law_999 : decode cL_law 999 = .ok (.istore 27, 2) := by decide +kernel
set_option maxRecDepth 100000 in
theorem dL_law_1001 : decode cL_law 1001 = .ok (.iconst 0, 1) := by decide +kernel
set_option maxRecDepth 100000 in
theorem dL_law_1002 : decode cL_law 1002 = .ok (.istore 28, 2) := by decide +kernel
set_option maxRecDepth 100000 in
theorem dL_law_1004 : decode cL_law 1004 = .ok (.iconst 0, 1) := by decide +kernel
set_option maxRecDepth 100000 in
theorem dL_law_1005 : decode cL_law 1005 = .ok (.istore 29, 2) := by decide +kernel
set_option maxRecDepth 100000 in
theorem dL_law_1007 : decode cL_law 1007 = .ok (.iconst (-1), 1) := by decide +kernel
set_option maxRecDepth 100000 in
theorem dL_law_1008 : decode cL_law 1008 = .ok (.istore 30, 2) := by decide +kernel
set_option maxRecDepth 100000 in
theorem dL_law_1010 : decode cL_law 1010 = .ok (.iconst (-1), 1) := by decide +kernel
set_option maxRecDepth 100000 in
theorem dL_law_1011 : decode cL_law 1011 = .ok (.istore 31, 2) := by decide +kernel
set_option maxRecDepth 100000 in
theorem dL_law_1013 : decode cL_law 1013 = .ok (.iconst 0, 1) := by decide +kernel
set_option maxRecDepth 100000 in
theorem dL_law_1014 : decode cL_law 1014 = .ok (.istore 32, 2) := by decide +kernel
set_option maxRecDepth 100000 in
theorem dL_law_1016 : decode cL_law 1016 = .ok (.iconst 0, 1) := by decide +kernel
set_option maxRecDepth 100000 in
theorem dL_law_1017 : decode cL_law 1017 = .ok (.istore 33, 2) := by decide +kernel
set_option maxRecDepth 100000 in
theorem dL_law_1019 : decode cL_law 1019 = .ok (.iload 33, 2) := by decide +kernel
set_option maxRecDepth 100000 in
theorem dL_law_1021 : decode cL_law 1021 = .ok (.bipush 96, 2) := by decide +kernel
set_option maxRecDepth 100000 in
theorem dL_law_1023 : decode cL_law 1023 = .ok (.if_icmp .ge 367, 3) := by decide +kernel
set_option maxRecDepth 100000 in
theorem dL_law_1026 : decode cL_law 1026 = .ok (.iconst 0, 1) := by decide +kernel
set_option maxRecDepth 100000 in
theorem dL_law_1027 : decode cL_law 1027 = .ok (.istore 34, 2) := by decide +kernel
set_option maxRecDepth 100000 in
theorem dL_law_1029 : decode cL_law 1029 = .ok (.iconst 1, 1) := by decide +kernel
set_option maxRecDepth 100000 in
theorem dL_law_1030 : decode cL_law 1030 = .ok (.istore 35, 2) := by decide +kernel
set_option maxRecDepth 100000 in
theorem dL_law_1032 : decode cL_law 1032 = .ok (.iload 35, 2) := by decide +kernel
set_option maxRecDepth 100000 in
theorem dL_law_1034 : decode cL_law 1034 = .ok (.ifCond .eq 350, 3) := by decide +kernel
set_option maxRecDepth 100000 in
theorem dL_law_1037 : decode cL_law 1037 = .ok (.iconst (-1), 1) := by decide +kernel
set_option maxRecDepth 100000 in
theorem dL_law_1038 : decode cL_law 1038 = .ok (.istore 36, 2) := by decide +kernel
set_option maxRecDepth 100000 in
theorem dL_law_1040 : decode cL_law 1040 = .ok (.iload 34, 2) := by decide +kernel
set_option maxRecDepth 100000 in
theorem dL_law_1042 : decode cL_law 1042 = .ok (.iload 23, 2) := by decide +kernel
set_option maxRecDepth 100000 in
theorem dL_law_1044 : decode cL_law 1044 = .ok (.if_icmp .ge 35, 3) := by decide +kernel
set_option maxRecDepth 100000 in
theorem dL_law_1047 : decode cL_law 1047 = .ok (.iload 36, 2) := by decide +kernel
set_option maxRecDepth 100000 in
theorem dL_law_1049 : decode cL_law 1049 = .ok (.ifCond .ge 30, 3) := by decide +kernel
set_option maxRecDepth 100000 in
theorem dL_law_1052 : decode cL_law 1052 = .ok (.aload 22, 2) := by decide +kernel
set_option maxRecDepth 100000 in
theorem dL_law_1054 : decode cL_law 1054 = .ok (.iload 34, 2) := by decide +kernel
set_option maxRecDepth 100000 in
theorem dL_law_1056 : decode cL_law 1056 = .ok (.iaload, 1) := by decide +kernel
set_option maxRecDepth 100000 in
theorem dL_law_1057 : decode cL_law 1057 = .ok (.iload 33, 2) := by decide +kernel
set_option maxRecDepth 100000 in
theorem dL_law_1059 : decode cL_law 1059 = .ok (.if_icmp .ne 11, 3) := by decide +kernel
set_option maxRecDepth 100000 in
theorem dL_law_1062 : decode cL_law 1062 = .ok (.aload 21, 2) := by decide +kernel
set_option maxRecDepth 100000 in
theorem dL_law_1064 : decode cL_law 1064 = .ok (.iload 34, 2) := by decide +kernel
set_option maxRecDepth 100000 in
theorem dL_law_1066 : decode cL_law 1066 = .ok (.iaload, 1) := by decide +kernel
set_option maxRecDepth 100000 in
theorem dL_law_1067 : decode cL_law 1067 = .ok (.goto 4, 3) := by decide +kernel
set_option maxRecDepth 100000 in
theorem dL_law_1070 : decode cL_law 1070 = .ok (.iconst (-1), 1) := by decide +kernel
set_option maxRecDepth 100000 in
theorem dL_law_1071 : decode cL_law 1071 = .ok (.istore 36, 2) := by decide +kernel
set_option maxRecDepth 100000 in
theorem dL_law_1073 : decode cL_law 1073 = .ok (.iinc 34 1, 3) := by decide +kernel
set_option maxRecDepth 100000 in
theorem dL_law_1076 : decode cL_law 1076 = .ok (.goto (-36), 3) := by decide +kernel
set_option maxRecDepth 100000 in
theorem dL_law_1079 : decode cL_law 1079 = .ok (.iload 36, 2) := by decide +kernel
set_option maxRecDepth 100000 in
theorem dL_law_1081 : decode cL_law 1081 = .ok (.ifCond .ge 36, 3) := by decide +kernel
set_option maxRecDepth 100000 in
theorem dL_law_1084 : decode cL_law 1084 = .ok (.iload 32, 2) := by decide +kernel
set_option maxRecDepth 100000 in
theorem dL_law_1086 : decode cL_law 1086 = .ok (.aload_n 2, 1) := by decide +kernel
set_option maxRecDepth 100000 in
theorem dL_law_1087 : decode cL_law 1087 = .ok (.iconst 4, 1) := by decide +kernel
set_option maxRecDepth 100000 in
theorem dL_law_1088 : decode cL_law 1088 = .ok (.iaload, 1) := by decide +kernel
set_option maxRecDepth 100000 in
theorem dL_law_1089 : decode cL_law 1089 = .ok (.if_icmp .ge 28, 3) := by decide +kernel
set_option maxRecDepth 100000 in
theorem dL_law_1092 : decode cL_law 1092 = .ok (.aload 10, 2) := by decide +kernel
set_option maxRecDepth 100000 in
theorem dL_law_1094 : decode cL_law 1094 = .ok (.iload 32, 2) := by decide +kernel
set_option maxRecDepth 100000 in
theorem dL_law_1096 : decode cL_law 1096 = .ok (.iaload, 1) := by decide +kernel
set_option maxRecDepth 100000 in
theorem dL_law_1097 : decode cL_law 1097 = .ok (.iload 33, 2) := by decide +kernel
set_option maxRecDepth 100000 in
theorem dL_law_1099 : decode cL_law 1099 = .ok (.if_icmp .ne 18, 3) := by decide +kernel
set_option maxRecDepth 100000 in
theorem dL_law_1102 : decode cL_law 1102 = .ok (.iinc 32 1, 3) := by decide +kernel
set_option maxRecDepth 100000 in
theorem dL_law_1105 : decode cL_law 1105 = .ok (.iload 5, 2) := by decide +kernel
set_option maxRecDepth 100000 in
theorem dL_law_1107 : decode cL_law 1107 = .ok (.iconst 1, 1) := by decide +kernel
set_option maxRecDepth 100000 in
theorem dL_law_1108 : decode cL_law 1108 = .ok (.isub, 1) := by decide +kernel
set_option maxRecDepth 100000 in
theorem dL_law_1109 : decode cL_law 1109 = .ok (.istore 36, 2) := by decide +kernel
set_option maxRecDepth 100000 in
theorem dL_law_1111 : decode cL_law 1111 = .ok (.iconst 1, 1) := by decide +kernel
set_option maxRecDepth 100000 in
theorem dL_law_1112 : decode cL_law 1112 = .ok (.istore 35, 2) := by decide +kernel
set_option maxRecDepth 100000 in
theorem dL_law_1114 : decode cL_law 1114 = .ok (.goto 15, 3) := by decide +kernel
set_option maxRecDepth 100000 in
theorem dL_law_1117 : decode cL_law 1117 = .ok (.iload 36, 2) := by decide +kernel
set_option maxRecDepth 100000 in
theorem dL_law_1119 : decode cL_law 1119 = .ok (.ifCond .lt 7, 3) := by decide +kernel
set_option maxRecDepth 100000 in
theorem dL_law_1122 : decode cL_law 1122 = .ok (.iconst 1, 1) := by decide +kernel
set_option maxRecDepth 100000 in
theorem dL_law_1123 : decode cL_law 1123 = .ok (.goto 4, 3) := by decide +kernel
set_option maxRecDepth 100000 in
theorem dL_law_1126 : decode cL_law 1126 = .ok (.iconst 0, 1) := by decide +kernel
set_option maxRecDepth 100000 in
theorem dL_law_1127 : decode cL_law 1127 = .ok (.istore 35, 2) := by decide +kernel
set_option maxRecDepth 100000 in
theorem dL_law_1129 : decode cL_law 1129 = .ok (.iload 36, 2) := by decide +kernel
set_option maxRecDepth 100000 in
theorem dL_law_1131 : decode cL_law 1131 = .ok (.ifCond .lt 250, 3) := by decide +kernel
set_option maxRecDepth 100000 in
theorem dL_law_1134 : decode cL_law 1134 = .ok (.aload 8, 2) := by decide +kernel
set_option maxRecDepth 100000 in
theorem dL_law_1136 : decode cL_law 1136 = .ok (.iload 36, 2) := by decide +kernel
set_option maxRecDepth 100000 in
theorem dL_law_1138 : decode cL_law 1138 = .ok (.iaload, 1) := by decide +kernel
set_option maxRecDepth 100000 in
theorem dL_law_1139 : decode cL_law 1139 = .ok (.istore 37, 2) := by decide +kernel
set_option maxRecDepth 100000 in
theorem dL_law_1141 : decode cL_law 1141 = .ok (.aload 6, 2) := by decide +kernel
set_option maxRecDepth 100000 in
theorem dL_law_1143 : decode cL_law 1143 = .ok (.iload 36, 2) := by decide +kernel
set_option maxRecDepth 100000 in
theorem dL_law_1145 : decode cL_law 1145 = .ok (.iaload, 1) := by decide +kernel
set_option maxRecDepth 100000 in
theorem dL_law_1146 : decode cL_law 1146 = .ok (.iconst 1, 1) := by decide +kernel
set_option maxRecDepth 100000 in
theorem dL_law_1147 : decode cL_law 1147 = .ok (.if_icmp .ne 19, 3) := by decide +kernel
set_option maxRecDepth 100000 in
theorem dL_law_1150 : decode cL_law 1150 = .ok (.iload 28, 2) := by decide +kernel
set_option maxRecDepth 100000 in
theorem dL_law_1152 : decode cL_law 1152 = .ok (.iload 32, 2) := by decide +kernel
set_option maxRecDepth 100000 in
theorem dL_law_1154 : decode cL_law 1154 = .ok (.aload 7, 2) := by decide +kernel
set_option maxRecDepth 100000 in
theorem dL_law_1156 : decode cL_law 1156 = .ok (.iload 36, 2) := by decide +kernel
set_option maxRecDepth 100000 in
theorem dL_law_1158 : decode cL_law 1158 = .ok (.iaload, 1) := by decide +kernel
set_option maxRecDepth 100000 in
theorem dL_law_1159 : decode cL_law 1159 = .ok (.iadd, 1) := by decide +kernel
set_option maxRecDepth 100000 in
theorem dL_law_1160 : decode cL_law 1160 = .ok (.iadd, 1) := by decide +kernel
set_option maxRecDepth 100000 in
theorem dL_law_1161 : decode cL_law 1161 = .ok (.istore 28, 2) := by decide +kernel
set_option maxRecDepth 100000 in
theorem dL_law_1163 : decode cL_law 1163 = .ok (.goto 211, 3) := by decide +kernel
set_option maxRecDepth 100000 in
theorem dL_law_1166 : decode cL_law 1166 = .ok (.aload 6, 2) := by decide +kernel
set_option maxRecDepth 100000 in
theorem dL_law_1168 : decode cL_law 1168 = .ok (.iload 36, 2) := by decide +kernel
set_option maxRecDepth 100000 in
theorem dL_law_1170 : decode cL_law 1170 = .ok (.iaload, 1) := by decide +kernel
set_option maxRecDepth 100000 in
theorem dL_law_1171 : decode cL_law 1171 = .ok (.iconst 2, 1) := by decide +kernel
set_option maxRecDepth 100000 in
theorem dL_law_1172 : decode cL_law 1172 = .ok (.if_icmp .ne 20, 3) := by decide +kernel
set_option maxRecDepth 100000 in
theorem dL_law_1175 : decode cL_law 1175 = .ok (.iload 27, 2) := by decide +kernel
set_option maxRecDepth 100000 in
theorem dL_law_1177 : decode cL_law 1177 = .ok (.iload 36, 2) := by decide +kernel
set_option maxRecDepth 100000 in
theorem dL_law_1179 : decode cL_law 1179 = .ok (.ishr, 1) := by decide +kernel
set_option maxRecDepth 100000 in
theorem dL_law_1180 : decode cL_law 1180 = .ok (.iconst 1, 1) := by decide +kernel
set_option maxRecDepth 100000 in
theorem dL_law_1181 : decode cL_law 1181 = .ok (.iand, 1) := by decide +kernel
set_option maxRecDepth 100000 in
theorem dL_law_1182 : decode cL_law 1182 = .ok (.iconst 1, 1) := by decide +kernel
set_option maxRecDepth 100000 in
theorem dL_law_1183 : decode cL_law 1183 = .ok (.if_icmp .ne 9, 3) := by decide +kernel
set_option maxRecDepth 100000 in
theorem dL_law_1186 : decode cL_law 1186 = .ok (.iconst (-1), 1) := by decide +kernel
set_option maxRecDepth 100000 in
theorem dL_law_1187 : decode cL_law 1187 = .ok (.istore 37, 2) := by decide +kernel
set_option maxRecDepth 100000 in
theorem dL_law_1189 : decode cL_law 1189 = .ok (.goto 185, 3) := by decide +kernel
set_option maxRecDepth 100000 in
theorem dL_law_1192 : decode cL_law 1192 = .ok (.aload 6, 2) := by decide +kernel
set_option maxRecDepth 100000 in
theorem dL_law_1194 : decode cL_law 1194 = .ok (.iload 36, 2) := by decide +kernel
set_option maxRecDepth 100000 in
theorem dL_law_1196 : decode cL_law 1196 = .ok (.iaload, 1) := by decide +kernel
set_option maxRecDepth 100000 in
theorem dL_law_1197 : decode cL_law 1197 = .ok (.iconst 2, 1) := by decide +kernel
set_option maxRecDepth 100000 in
theorem dL_law_1198 : decode cL_law 1198 = .ok (.if_icmp .ne 59, 3) := by decide +kernel
set_option maxRecDepth 100000 in
theorem dL_law_1201 : decode cL_law 1201 = .ok (.aload 24, 2) := by decide +kernel
set_option maxRecDepth 100000 in
theorem dL_law_1203 : decode cL_law 1203 = .ok (.aload 7, 2) := by decide +kernel
set_option maxRecDepth 100000 in
theorem dL_law_1205 : decode cL_law 1205 = .ok (.iload 36, 2) := by decide +kernel
set_option maxRecDepth 100000 in
theorem dL_law_1207 : decode cL_law 1207 = .ok (.iaload, 1) := by decide +kernel
set_option maxRecDepth 100000 in
theorem dL_law_1208 : decode cL_law 1208 = .ok (.iaload, 1) := by decide +kernel
set_option maxRecDepth 100000 in
theorem dL_law_1209 : decode cL_law 1209 = .ok (.iload 33, 2) := by decide +kernel
set_option maxRecDepth 100000 in
theorem dL_law_1211 : decode cL_law 1211 = .ok (.if_icmp .le 46, 3) := by decide +kernel
set_option maxRecDepth 100000 in
theorem dL_law_1214 : decode cL_law 1214 = .ok (.iload 27, 2) := by decide +kernel
set_option maxRecDepth 100000 in
theorem dL_law_1216 : decode cL_law 1216 = .ok (.iconst 1, 1) := by decide +kernel
set_option maxRecDepth 100000 in
theorem dL_law_1217 : decode cL_law 1217 = .ok (.iload 36, 2) := by decide +kernel

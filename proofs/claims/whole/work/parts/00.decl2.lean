theorem dd_L_law_713 : decode code 713 = .ok (.iaload, 1) := by decide +kernel
theorem dd_L_law_714 : decode code 714 = .ok (.aload_n 0, 1) := by decide +kernel
theorem dd_L_law_715 : decode code 715 = .ok (.iload 4, 2) := by decide +kernel
theorem dd_L_law_717 : decode code 717 = .ok (.iconst 2, 1) := by decide +kernel
theorem dd_L_law_718 : decode code 718 = .ok (.iadd, 1) := by decide +kernel
theorem dd_L_law_719 : decode code 719 = .ok (.iaload, 1) := by decide +kernel
theorem dd_L_law_720 : decode code 720 = .ok (.aload_n 0, 1) := by decide +kernel
theorem dd_L_law_721 : decode code 721 = .ok (.iload 4, 2) := by decide +kernel
theorem dd_L_law_723 : decode code 723 = .ok (.iconst 3, 1) := by decide +kernel
theorem dd_L_law_724 : decode code 724 = .ok (.iadd, 1) := by decide +kernel
theorem dd_L_law_725 : decode code 725 = .ok (.iaload, 1) := by decide +kernel
theorem dd_L_law_726 : decode code 726 = .ok (.aload_n 3, 1) := by decide +kernel
theorem dd_L_law_727 : decode code 727 = .ok (.invokestatic 130, 3) := by decide +kernel
theorem dd_L_law_730 : decode code 730 = .ok (.istore 5, 2) := by decide +kernel
theorem dd_L_law_732 : decode code 732 = .ok (.aload_n 2, 1) := by decide +kernel
theorem dd_L_law_733 : decode code 733 = .ok (.aload_n 0, 1) := by decide +kernel
theorem dd_L_law_734 : decode code 734 = .ok (.iload 4, 2) := by decide +kernel
theorem dd_L_law_736 : decode code 736 = .ok (.iconst 1, 1) := by decide +kernel
theorem dd_L_law_737 : decode code 737 = .ok (.iadd, 1) := by decide +kernel
theorem dd_L_law_738 : decode code 738 = .ok (.iaload, 1) := by decide +kernel
theorem dd_L_law_739 : decode code 739 = .ok (.aload_n 0, 1) := by decide +kernel
theorem dd_L_law_740 : decode code 740 = .ok (.iload 4, 2) := by decide +kernel
theorem dd_L_law_742 : decode code 742 = .ok (.iconst 2, 1) := by decide +kernel
theorem dd_L_law_743 : decode code 743 = .ok (.iadd, 1) := by decide +kernel
theorem dd_L_law_744 : decode code 744 = .ok (.iaload, 1) := by decide +kernel
theorem dd_L_law_745 : decode code 745 = .ok (.aload_n 0, 1) := by decide +kernel
theorem dd_L_law_746 : decode code 746 = .ok (.iload 4, 2) := by decide +kernel
theorem dd_L_law_748 : decode code 748 = .ok (.iconst 3, 1) := by decide +kernel
theorem dd_L_law_749 : decode code 749 = .ok (.iadd, 1) := by decide +kernel
theorem dd_L_law_750 : decode code 750 = .ok (.iaload, 1) := by decide +kernel
theorem dd_L_law_751 : decode code 751 = .ok (.invokevirtual 132, 3) := by decide +kernel
theorem dd_L_law_754 : decode code 754 = .ok (.istore 6, 2) := by decide +kernel
theorem dd_L_law_756 : decode code 756 = .ok (.aload_n 2, 1) := by decide +kernel
theorem dd_L_law_757 : decode code 757 = .ok (.invokevirtual 101, 3) := by decide +kernel
theorem dd_L_law_760 : decode code 760 = .ok (.iload 5, 2) := by decide +kernel
theorem dd_L_law_762 : decode code 762 = .ok (.if_icmp .eq 5, 3) := by decide +kernel
theorem dd_L_law_765 : decode code 765 = .ok (.iconst 0, 1) := by decide +kernel
theorem dd_L_law_766 : decode code 766 = .ok (.ireturn, 1) := by decide +kernel
theorem dd_L_law_767 : decode code 767 = .ok (.iload 5, 2) := by decide +kernel
theorem dd_L_law_769 : decode code 769 = .ok (.ifCond .ne 15, 3) := by decide +kernel
theorem dd_L_law_772 : decode code 772 = .ok (.aload_n 3, 1) := by decide +kernel
theorem dd_L_law_773 : decode code 773 = .ok (.iconst 0, 1) := by decide +kernel
theorem dd_L_law_774 : decode code 774 = .ok (.laload, 1) := by decide +kernel
theorem dd_L_law_775 : decode code 775 = .ok (.iload 6, 2) := by decide +kernel
theorem dd_L_law_777 : decode code 777 = .ok (.i2l, 1) := by decide +kernel
theorem dd_L_law_778 : decode code 778 = .ok (.lcmp, 1) := by decide +kernel
theorem dd_L_law_779 : decode code 779 = .ok (.ifCond .eq 5, 3) := by decide +kernel
theorem dd_L_law_782 : decode code 782 = .ok (.iconst 0, 1) := by decide +kernel
theorem dd_L_law_783 : decode code 783 = .ok (.ireturn, 1) := by decide +kernel
theorem dd_L_law_784 : decode code 784 = .ok (.goto 862, 3) := by decide +kernel
theorem dd_L_law_787 : decode code 787 = .ok (.aload_n 1, 1) := by decide +kernel
theorem dd_L_law_788 : decode code 788 = .ok (.aload_n 0, 1) := by decide +kernel
theorem dd_L_law_789 : decode code 789 = .ok (.iload 4, 2) := by decide +kernel
theorem dd_L_law_791 : decode code 791 = .ok (.iconst 1, 1) := by decide +kernel
theorem dd_L_law_792 : decode code 792 = .ok (.iadd, 1) := by decide +kernel
theorem dd_L_law_793 : decode code 793 = .ok (.iaload, 1) := by decide +kernel
theorem dd_L_law_794 : decode code 794 = .ok (.aload_n 3, 1) := by decide +kernel
theorem dd_L_law_795 : decode code 795 = .ok (.invokestatic 133, 3) := by decide +kernel
theorem dd_L_law_798 : decode code 798 = .ok (.istore 5, 2) := by decide +kernel
theorem dd_L_law_800 : decode code 800 = .ok (.aload_n 2, 1) := by decide +kernel
theorem dd_L_law_801 : decode code 801 = .ok (.aload_n 0, 1) := by decide +kernel
theorem dd_L_law_802 : decode code 802 = .ok (.iload 4, 2) := by decide +kernel
theorem dd_L_law_804 : decode code 804 = .ok (.iconst 1, 1) := by decide +kernel
theorem dd_L_law_805 : decode code 805 = .ok (.iadd, 1) := by decide +kernel
theorem dd_L_law_806 : decode code 806 = .ok (.iaload, 1) := by decide +kernel
theorem dd_L_law_807 : decode code 807 = .ok (.invokevirtual 135, 3) := by decide +kernel
theorem dd_L_law_810 : decode code 810 = .ok (.istore 6, 2) := by decide +kernel
theorem dd_L_law_812 : decode code 812 = .ok (.aload_n 2, 1) := by decide +kernel
theorem dd_L_law_813 : decode code 813 = .ok (.invokevirtual 101, 3) := by decide +kernel
theorem dd_L_law_816 : decode code 816 = .ok (.iload 5, 2) := by decide +kernel
theorem dd_L_law_818 : decode code 818 = .ok (.if_icmp .eq 5, 3) := by decide +kernel
theorem dd_L_law_821 : decode code 821 = .ok (.iconst 0, 1) := by decide +kernel
theorem dd_L_law_822 : decode code 822 = .ok (.ireturn, 1) := by decide +kernel
theorem dd_L_law_823 : decode code 823 = .ok (.iload 5, 2) := by decide +kernel
theorem dd_L_law_825 : decode code 825 = .ok (.ifCond .ne 15, 3) := by decide +kernel
theorem dd_L_law_828 : decode code 828 = .ok (.aload_n 3, 1) := by decide +kernel
theorem dd_L_law_829 : decode code 829 = .ok (.iconst 0, 1) := by decide +kernel
theorem dd_L_law_830 : decode code 830 = .ok (.laload, 1) := by decide +kernel
theorem dd_L_law_831 : decode code 831 = .ok (.iload 6, 2) := by decide +kernel
theorem dd_L_law_833 : decode code 833 = .ok (.i2l, 1) := by decide +kernel
theorem dd_L_law_834 : decode code 834 = .ok (.lcmp, 1) := by decide +kernel
theorem dd_L_law_835 : decode code 835 = .ok (.ifCond .eq 5, 3) := by decide +kernel
theorem dd_L_law_838 : decode code 838 = .ok (.iconst 0, 1) := by decide +kernel
theorem dd_L_law_839 : decode code 839 = .ok (.ireturn, 1) := by decide +kernel
theorem dd_L_law_840 : decode code 840 = .ok (.goto 806, 3) := by decide +kernel
theorem dd_L_law_843 : decode code 843 = .ok (.aload_n 1, 1) := by decide +kernel
theorem dd_L_law_844 : decode code 844 = .ok (.aload_n 0, 1) := by decide +kernel
theorem dd_L_law_845 : decode code 845 = .ok (.iload 4, 2) := by decide +kernel
theorem dd_L_law_847 : decode code 847 = .ok (.iconst 1, 1) := by decide +kernel
theorem dd_L_law_848 : decode code 848 = .ok (.iadd, 1) := by decide +kernel
theorem dd_L_law_849 : decode code 849 = .ok (.iaload, 1) := by decide +kernel
theorem dd_L_law_850 : decode code 850 = .ok (.aload_n 0, 1) := by decide +kernel
theorem dd_L_law_851 : decode code 851 = .ok (.iload 4, 2) := by decide +kernel
theorem dd_L_law_853 : decode code 853 = .ok (.iconst 2, 1) := by decide +kernel
theorem dd_L_law_854 : decode code 854 = .ok (.iadd, 1) := by decide +kernel
theorem dd_L_law_855 : decode code 855 = .ok (.iaload, 1) := by decide +kernel
theorem dd_L_law_856 : decode code 856 = .ok (.aload_n 0, 1) := by decide +kernel
theorem dd_L_law_857 : decode code 857 = .ok (.iload 4, 2) := by decide +kernel
theorem dd_L_law_859 : decode code 859 = .ok (.iconst 3, 1) := by decide +kernel
theorem dd_L_law_860 : decode code 860 = .ok (.iadd, 1) := by decide +kernel
theorem dd_L_law_861 : decode code 861 = .ok (.iaload, 1) := by decide +kernel
theorem dd_L_law_862 : decode code 862 = .ok (.aload_n 3, 1) := by decide +kernel
theorem dd_L_law_863 : decode code 863 = .ok (.invokestatic 136, 3) := by decide +kernel
theorem dd_L_law_866 : decode code 866 = .ok (.istore 5, 2) := by decide +kernel
theorem dd_L_law_868 : decode code 868 = .ok (.aload_n 2, 1) := by decide +kernel
theorem dd_L_law_869 : decode code 869 = .ok (.aload_n 0, 1) := by decide +kernel
theorem dd_L_law_870 : decode code 870 = .ok (.iload 4, 2) := by decide +kernel
theorem dd_L_law_872 : decode code 872 = .ok (.iconst 1, 1) := by decide +kernel
theorem dd_L_law_873 : decode code 873 = .ok (.iadd, 1) := by decide +kernel
theorem dd_L_law_874 : decode code 874 = .ok (.iaload, 1) := by decide +kernel
theorem dd_L_law_875 : decode code 875 = .ok (.aload_n 0, 1) := by decide +kernel
theorem dd_L_law_876 : decode code 876 = .ok (.iload 4, 2) := by decide +kernel
theorem dd_L_law_878 : decode code 878 = .ok (.iconst 2, 1) := by decide +kernel
theorem dd_L_law_879 : decode code 879 = .ok (.iadd, 1) := by decide +kernel
theorem dd_L_law_880 : decode code 880 = .ok (.iaload, 1) := by decide +kernel
theorem dd_L_law_881 : decode code 881 = .ok (.aload_n 0, 1) := by decide +kernel
theorem dd_L_law_882 : decode code 882 = .ok (.iload 4, 2) := by decide +kernel
theorem dd_L_law_884 : decode code 884 = .ok (.iconst 3, 1) := by decide +kernel
theorem dd_L_law_885 : decode code 885 = .ok (.iadd, 1) := by decide +kernel
theorem dd_L_law_886 : decode code 886 = .ok (.iaload, 1) := by decide +kernel
theorem dd_L_law_887 : decode code 887 = .ok (.invokevirtual 138, 3) := by decide +kernel
theorem dd_L_law_890 : decode code 890 = .ok (.istore 6, 2) := by decide +kernel
theorem dd_L_law_892 : decode code 892 = .ok (.aload_n 2, 1) := by decide +kernel
theorem dd_L_law_893 : decode code 893 = .ok (.invokevirtual 101, 3) := by decide +kernel
theorem dd_L_law_896 : decode code 896 = .ok (.iload 5, 2) := by decide +kernel
theorem dd_L_law_898 : decode code 898 = .ok (.if_icmp .eq 5, 3) := by decide +kernel
theorem dd_L_law_901 : decode code 901 = .ok (.iconst 0, 1) := by decide +kernel
theorem dd_L_law_902 : decode code 902 = .ok (.ireturn, 1) := by decide +kernel
theorem dd_L_law_903 : decode code 903 = .ok (.iload 5, 2) := by decide +kernel
theorem dd_L_law_905 : decode code 905 = .ok (.ifCond .ne 15, 3) := by decide +kernel
theorem dd_L_law_908 : decode code 908 = .ok (.aload_n 3, 1) := by decide +kernel
theorem dd_L_law_909 : decode code 909 = .ok (.iconst 0, 1) := by decide +kernel
theorem dd_L_law_910 : decode code 910 = .ok (.laload, 1) := by decide +kernel
theorem dd_L_law_911 : decode code 911 = .ok (.iload 6, 2) := by decide +kernel
theorem dd_L_law_913 : decode code 913 = .ok (.i2l, 1) := by decide +kernel
theorem dd_L_law_914 : decode code 914 = .ok (.lcmp, 1) := by decide +kernel
theorem dd_L_law_915 : decode code 915 = .ok (.ifCond .eq 5, 3) := by decide +kernel
theorem dd_L_law_918 : decode code 918 = .ok (.iconst 0, 1) := by decide +kernel
theorem dd_L_law_919 : decode code 919 = .ok (.ireturn, 1) := by decide +kernel
theorem dd_L_law_920 : decode code 920 = .ok (.goto 726, 3) := by decide +kernel
theorem dd_L_law_923 : decode code 923 = .ok (.aload_n 1, 1) := by decide +kernel
theorem dd_L_law_924 : decode code 924 = .ok (.aload_n 0, 1) := by decide +kernel
theorem dd_L_law_925 : decode code 925 = .ok (.iload 4, 2) := by decide +kernel
theorem dd_L_law_927 : decode code 927 = .ok (.iconst 1, 1) := by decide +kernel
theorem dd_L_law_928 : decode code 928 = .ok (.iadd, 1) := by decide +kernel
theorem dd_L_law_929 : decode code 929 = .ok (.iaload, 1) := by decide +kernel
theorem dd_L_law_930 : decode code 930 = .ok (.aload_n 0, 1) := by decide +kernel
theorem dd_L_law_931 : decode code 931 = .ok (.iload 4, 2) := by decide +kernel
theorem dd_L_law_933 : decode code 933 = .ok (.iconst 2, 1) := by decide +kernel
theorem dd_L_law_934 : decode code 934 = .ok (.iadd, 1) := by decide +kernel
theorem dd_L_law_935 : decode code 935 = .ok (.iaload, 1) := by decide +kernel
theorem dd_L_law_936 : decode code 936 = .ok (.aload_n 0, 1) := by decide +kernel
theorem dd_L_law_937 : decode code 937 = .ok (.iload 4, 2) := by decide +kernel
theorem dd_L_law_939 : decode code 939 = .ok (.iconst 3, 1) := by decide +kernel
theorem dd_L_law_940 : decode code 940 = .ok (.iadd, 1) := by decide +kernel
theorem dd_L_law_941 : decode code 941 = .ok (.iaload, 1) := by decide +kernel
theorem dd_L_law_942 : decode code 942 = .ok (.invokestatic 139, 3) := by decide +kernel
theorem dd_L_law_945 : decode code 945 = .ok (.istore 5, 2) := by decide +kernel
theorem dd_L_law_947 : decode code 947 = .ok (.aload_n 2, 1) := by decide +kernel
theorem dd_L_law_948 : decode code 948 = .ok (.aload_n 0, 1) := by decide +kernel
theorem dd_L_law_949 : decode code 949 = .ok (.iload 4, 2) := by decide +kernel
theorem dd_L_law_951 : decode code 951 = .ok (.iconst 1, 1) := by decide +kernel
theorem dd_L_law_952 : decode code 952 = .ok (.iadd, 1) := by decide +kernel
theorem dd_L_law_953 : decode code 953 = .ok (.iaload, 1) := by decide +kernel
theorem dd_L_law_954 : decode code 954 = .ok (.aload_n 0, 1) := by decide +kernel
theorem dd_L_law_955 : decode code 955 = .ok (.iload 4, 2) := by decide +kernel
theorem dd_L_law_957 : decode code 957 = .ok (.iconst 2, 1) := by decide +kernel
theorem dd_L_law_958 : decode code 958 = .ok (.iadd, 1) := by decide +kernel
theorem dd_L_law_959 : decode code 959 = .ok (.iaload, 1) := by decide +kernel
theorem dd_L_law_960 : decode code 960 = .ok (.aload_n 0, 1) := by decide +kernel
theorem dd_L_law_961 : decode code 961 = .ok (.iload 4, 2) := by decide +kernel
theorem dd_L_law_963 : decode code 963 = .ok (.iconst 3, 1) := by decide +kernel
theorem dd_L_law_964 : decode code 964 = .ok (.iadd, 1) := by decide +kernel
theorem dd_L_law_965 : decode code 965 = .ok (.iaload, 1) := by decide +kernel
theorem dd_L_law_966 : decode code 966 = .ok (.invokevirtual 142, 3) := by decide +kernel
theorem dd_L_law_969 : decode code 969 = .ok (.aload_n 2, 1) := by decide +kernel
theorem dd_L_law_970 : decode code 970 = .ok (.invokevirtual 101, 3) := by decide +kernel
theorem dd_L_law_973 : decode code 973 = .ok (.iload 5, 2) := by decide +kernel
theorem dd_L_law_975 : decode code 975 = .ok (.if_icmp .eq 5, 3) := by decide +kernel
theorem dd_L_law_978 : decode code 978 = .ok (.iconst 0, 1) := by decide +kernel
theorem dd_L_law_979 : decode code 979 = .ok (.ireturn, 1) := by decide +kernel
theorem dd_L_law_980 : decode code 980 = .ok (.goto 666, 3) := by decide +kernel
theorem dd_L_law_983 : decode code 983 = .ok (.aload_n 1, 1) := by decide +kernel
theorem dd_L_law_984 : decode code 984 = .ok (.aload_n 0, 1) := by decide +kernel
theorem dd_L_law_985 : decode code 985 = .ok (.iload 4, 2) := by decide +kernel
theorem dd_L_law_987 : decode code 987 = .ok (.iconst 1, 1) := by decide +kernel
theorem dd_L_law_988 : decode code 988 = .ok (.iadd, 1) := by decide +kernel
theorem dd_L_law_989 : decode code 989 = .ok (.iaload, 1) := by decide +kernel
theorem dd_L_law_990 : decode code 990 = .ok (.aload_n 0, 1) := by decide +kernel
theorem dd_L_law_991 : decode code 991 = .ok (.iload 4, 2) := by decide +kernel
theorem dd_L_law_993 : decode code 993 = .ok (.iconst 2, 1) := by decide +kernel
theorem dd_L_law_994 : decode code 994 = .ok (.iadd, 1) := by decide +kernel
theorem dd_L_law_995 : decode code 995 = .ok (.iaload, 1) := by decide +kernel
theorem dd_L_law_996 : decode code 996 = .ok (.aload_n 3, 1) := by decide +kernel
theorem dd_L_law_997 : decode code 997 = .ok (.invokestatic 143, 3) := by decide +kernel
theorem dd_L_law_1000 : decode code 1000 = .ok (.istore 5, 2) := by decide +kernel
theorem dd_L_law_1002 : decode code 1002 = .ok (.aload_n 2, 1) := by decide +kernel
theorem dd_L_law_1003 : decode code 1003 = .ok (.aload_n 0, 1) := by decide +kernel
theorem dd_L_law_1004 : decode code 1004 = .ok (.iload 4, 2) := by decide +kernel
theorem dd_L_law_1006 : decode code 1006 = .ok (.iconst 1, 1) := by decide +kernel

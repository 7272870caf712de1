theorem dL_law_734 : decode cL_law 734 = .ok (.aload_n 1, 1) := by decide +kernel
theorem dL_law_735 : decode cL_law 735 = .ok (.aload_n 0, 1) := by decide +kernel
theorem dL_law_736 : decode cL_law 736 = .ok (.iload_n 3, 1) := by decide +kernel
theorem dL_law_737 : decode cL_law 737 = .ok (.iconst 1, 1) := by decide +kernel
theorem dL_law_738 : decode cL_law 738 = .ok (.iadd, 1) := by decide +kernel
theorem dL_law_739 : decode cL_law 739 = .ok (.iaload, 1) := by decide +kernel
theorem dL_law_740 : decode cL_law 740 = .ok (.aload_n 0, 1) := by decide +kernel
theorem dL_law_741 : decode cL_law 741 = .ok (.iload_n 3, 1) := by decide +kernel
theorem dL_law_742 : decode cL_law 742 = .ok (.iconst 2, 1) := by decide +kernel
theorem dL_law_743 : decode cL_law 743 = .ok (.iadd, 1) := by decide +kernel
theorem dL_law_744 : decode cL_law 744 = .ok (.iaload, 1) := by decide +kernel
theorem dL_law_745 : decode cL_law 745 = .ok (.invokevirtual 75, 3) := by decide +kernel
theorem dL_law_748 : decode cL_law 748 = .ok (.aload_n 2, 1) := by decide +kernel
theorem dL_law_749 : decode cL_law 749 = .ok (.aload_n 0, 1) := by decide +kernel
theorem dL_law_750 : decode cL_law 750 = .ok (.iload_n 3, 1) := by decide +kernel
theorem dL_law_751 : decode cL_law 751 = .ok (.iconst 1, 1) := by decide +kernel
theorem dL_law_752 : decode cL_law 752 = .ok (.iadd, 1) := by decide +kernel
theorem dL_law_753 : decode cL_law 753 = .ok (.iaload, 1) := by decide +kernel
theorem dL_law_754 : decode cL_law 754 = .ok (.aload_n 0, 1) := by decide +kernel
theorem dL_law_755 : decode cL_law 755 = .ok (.iload_n 3, 1) := by decide +kernel
theorem dL_law_756 : decode cL_law 756 = .ok (.iconst 2, 1) := by decide +kernel
theorem dL_law_757 : decode cL_law 757 = .ok (.iadd, 1) := by decide +kernel
theorem dL_law_758 : decode cL_law 758 = .ok (.iaload, 1) := by decide +kernel
theorem dL_law_759 : decode cL_law 759 = .ok (.invokevirtual 78, 3) := by decide +kernel
theorem dL_law_762 : decode cL_law 762 = .ok (.if_icmp .eq 1046, 3) := by decide +kernel
theorem dL_law_767 : decode cL_law 767 = .ok (.aload_n 1, 1) := by decide +kernel
theorem dL_law_768 : decode cL_law 768 = .ok (.aload_n 0, 1) := by decide +kernel
theorem dL_law_769 : decode cL_law 769 = .ok (.iload_n 3, 1) := by decide +kernel
theorem dL_law_770 : decode cL_law 770 = .ok (.iconst 1, 1) := by decide +kernel
theorem dL_law_771 : decode cL_law 771 = .ok (.iadd, 1) := by decide +kernel
theorem dL_law_772 : decode cL_law 772 = .ok (.iaload, 1) := by decide +kernel
theorem dL_law_773 : decode cL_law 773 = .ok (.aload_n 0, 1) := by decide +kernel
theorem dL_law_774 : decode cL_law 774 = .ok (.iload_n 3, 1) := by decide +kernel
theorem dL_law_775 : decode cL_law 775 = .ok (.iconst 2, 1) := by decide +kernel
theorem dL_law_776 : decode cL_law 776 = .ok (.iadd, 1) := by decide +kernel
theorem dL_law_777 : decode cL_law 777 = .ok (.iaload, 1) := by decide +kernel
theorem dL_law_778 : decode cL_law 778 = .ok (.invokevirtual 79, 3) := by decide +kernel
theorem dL_law_781 : decode cL_law 781 = .ok (.aload_n 2, 1) := by decide +kernel
theorem dL_law_782 : decode cL_law 782 = .ok (.aload_n 0, 1) := by decide +kernel
theorem dL_law_783 : decode cL_law 783 = .ok (.iload_n 3, 1) := by decide +kernel
theorem dL_law_784 : decode cL_law 784 = .ok (.iconst 1, 1) := by decide +kernel
theorem dL_law_785 : decode cL_law 785 = .ok (.iadd, 1) := by decide +kernel
theorem dL_law_786 : decode cL_law 786 = .ok (.iaload, 1) := by decide +kernel
theorem dL_law_787 : decode cL_law 787 = .ok (.aload_n 0, 1) := by decide +kernel
theorem dL_law_788 : decode cL_law 788 = .ok (.iload_n 3, 1) := by decide +kernel
theorem dL_law_789 : decode cL_law 789 = .ok (.iconst 2, 1) := by decide +kernel
theorem dL_law_790 : decode cL_law 790 = .ok (.iadd, 1) := by decide +kernel
theorem dL_law_791 : decode cL_law 791 = .ok (.iaload, 1) := by decide +kernel
theorem dL_law_792 : decode cL_law 792 = .ok (.invokevirtual 82, 3) := by decide +kernel
theorem dL_law_795 : decode cL_law 795 = .ok (.if_icmp .eq 1013, 3) := by decide +kernel
theorem dL_law_800 : decode cL_law 800 = .ok (.aload_n 1, 1) := by decide +kernel
theorem dL_law_801 : decode cL_law 801 = .ok (.aload_n 0, 1) := by decide +kernel
theorem dL_law_802 : decode cL_law 802 = .ok (.iload_n 3, 1) := by decide +kernel
theorem dL_law_803 : decode cL_law 803 = .ok (.iconst 1, 1) := by decide +kernel
theorem dL_law_804 : decode cL_law 804 = .ok (.iadd, 1) := by decide +kernel
theorem dL_law_805 : decode cL_law 805 = .ok (.iaload, 1) := by decide +kernel
theorem dL_law_806 : decode cL_law 806 = .ok (.aload_n 0, 1) := by decide +kernel
theorem dL_law_807 : decode cL_law 807 = .ok (.iload_n 3, 1) := by decide +kernel
theorem dL_law_808 : decode cL_law 808 = .ok (.iconst 2, 1) := by decide +kernel
theorem dL_law_809 : decode cL_law 809 = .ok (.iadd, 1) := by decide +kernel
theorem dL_law_810 : decode cL_law 810 = .ok (.iaload, 1) := by decide +kernel
theorem dL_law_811 : decode cL_law 811 = .ok (.invokevirtual 83, 3) := by decide +kernel
theorem dL_law_814 : decode cL_law 814 = .ok (.aload_n 2, 1) := by decide +kernel
theorem dL_law_815 : decode cL_law 815 = .ok (.aload_n 0, 1) := by decide +kernel
theorem dL_law_816 : decode cL_law 816 = .ok (.iload_n 3, 1) := by decide +kernel
theorem dL_law_817 : decode cL_law 817 = .ok (.iconst 1, 1) := by decide +kernel
theorem dL_law_818 : decode cL_law 818 = .ok (.iadd, 1) := by decide +kernel
theorem dL_law_819 : decode cL_law 819 = .ok (.iaload, 1) := by decide +kernel
theorem dL_law_820 : decode cL_law 820 = .ok (.aload_n 0, 1) := by decide +kernel
theorem dL_law_821 : decode cL_law 821 = .ok (.iload_n 3, 1) := by decide +kernel
theorem dL_law_822 : decode cL_law 822 = .ok (.iconst 2, 1) := by decide +kernel
theorem dL_law_823 : decode cL_law 823 = .ok (.iadd, 1) := by decide +kernel
theorem dL_law_824 : decode cL_law 824 = .ok (.iaload, 1) := by decide +kernel
theorem dL_law_825 : decode cL_law 825 = .ok (.invokevirtual 86, 3) := by decide +kernel
theorem dL_law_828 : decode cL_law 828 = .ok (.if_icmp .eq 980, 3) := by decide +kernel
theorem dL_law_833 : decode cL_law 833 = .ok (.aload_n 1, 1) := by decide +kernel
theorem dL_law_834 : decode cL_law 834 = .ok (.aload_n 0, 1) := by decide +kernel
theorem dL_law_835 : decode cL_law 835 = .ok (.iload_n 3, 1) := by decide +kernel
theorem dL_law_836 : decode cL_law 836 = .ok (.iconst 1, 1) := by decide +kernel
theorem dL_law_837 : decode cL_law 837 = .ok (.iadd, 1) := by decide +kernel
theorem dL_law_838 : decode cL_law 838 = .ok (.iaload, 1) := by decide +kernel
theorem dL_law_839 : decode cL_law 839 = .ok (.aload_n 0, 1) := by decide +kernel
theorem dL_law_840 : decode cL_law 840 = .ok (.iload_n 3, 1) := by decide +kernel
theorem dL_law_841 : decode cL_law 841 = .ok (.iconst 2, 1) := by decide +kernel
theorem dL_law_842 : decode cL_law 842 = .ok (.iadd, 1) := by decide +kernel
theorem dL_law_843 : decode cL_law 843 = .ok (.iaload, 1) := by decide +kernel
theorem dL_law_844 : decode cL_law 844 = .ok (.aload_n 0, 1) := by decide +kernel
theorem dL_law_845 : decode cL_law 845 = .ok (.iload_n 3, 1) := by decide +kernel
theorem dL_law_846 : decode cL_law 846 = .ok (.iconst 3, 1) := by decide +kernel
theorem dL_law_847 : decode cL_law 847 = .ok (.iadd, 1) := by decide +kernel
theorem dL_law_848 : decode cL_law 848 = .ok (.iaload, 1) := by decide +kernel
theorem dL_law_849 : decode cL_law 849 = .ok (.invokevirtual 87, 3) := by decide +kernel
theorem dL_law_852 : decode cL_law 852 = .ok (.aload_n 2, 1) := by decide +kernel
theorem dL_law_853 : decode cL_law 853 = .ok (.aload_n 0, 1) := by decide +kernel
theorem dL_law_854 : decode cL_law 854 = .ok (.iload_n 3, 1) := by decide +kernel
theorem dL_law_855 : decode cL_law 855 = .ok (.iconst 1, 1) := by decide +kernel
theorem dL_law_856 : decode cL_law 856 = .ok (.iadd, 1) := by decide +kernel
theorem dL_law_857 : decode cL_law 857 = .ok (.iaload, 1) := by decide +kernel
theorem dL_law_858 : decode cL_law 858 = .ok (.aload_n 0, 1) := by decide +kernel
theorem dL_law_859 : decode cL_law 859 = .ok (.iload_n 3, 1) := by decide +kernel
theorem dL_law_860 : decode cL_law 860 = .ok (.iconst 2, 1) := by decide +kernel
theorem dL_law_861 : decode cL_law 861 = .ok (.iadd, 1) := by decide +kernel
theorem dL_law_862 : decode cL_law 862 = .ok (.iaload, 1) := by decide +kernel
theorem dL_law_863 : decode cL_law 863 = .ok (.aload_n 0, 1) := by decide +kernel
theorem dL_law_864 : decode cL_law 864 = .ok (.iload_n 3, 1) := by decide +kernel
theorem dL_law_865 : decode cL_law 865 = .ok (.iconst 3, 1) := by decide +kernel
theorem dL_law_866 : decode cL_law 866 = .ok (.iadd, 1) := by decide +kernel
theorem dL_law_867 : decode cL_law 867 = .ok (.iaload, 1) := by decide +kernel
theorem dL_law_868 : decode cL_law 868 = .ok (.invokevirtual 90, 3) := by decide +kernel
theorem dL_law_871 : decode cL_law 871 = .ok (.if_icmp .eq 937, 3) := by decide +kernel
theorem dL_law_876 : decode cL_law 876 = .ok (.aload_n 1, 1) := by decide +kernel
theorem dL_law_877 : decode cL_law 877 = .ok (.aload_n 0, 1) := by decide +kernel
theorem dL_law_878 : decode cL_law 878 = .ok (.iload_n 3, 1) := by decide +kernel
theorem dL_law_879 : decode cL_law 879 = .ok (.iconst 1, 1) := by decide +kernel
theorem dL_law_880 : decode cL_law 880 = .ok (.iadd, 1) := by decide +kernel
theorem dL_law_881 : decode cL_law 881 = .ok (.iaload, 1) := by decide +kernel
theorem dL_law_882 : decode cL_law 882 = .ok (.aload_n 0, 1) := by decide +kernel
theorem dL_law_883 : decode cL_law 883 = .ok (.iload_n 3, 1) := by decide +kernel
theorem dL_law_884 : decode cL_law 884 = .ok (.iconst 2, 1) := by decide +kernel
theorem dL_law_885 : decode cL_law 885 = .ok (.iadd, 1) := by decide +kernel
theorem dL_law_886 : decode cL_law 886 = .ok (.iaload, 1) := by decide +kernel
theorem dL_law_887 : decode cL_law 887 = .ok (.invokevirtual 91, 3) := by decide +kernel
theorem dL_law_890 : decode cL_law 890 = .ok (.aload_n 2, 1) := by decide +kernel
theorem dL_law_891 : decode cL_law 891 = .ok (.aload_n 0, 1) := by decide +kernel
theorem dL_law_892 : decode cL_law 892 = .ok (.iload_n 3, 1) := by decide +kernel
theorem dL_law_893 : decode cL_law 893 = .ok (.iconst 1, 1) := by decide +kernel
theorem dL_law_894 : decode cL_law 894 = .ok (.iadd, 1) := by decide +kernel
theorem dL_law_895 : decode cL_law 895 = .ok (.iaload, 1) := by decide +kernel
theorem dL_law_896 : decode cL_law 896 = .ok (.aload_n 0, 1) := by decide +kernel
theorem dL_law_897 : decode cL_law 897 = .ok (.iload_n 3, 1) := by decide +kernel
theorem dL_law_898 : decode cL_law 898 = .ok (.iconst 2, 1) := by decide +kernel
theorem dL_law_899 : decode cL_law 899 = .ok (.iadd, 1) := by decide +kernel
theorem dL_law_900 : decode cL_law 900 = .ok (.iaload, 1) := by decide +kernel
theorem dL_law_901 : decode cL_law 901 = .ok (.invokevirtual 94, 3) := by decide +kernel
theorem dL_law_904 : decode cL_law 904 = .ok (.if_icmp .eq 904, 3) := by decide +kernel
theorem dL_law_909 : decode cL_law 909 = .ok (.aload_n 1, 1) := by decide +kernel
theorem dL_law_910 : decode cL_law 910 = .ok (.aload_n 0, 1) := by decide +kernel
theorem dL_law_911 : decode cL_law 911 = .ok (.iload_n 3, 1) := by decide +kernel
theorem dL_law_912 : decode cL_law 912 = .ok (.iconst 1, 1) := by decide +kernel
theorem dL_law_913 : decode cL_law 913 = .ok (.iadd, 1) := by decide +kernel
theorem dL_law_914 : decode cL_law 914 = .ok (.iaload, 1) := by decide +kernel
theorem dL_law_915 : decode cL_law 915 = .ok (.aload_n 0, 1) := by decide +kernel
theorem dL_law_916 : decode cL_law 916 = .ok (.iload_n 3, 1) := by decide +kernel
theorem dL_law_917 : decode cL_law 917 = .ok (.iconst 2, 1) := by decide +kernel
theorem dL_law_918 : decode cL_law 918 = .ok (.iadd, 1) := by decide +kernel
theorem dL_law_919 : decode cL_law 919 = .ok (.iaload, 1) := by decide +kernel
theorem dL_law_920 : decode cL_law 920 = .ok (.invokevirtual 95, 3) := by decide +kernel
theorem dL_law_923 : decode cL_law 923 = .ok (.aload_n 2, 1) := by decide +kernel
theorem dL_law_924 : decode cL_law 924 = .ok (.aload_n 0, 1) := by decide +kernel
theorem dL_law_925 : decode cL_law 925 = .ok (.iload_n 3, 1) := by decide +kernel
theorem dL_law_926 : decode cL_law 926 = .ok (.iconst 1, 1) := by decide +kernel
theorem dL_law_927 : decode cL_law 927 = .ok (.iadd, 1) := by decide +kernel
theorem dL_law_928 : decode cL_law 928 = .ok (.iaload, 1) := by decide +kernel
theorem dL_law_929 : decode cL_law 929 = .ok (.aload_n 0, 1) := by decide +kernel
theorem dL_law_930 : decode cL_law 930 = .ok (.iload_n 3, 1) := by decide +kernel
theorem dL_law_931 : decode cL_law 931 = .ok (.iconst 2, 1) := by decide +kernel
theorem dL_law_932 : decode cL_law 932 = .ok (.iadd, 1) := by decide +kernel
theorem dL_law_933 : decode cL_law 933 = .ok (.iaload, 1) := by decide +kernel
theorem dL_law_934 : decode cL_law 934 = .ok (.invokevirtual 98, 3) := by decide +kernel
theorem dL_law_937 : decode cL_law 937 = .ok (.if_icmp .eq 871, 3) := by decide +kernel
theorem dL_law_942 : decode cL_law 942 = .ok (.aload_n 1, 1) := by decide +kernel
theorem dL_law_943 : decode cL_law 943 = .ok (.aload_n 0, 1) := by decide +kernel
theorem dL_law_944 : decode cL_law 944 = .ok (.iload_n 3, 1) := by decide +kernel
theorem dL_law_945 : decode cL_law 945 = .ok (.iconst 1, 1) := by decide +kernel
theorem dL_law_946 : decode cL_law 946 = .ok (.iadd, 1) := by decide +kernel
theorem dL_law_947 : decode cL_law 947 = .ok (.iaload, 1) := by decide +kernel
theorem dL_law_948 : decode cL_law 948 = .ok (.aload_n 0, 1) := by decide +kernel
theorem dL_law_949 : decode cL_law 949 = .ok (.iload_n 3, 1) := by decide +kernel
theorem dL_law_950 : decode cL_law 950 = .ok (.iconst 2, 1) := by decide +kernel
theorem dL_law_951 : decode cL_law 951 = .ok (.iadd, 1) := by decide +kernel
theorem dL_law_952 : decode cL_law 952 = .ok (.iaload, 1) := by decide +kernel
theorem dL_law_953 : decode cL_law 953 = .ok (.invokevirtual 99, 3) := by decide +kernel
theorem dL_law_956 : decode cL_law 956 = .ok (.aload_n 2, 1) := by decide +kernel
theorem dL_law_957 : decode cL_law 957 = .ok (.aload_n 0, 1) := by decide +kernel
theorem dL_law_958 : decode cL_law 958 = .ok (.iload_n 3, 1) := by decide +kernel
theorem dL_law_959 : decode cL_law 959 = .ok (.iconst 1, 1) := by decide +kernel
theorem dL_law_960 : decode cL_law 960 = .ok (.iadd, 1) := by decide +kernel
theorem dL_law_961 : decode cL_law 961 = .ok (.iaload, 1) := by decide +kernel
theorem dL_law_962 : decode cL_law 962 = .ok (.aload_n 0, 1) := by decide +kernel
theorem dL_law_963 : decode cL_law 963 = .ok (.iload_n 3, 1) := by decide +kernel
theorem dL_law_964 : decode cL_law 964 = .ok (.iconst 2, 1) := by decide +kernel
theorem dL_law_965 : decode cL_law 965 = .ok (.iadd, 1) := by decide +kernel
theorem dL_law_966 : decode cL_law 966 = .ok (.iaload, 1) := by decide +kernel
theorem dL_law_967 : decode cL_law 967 = .ok (.invokevirtual 102, 3) := by decide +kernel
theorem dL_law_970 : decode cL_law 970 = .ok (.if_icmp .eq 838, 3) := by decide +kernel
theorem dL_law_975 : decode cL_law 975 = .ok (.aload_n 1, 1) := by decide +kernel
theorem dL_law_976 : decode cL_law 976 = .ok (.aload_n 0, 1) := by decide +kernel
theorem dL_law_977 : decode cL_law 977 = .ok (.iload_n 3, 1) := by decide +kernel
theorem dL_law_978 : decode cL_law 978 = .ok (.iconst 1, 1) := by decide +kernel
theorem dL_law_979 : decode cL_law 979 = .ok (.iadd, 1) := by decide +kernel
theorem dL_law_980 : decode cL_law 980 = .ok (.iaload, 1) := by decide +kernel
theorem dL_law_981 : decode cL_law 981 = .ok (.aload_n 0, 1) := by decide +kernel
theorem dL_law_982 : decode cL_law 982 = .ok (.iload_n 3, 1) := by decide +kernel
theorem dL_law_983 : decode cL_law 983 = .ok (.iconst 2, 1) := by decide +kernel
theorem dL_law_984 : decode cL_law 984 = .ok (.iadd, 1) := by decide +kernel
theorem dL_law_985 : decode cL_law 985 = .ok (.iaload, 1) := by decide +kernel
theorem dL_law_986 : decode cL_law 986 = .ok (.aload_n 0, 1) := by decide +kernel
theorem dL_law_987 : decode cL_law 987 = .ok (.iload_n 3, 1) := by decide +kernel
theorem dL_law_988 : decode cL_law 988 = .ok (.iconst 3, 1) := by decide +kernel
theorem dL_law_989 : decode cL_law 989 = .ok (.iadd, 1) := by decide +kernel
theorem dL_law_990 : decode cL_law 990 = .ok (.iaload, 1) := by decide +kernel
theorem dL_law_991 : decode cL_law 991 = .ok (.invokevirtual 103, 3) := by decide +kernel
theorem dL_law_994 : decode cL_law 994 = .ok (.aload_n 2, 1) := by decide +kernel
theorem dL_law_995 : decode cL_law 995 = .ok (.aload_n 0, 1) := by decide +kernel
theorem dL_law_996 : decode cL_law 996 = .ok (.iload_n 3, 1) := by decide +kernel
theorem dL_law_997 : decode cL_law 997 = .ok (.iconst 1, 1) := by decide +kernel
theorem dL_law_998 : decode cL_law 998 = .ok (.iadd, 1) := by decide +kernel
theorem dL_law_999 : decode cL_law 999 = .ok (.iaload, 1) := by decide +kernel
theorem dL_law_1000 : decode cL_law 1000 = .ok (.aload_n 0, 1) := by decide +kernel
theorem dL_law_1001 : decode cL_law 1001 = .ok (.iload_n 3, 1) := by decide +kernel
theorem dL_law_1002 : decode cL_law 1002 = .ok (.iconst 2, 1) := by decide +kernel
theorem dL_law_1003 : decode cL_law 1003 = .ok (.iadd, 1) := by decide +kernel
theorem dL_law_1004 : decode cL_law 1004 = .ok (.iaload, 1) := by decide +kernel
theorem dL_law_1005 : decode cL_law 1005 = .ok (.aload_n 0, 1) := by decide +kernel
theorem dL_law_1006 : decode cL_law 1006 = .ok (.iload_n 3, 1) := by decide +kernel
theorem dL_law_1007 : decode cL_law 1007 = .ok (.iconst 3, 1) := by decide +kernel
theorem dL_law_1008 : decode cL_law 1008 = .ok (.iadd, 1) := by decide +kernel
theorem dL_law_1009 : decode cL_law 1009 = .ok (.iaload, 1) := by decide +kernel
theorem dL_law_1010 : decode cL_law 1010 = .ok (.invokevirtual 106, 3) := by decide +kernel
theorem dL_law_1013 : decode cL_law 1013 = .ok (.if_icmp .eq 795, 3) := by decide +kernel
theorem dL_law_1018 : decode cL_law 1018 = .ok (.aload_n 1, 1) := by decide +kernel
theorem dL_law_1019 : decode cL_law 1019 = .ok (.aload_n 0, 1) := by decide +kernel
theorem dL_law_1020 : decode cL_law 1020 = .ok (.iload_n 3, 1) := by decide +kernel
theorem dL_law_1021 : decode cL_law 1021 = .ok (.iconst 1, 1) := by decide +kernel
theorem dL_law_1022 : decode cL_law 1022 = .ok (.iadd, 1) := by decide +kernel
theorem dL_law_1023 : decode cL_law 1023 = .ok (.iaload, 1) := by decide +kernel
theorem dL_law_1024 : decode cL_law 1024 = .ok (.aload_n 0, 1) := by decide +kernel
theorem dL_law_1025 : decode cL_law 1025 = .ok (.iload_n 3, 1) := by decide +kernel
theorem dL_law_1026 : decode cL_law 1026 = .ok (.iconst 2, 1) := by decide +kernel
theorem dL_law_1027 : decode cL_law 1027 = .ok (.iadd, 1) := by decide +kernel
theorem dL_law_1028 : decode cL_law 1028 = .ok (.iaload, 1) := by decide +kernel
theorem dL_law_1029 : decode cL_law 1029 = .ok (.aload_n 0, 1) := by decide +kernel
theorem dL_law_1030 : decode cL_law 1030 = .ok (.iload_n 3, 1) := by decide +kernel
theorem dL_law_1031 : decode cL_law 1031 = .ok (.iconst 3, 1) := by decide +kernel
theorem dL_law_1032 : decode cL_law 1032 = .ok (.iadd, 1) := by decide +kernel
theorem dL_law_1033 : decode cL_law 1033 = .ok (.iaload, 1) := by decide +kernel
theorem dL_law_1034 : decode cL_law 1034 = .ok (.invokevirtual 107, 3) := by decide +kernel
theorem dL_law_1037 : decode cL_law 1037 = .ok (.aload_n 2, 1) := by decide +kernel
theorem dL_law_1038 : decode cL_law 1038 = .ok (.aload_n 0, 1) := by decide +kernel
theorem dL_law_1039 : decode cL_law 1039 = .ok (.iload_n 3, 1) := by decide +kernel
theorem dL_law_1040 : decode cL_law 1040 = .ok (.iconst 1, 1) := by decide +kernel
theorem dL_law_1041 : decode cL_law 1041 = .ok (.iadd, 1) := by decide +kernel
theorem dL_law_1042 : decode cL_law 1042 = .ok (.iaload, 1) := by decide +kernel
theorem dL_law_1043 : decode cL_law 1043 = .ok (.aload_n 0, 1) := by decide +kernel
theorem dL_law_1044 : decode cL_law 1044 = .ok (.iload_n 3, 1) := by decide +kernel
theorem dL_law_1045 : decode cL_law 1045 = .ok (.iconst 2, 1) := by decide +kernel
theorem dL_law_1046 : decode cL_law 1046 = .ok (.iadd, 1) := by decide +kernel
theorem dL_law_1047 : decode cL_law 1047 = .ok (.iaload, 1) := by decide +kernel
theorem dL_law_1048 : decode cL_law 1048 = .ok (.aload_n 0, 1) := by decide +kernel
theorem dL_law_1049 : decode cL_law 1049 = .ok (.iload_n 3, 1) := by decide +kernel
theorem dL_law_1050 : decode cL_law 1050 = .ok (.iconst 3, 1) := by decide +kernel
theorem dL_law_1051 : decode cL_law 1051 = .ok (.iadd, 1) := by decide +kernel
theorem dL_law_1052 : decode cL_law 1052 = .ok (.iaload, 1) := by decide +kernel
theorem dL_law_1053 : decode cL_law 1053 = .ok (.invokevirtual 110, 3) := by decide +kernel
theorem dL_law_1056 : decode cL_law 1056 = .ok (.if_icmp .eq 752, 3) := by decide +kernel
theorem dL_law_1061 : decode cL_law 1061 = .ok (.aload_n 1, 1) := by decide +kernel
theorem dL_law_1062 : decode cL_law 1062 = .ok (.aload_n 0, 1) := by decide +kernel
theorem dL_law_1063 : decode cL_law 1063 = .ok (.iload_n 3, 1) := by decide +kernel
theorem dL_law_1064 : decode cL_law 1064 = .ok (.iconst 1, 1) := by decide +kernel
theorem dL_law_1065 : decode cL_law 1065 = .ok (.iadd, 1) := by decide +kernel
theorem dL_law_1066 : decode cL_law 1066 = .ok (.iaload, 1) := by decide +kernel
theorem dL_law_1067 : decode cL_law 1067 = .ok (.aload_n 0, 1) := by decide +kernel
theorem dL_law_1068 : decode cL_law 1068 = .ok (.iload_n 3, 1) := by decide +kernel
theorem dL_law_1069 : decode cL_law 1069 = .ok (.iconst 2, 1) := by decide +kernel
theorem dL_law_1070 : decode cL_law 1070 = .ok (.iadd, 1) := by decide +kernel
theorem dL_law_1071 : decode cL_law 1071 = .ok (.iaload, 1) := by decide +kernel
theorem dL_law_1072 : decode cL_law 1072 = .ok (.invokevirtual 111, 3) := by decide +kernel
theorem dL_law_1075 : decode cL_law 1075 = .ok (.aload_n 2, 1) := by decide +kernel
theorem dL_law_1076 : decode cL_law 1076 = .ok (.aload_n 0, 1) := by decide +kernel
theorem dL_law_1077 : decode cL_law 1077 = .ok (.iload_n 3, 1) := by decide +kernel
theorem dL_law_1078 : decode cL_law 1078 = .ok (.iconst 1, 1) := by decide +kernel
theorem dL_law_1079 : decode cL_law 1079 = .ok (.iadd, 1) := by decide +kernel
theorem dL_law_1080 : decode cL_law 1080 = .ok (.iaload, 1) := by decide +kernel
theorem dL_law_1081 : decode cL_law 1081 = .ok (.aload_n 0, 1) := by decide +kernel
theorem dL_law_1082 : decode cL_law 1082 = .ok (.iload_n 3, 1) := by decide +kernel
theorem dL_law_1083 : decode cL_law 1083 = .ok (.iconst 2, 1) := by decide +kernel
theorem dL_law_1084 : decode cL_law 1084 = .ok (.iadd, 1) := by decide +kernel
theorem dL_law_1085 : decode cL_law 1085 = .ok (.iaload, 1) := by decide +kernel
theorem dL_law_1086 : decode cL_law 1086 = .ok (.invokevirtual 114, 3) := by decide +kernel
theorem dL_law_1089 : decode cL_law 1089 = .ok (.if_icmp .eq 719, 3) := by decide +kernel
theorem dL_law_1094 : decode cL_law 1094 = .ok (.aload_n 1, 1) := by decide +kernel
theorem dL_law_1095 : decode cL_law 1095 = .ok (.invokevirtual 115, 3) := by decide +kernel
theorem dL_law_1098 : decode cL_law 1098 = .ok (.aload_n 2, 1) := by decide +kernel
theorem dL_law_1099 : decode cL_law 1099 = .ok (.invokevirtual 118, 3) := by decide +kernel
theorem dL_law_1102 : decode cL_law 1102 = .ok (.if_icmp .eq 706, 3) := by decide +kernel
theorem dL_law_1107 : decode cL_law 1107 = .ok (.aload_n 1, 1) := by decide +kernel
theorem dL_law_1108 : decode cL_law 1108 = .ok (.aload_n 0, 1) := by decide +kernel
theorem dL_law_1109 : decode cL_law 1109 = .ok (.iload_n 3, 1) := by decide +kernel
theorem dL_law_1110 : decode cL_law 1110 = .ok (.iconst 1, 1) := by decide +kernel
theorem dL_law_1111 : decode cL_law 1111 = .ok (.iadd, 1) := by decide +kernel
theorem dL_law_1112 : decode cL_law 1112 = .ok (.iaload, 1) := by decide +kernel
theorem dL_law_1113 : decode cL_law 1113 = .ok (.invokevirtual 119, 3) := by decide +kernel
theorem dL_law_1116 : decode cL_law 1116 = .ok (.aload_n 2, 1) := by decide +kernel
theorem dL_law_1117 : decode cL_law 1117 = .ok (.aload_n 0, 1) := by decide +kernel
theorem dL_law_1118 : decode cL_law 1118 = .ok (.iload_n 3, 1) := by decide +kernel
theorem dL_law_1119 : decode cL_law 1119 = .ok (.iconst 1, 1) := by decide +kernel
theorem dL_law_1120 : decode cL_law 1120 = .ok (.iadd, 1) := by decide +kernel
theorem dL_law_1121 : decode cL_law 1121 = .ok (.iaload, 1) := by decide +kernel
theorem dL_law_1122 : decode cL_law 1122 = .ok (.invokevirtual 122, 3) := by decide +kernel
theorem dL_law_1125 : decode cL_law 1125 = .ok (.if_icmp .eq 683, 3) := by decide +kernel
theorem dL_law_1130 : decode cL_law 1130 = .ok (.aload_n 1, 1) := by decide +kernel
theorem dL_law_1131 : decode cL_law 1131 = .ok (.aload_n 0, 1) := by decide +kernel
theorem dL_law_1132 : decode cL_law 1132 = .ok (.iload_n 3, 1) := by decide +kernel
theorem dL_law_1133 : decode cL_law 1133 = .ok (.iconst 1, 1) := by decide +kernel
theorem dL_law_1134 : decode cL_law 1134 = .ok (.iadd, 1) := by decide +kernel
theorem dL_law_1135 : decode cL_law 1135 = .ok (.iaload, 1) := by decide +kernel
theorem dL_law_1136 : decode cL_law 1136 = .ok (.aload_n 0, 1) := by decide +kernel
theorem dL_law_1137 : decode cL_law 1137 = .ok (.iload_n 3, 1) := by decide +kernel
theorem dL_law_1138 : decode cL_law 1138 = .ok (.iconst 2, 1) := by decide +kernel
theorem dL_law_1139 : decode cL_law 1139 = .ok (.iadd, 1) := by decide +kernel
theorem dL_law_1140 : decode cL_law 1140 = .ok (.iaload, 1) := by decide +kernel
theorem dL_law_1141 : decode cL_law 1141 = .ok (.aload_n 0, 1) := by decide +kernel
theorem dL_law_1142 : decode cL_law 1142 = .ok (.iload_n 3, 1) := by decide +kernel
theorem dL_law_1143 : decode cL_law 1143 = .ok (.iconst 3, 1) := by decide +kernel
theorem dL_law_1144 : decode cL_law 1144 = .ok (.iadd, 1) := by decide +kernel
theorem dL_law_1145 : decode cL_law 1145 = .ok (.iaload, 1) := by decide +kernel
theorem dL_law_1146 : decode cL_law 1146 = .ok (.invokevirtual 123, 3) := by decide +kernel
theorem dL_law_1149 : decode cL_law 1149 = .ok (.aload_n 2, 1) := by decide +kernel
theorem dL_law_1150 : decode cL_law 1150 = .ok (.aload_n 0, 1) := by decide +kernel
theorem dL_law_1151 : decode cL_law 1151 = .ok (.iload_n 3, 1) := by decide +kernel
theorem dL_law_1152 : decode cL_law 1152 = .ok (.iconst 1, 1) := by decide +kernel
theorem dL_law_1153 : decode cL_law 1153 = .ok (.iadd, 1) := by decide +kernel
theorem dL_law_1154 : decode cL_law 1154 = .ok (.iaload, 1) := by decide +kernel
theorem dL_law_1155 : decode cL_law 1155 = .ok (.aload_n 0, 1) := by decide +kernel
theorem dL_law_1156 : decode cL_law 1156 = .ok (.iload_n 3, 1) := by decide +kernel
theorem dL_law_1157 : decode cL_law 1157 = .ok (.iconst 2, 1) := by decide +kernel
theorem dL_law_1158 : decode cL_law 1158 = .ok (.iadd, 1) := by decide +kernel
theorem dL_law_1159 : decode cL_law 1159 = .ok (.iaload, 1) := by decide +kernel
theorem dL_law_1160 : decode cL_law 1160 = .ok (.aload_n 0, 1) := by decide +kernel
theorem dL_law_1161 : decode cL_law 1161 = .ok (.iload_n 3, 1) := by decide +kernel
theorem dL_law_1162 : decode cL_law 1162 = .ok (.iconst 3, 1) := by decide +kernel
theorem dL_law_1163 : decode cL_law 1163 = .ok (.iadd, 1) := by decide +kernel
theorem dL_law_1164 : decode cL_law 1164 = .ok (.iaload, 1) := by decide +kernel
theorem dL_law_1165 : decode cL_law 1165 = .ok (.invokevirtual 126, 3) := by decide +kernel
theorem dL_law_1168 : decode cL_law 1168 = .ok (.if_icmp .eq 640, 3) := by decide +kernel
set_option maxHeartbeats 4000000 in
set_option maxRecDepth 100000 in
theorem law_13 {p : Program} {l : Launch} {e : Env} {s : State} {m : MethodId} {below : List Frame} {meth : Method} {c : Code} {b : Nat} {xs : Nat → Int32} {A : Nat → Prop} {G : va_G} {cy : Nat → ClassId} {H : Heap} {locs : List Loc} {ls : Array Slot} (qx : Nat) (qt : Nat) (qk : Nat) (qp : Nat) (qs : Nat) (qa : Nat) (qr : Nat) (qtw : Nat) (qtn : Nat) (qtg : Nat) (qta : Nat) (qtr : Nat) (qtm : Nat) (qtt : Nat) (qts : Nat) (qm : Nat) (qms : Nat) (qmo : Nat) (qmz : Nat) (qmR : Nat) (qmv : Nat) (qmk : Nat) (qmb : Nat) (qmt : Nat) (qmr : Nat) (qmB : Nat) (qmO : Nat) (qmK : Nat) (qm_three : Nat) (qm_unread : Nat) (qm_tryRow : Nat) (qm_bestRow : Nat) (qm_steps : Nat) (hx : p.tables.exec = Jvm.exec) (hb : c.code = code) (hr : meth.sig.returnType = ret) (hml : c.maxLocals = 4) (hown : s.vm.findClass RL = some m.cls) (hts : ∀ w ∈ BIG, w.before #[Value.ref b] s = true) (hX : va_X b 6 xs s s.heap) (hbl : b < s.heap.size) (hlocks : meth.locks = false) (hN : KN G cy s) (hA : ∀ q : Nat, s.heap.size ≤ q → A q) (hAn : ∀ q : Nat, A q → s.heap.size ≤ q) (hbA : ¬ A b) (hP : va_P G CL [(qx, .inr (4, [.ref qt, .ref qk, .ref qp, .ref qs, .ref qa, .ref qr, .int 0, .int 0, .int 0])), (qr, .inl (cy 0, 5, .inl (fun _ => 0))), (qt, .inr (3, [.int 0, .int 0, .int 0, .int 0, .int 1, .ref qtw, .ref qtn, .ref qtg, .ref qta, .ref qtr, .ref qtm, .ref qtt, .ref qts])), (qm, .inr (5, [.ref qms, .ref qmo, .ref qmz, .ref qmR, .ref qmv, .ref qmk, .ref qmb, .ref qmt, .int 0, .ref qmr, .int 0, .ref qmB, .int 0, .ref qmO, .ref qmK, .int 0, .int 0, .int 1, .null, .null, .int 0, .int 0, .int 0, .long 0, .int 0, .ref qm_three, .int 0, .int 0, .int 0, .null, .ref qm_unread, .ref qm_tryRow, .ref qm_bestRow, .ref qm_steps, .int 0])), (qmr, .inl (cy 0, 8, .inl (fun _ => 0)))] H) (hD : va_D A [(qx, .inr (4, [.ref qt, .ref qk, .ref qp, .ref qs, .ref qa, .ref qr, .int 0, .int 0, .int 0])), (qr, .inl (cy 0, 5, .inl (fun _ => 0))), (qt, .inr (3, [.int 0, .int 0, .int 0, .int 0, .int 1, .ref qtw, .ref qtn, .ref qtg, .ref qta, .ref qtr, .ref qtm, .ref qtt, .ref qts])), (qm, .inr (5, [.ref qms, .ref qmo, .ref qmz, .ref qmR, .ref qmv, .ref qmk, .ref qmb, .ref qmt, .int 0, .ref qmr, .int 0, .ref qmB, .int 0, .ref qmO, .ref qmK, .int 0, .int 0, .int 1, .null, .null, .int 0, .int 0, .int 0, .long 0, .int 0, .ref qm_three, .int 0, .int 0, .int 0, .null, .ref qm_unread, .ref qm_tryRow, .ref qm_bestRow, .ref qm_steps, .int 0])), (qmr, .inl (cy 0, 8, .inl (fun _ => 0)))]) (hS : va_S A s.heap H locs) (hl : lv_has ls 4 [(3, .int 0), (2, .ref qm), (1, .ref qx), (0, .ref b)]) : W p l e room_1 s m #[Value.ref b] below meth c H locs 105 2176 (lw_Z below #[Value.ref b] s) (F0 m 734 ls []) := by
  have hK := hN.1
  refine lv_aload_n hx hb dL_law_734 rfl (lv_at hl 2 rfl) ?_
  refine lv_aload_n hx hb dL_law_735 rfl (lv_at hl 3 rfl) ?_
  refine lv_iload_n hx hb dL_law_736 rfl (lv_at hl 0 rfl) ?_
  refine lv_iconst (v := 1) hx hb dL_law_737 (by decide) ?_
  refine lv_iadd hx hb dL_law_738 ?_
  refine lv_seti (v := 1) (by decide) ?_
  refine va_sld hx hb hX hbl hbA hS (in_c rfl) dL_law_739 ?_
  refine lv_seti (v := xs 1) (congrArg xs (by decide)) ?_
  refine lv_aload_n hx hb dL_law_740 rfl (lv_at hl 3 rfl) ?_
  refine lv_iload_n hx hb dL_law_741 rfl (lv_at hl 0 rfl) ?_
  refine lv_iconst (v := 2) hx hb dL_law_742 (by decide) ?_
  refine lv_iadd hx hb dL_law_743 ?_
  refine lv_seti (v := 2) (by decide) ?_
  refine va_sld hx hb hX hbl hbA hS (in_c rfl) dL_law_744 ?_
  refine lv_seti (v := xs 2) (congrArg xs (by decide)) ?_
  refine kWi (wr := [(qm, .inr (5, [.ref qms, .ref qmo, .ref qmz, .ref qmR, .ref qmv, .ref qmk, .ref qmb, .ref qmt, .int 0, .ref qmr, .int 0, .ref qmB, .int 0, .ref qmO, .ref qmK, .int 0, .int 0, .int 1, .null, .null, .int 0, .int 0, .int 0, .long 0, .int 0, .ref qm_three, .int 0, .int 0, .int 0, .null, .ref qm_unread, .ref qm_tryRow, .ref qm_bestRow, .ref qm_steps, .int 0])), (qmr, .inl (cy 0, 8, .inl (fun _ => 0)))]) (rV (As := [.int (xs 1), .int (xs 2)]) (rest := []) (b := qx) ⟨hx, hb, hml, hown, hts⟩ (p_X5_bookOf l G cy (H).size qx qt qk qp qs qa qr qtw qtn qtg qta qtr qtm qtt qts (xs 1) (xs 2)) L_L_75 (preWV (q := (RX5, TX5, 9)) hN hP hD [0, 1, 2] rfl (by decide) 0 4 rfl rfl) rfl ⟨Nat.le_of_ble_eq_true rfl, Nat.le_of_ble_eq_true rfl⟩ hl.1 (Nat.le_of_ble_eq_true rfl) dL_law_745 ⟨Nat.le_of_ble_eq_true rfl, Nat.le_of_ble_eq_true rfl⟩) hP hD hS hA [0, 1, 2] [3, 4] rfl rfl (by decide) (by decide) (fun r_1 u_3 H locs h_2 hP hD hS => ?_)
  obtain ⟨rfl, h_2⟩ := h_2
  have hP : va_P G CL [(qm, .inr (5, [.ref qms, .ref qmo, .ref qmz, .ref qmR, .ref qmv, .ref qmk, .ref qmb, .ref qmt, .int 0, .ref qmr, .int 0, .ref qmB, .int 0, .ref qmO, .ref qmK, .int 0, .int 0, .int 1, .null, .null, .int 0, .int 0, .int 0, .long 0, .int 0, .ref qm_three, .int 0, .int 0, .int 0, .null, .ref qm_unread, .ref qm_tryRow, .ref qm_bestRow, .ref qm_steps, .int 0])), (qmr, .inl (cy 0, 8, .inl (fun _ => 0)))] H := hP
  have hD : va_D A [(qm, .inr (5, [.ref qms, .ref qmo, .ref qmz, .ref qmR, .ref qmv, .ref qmk, .ref qmb, .ref qmt, .int 0, .ref qmr, .int 0, .ref qmB, .int 0, .ref qmO, .ref qmK, .int 0, .int 0, .int 1, .null, .null, .int 0, .int 0, .int 0, .long 0, .int 0, .ref qm_three, .int 0, .int 0, .int 0, .null, .ref qm_unread, .ref qm_tryRow, .ref qm_bestRow, .ref qm_steps, .int 0])), (qmr, .inl (cy 0, 8, .inl (fun _ => 0)))] := hD
  subst h_2
  refine lv_aload_n hx hb dL_law_748 rfl (lv_at hl 1 rfl) ?_
  refine lv_aload_n hx hb dL_law_749 rfl (lv_at hl 3 rfl) ?_
  refine lv_iload_n hx hb dL_law_750 rfl (lv_at hl 0 rfl) ?_
  refine lv_iconst (v := 1) hx hb dL_law_751 (by decide) ?_
  refine lv_iadd hx hb dL_law_752 ?_
  refine lv_seti (v := 1) (by decide) ?_
  refine va_sld hx hb hX hbl hbA hS (in_c rfl) dL_law_753 ?_
  refine lv_seti (v := xs 1) (congrArg xs (by decide)) ?_
  refine lv_aload_n hx hb dL_law_754 rfl (lv_at hl 3 rfl) ?_
  refine lv_iload_n hx hb dL_law_755 rfl (lv_at hl 0 rfl) ?_
  refine lv_iconst (v := 2) hx hb dL_law_756 (by decide) ?_
  refine lv_iadd hx hb dL_law_757 ?_
  refine lv_seti (v := 2) (by decide) ?_
  refine va_sld hx hb hX hbl hbA hS (in_c rfl) dL_law_758 ?_
  refine lv_seti (v := xs 2) (congrArg xs (by decide)) ?_
  refine kWi (wr := []) (rV (As := [.int (xs 1), .int (xs 2)]) (rest := [.int (-2)]) (b := qm) ⟨hx, hb, hml, hown, hts⟩ (p_X6_bookOf l G cy (H).size qm qms qmo qmz qmR qmv qmk qmb qmt qmr qmB qmO qmK qm_three qm_unread qm_tryRow qm_bestRow qm_steps (xs 1) (xs 2)) L_L_78 (preWV (q := (RX6, TX6, 35)) hN hP hD [0, 1] rfl (by decide) 0 5 rfl rfl) rfl ⟨Nat.le_of_ble_eq_true rfl, Nat.le_of_ble_eq_true rfl⟩ hl.1 (Nat.le_of_ble_eq_true rfl) dL_law_759 ⟨Nat.le_of_ble_eq_true rfl, Nat.le_of_ble_eq_true rfl⟩) hP hD hS hA [0, 1] [] rfl rfl (by decide) (by decide) (fun r_4 u_6 H locs h_5 hP hD hS => ?_)
  obtain ⟨rfl, h_5⟩ := h_5
  have hP : va_P G CL [] H := hP
  have hD : va_D A [] := hD
  subst h_5
  refine lv_icmp_eq (tgt := 1808) hx hb dL_law_762 (by decide) (fun _ => ?_) (fun h9 => absurd (by decide) h9)
  exact law_tail hx hb hr hml hX hbl hlocks hAn hbA hS (lv_sub hl [0, 3] rfl) (Nat.le_of_ble_eq_true rfl) (Nat.le_of_ble_eq_true rfl)
set_option maxHeartbeats 4000000 in
set_option maxRecDepth 100000 in
theorem law_14 {p : Program} {l : Launch} {e : Env} {s : State} {m : MethodId} {below : List Frame} {meth : Method} {c : Code} {b : Nat} {xs : Nat → Int32} {A : Nat → Prop} {G : va_G} {cy : Nat → ClassId} {H : Heap} {locs : List Loc} {ls : Array Slot} (qx : Nat) (qt : Nat) (qk : Nat) (qp : Nat) (qs : Nat) (qa : Nat) (qr : Nat) (qtw : Nat) (qtn : Nat) (qtg : Nat) (qta : Nat) (qtr : Nat) (qtm : Nat) (qtt : Nat) (qts : Nat) (qm : Nat) (qms : Nat) (qmo : Nat) (qmz : Nat) (qmR : Nat) (qmv : Nat) (qmk : Nat) (qmb : Nat) (qmt : Nat) (qmr : Nat) (qmB : Nat) (qmO : Nat) (qmK : Nat) (qm_three : Nat) (qm_unread : Nat) (qm_tryRow : Nat) (qm_bestRow : Nat) (qm_steps : Nat) (hx : p.tables.exec = Jvm.exec) (hb : c.code = code) (hr : meth.sig.returnType = ret) (hml : c.maxLocals = 4) (hown : s.vm.findClass RL = some m.cls) (hts : ∀ w ∈ BIG, w.before #[Value.ref b] s = true) (hX : va_X b 6 xs s s.heap) (hbl : b < s.heap.size) (hlocks : meth.locks = false) (hN : KN G cy s) (hA : ∀ q : Nat, s.heap.size ≤ q → A q) (hAn : ∀ q : Nat, A q → s.heap.size ≤ q) (hbA : ¬ A b) (hP : va_P G CL [(qx, .inr (4, [.ref qt, .ref qk, .ref qp, .ref qs, .ref qa, .ref qr, .int 0, .int 0, .int 0])), (qr, .inl (cy 0, 5, .inl (fun _ => 0))), (qt, .inr (3, [.int 0, .int 0, .int 0, .int 0, .int 1, .ref qtw, .ref qtn, .ref qtg, .ref qta, .ref qtr, .ref qtm, .ref qtt, .ref qts])), (qm, .inr (5, [.ref qms, .ref qmo, .ref qmz, .ref qmR, .ref qmv, .ref qmk, .ref qmb, .ref qmt, .int 0, .ref qmr, .int 0, .ref qmB, .int 0, .ref qmO, .ref qmK, .int 0, .int 0, .int 1, .null, .null, .int 0, .int 0, .int 0, .long 0, .int 0, .ref qm_three, .int 0, .int 0, .int 0, .null, .ref qm_unread, .ref qm_tryRow, .ref qm_bestRow, .ref qm_steps, .int 0])), (qmr, .inl (cy 0, 8, .inl (fun _ => 0)))] H) (hD : va_D A [(qx, .inr (4, [.ref qt, .ref qk, .ref qp, .ref qs, .ref qa, .ref qr, .int 0, .int 0, .int 0])), (qr, .inl (cy 0, 5, .inl (fun _ => 0))), (qt, .inr (3, [.int 0, .int 0, .int 0, .int 0, .int 1, .ref qtw, .ref qtn, .ref qtg, .ref qta, .ref qtr, .ref qtm, .ref qtt, .ref qts])), (qm, .inr (5, [.ref qms, .ref qmo, .ref qmz, .ref qmR, .ref qmv, .ref qmk, .ref qmb, .ref qmt, .int 0, .ref qmr, .int 0, .ref qmB, .int 0, .ref qmO, .ref qmK, .int 0, .int 0, .int 1, .null, .null, .int 0, .int 0, .int 0, .long 0, .int 0, .ref qm_three, .int 0, .int 0, .int 0, .null, .ref qm_unread, .ref qm_tryRow, .ref qm_bestRow, .ref qm_steps, .int 0])), (qmr, .inl (cy 0, 8, .inl (fun _ => 0)))]) (hS : va_S A s.heap H locs) (hl : lv_has ls 4 [(3, .int 0), (2, .ref qm), (1, .ref qx), (0, .ref b)]) : W p l e room_1 s m #[Value.ref b] below meth c H locs 105 2176 (lw_Z below #[Value.ref b] s) (F0 m 767 ls []) := by
  have hK := hN.1
  refine lv_aload_n hx hb dL_law_767 rfl (lv_at hl 2 rfl) ?_
  refine lv_aload_n hx hb dL_law_768 rfl (lv_at hl 3 rfl) ?_
  refine lv_iload_n hx hb dL_law_769 rfl (lv_at hl 0 rfl) ?_
  refine lv_iconst (v := 1) hx hb dL_law_770 (by decide) ?_
  refine lv_iadd hx hb dL_law_771 ?_
  refine lv_seti (v := 1) (by decide) ?_
  refine va_sld hx hb hX hbl hbA hS (in_c rfl) dL_law_772 ?_
  refine lv_seti (v := xs 1) (congrArg xs (by decide)) ?_
  refine lv_aload_n hx hb dL_law_773 rfl (lv_at hl 3 rfl) ?_
  refine lv_iload_n hx hb dL_law_774 rfl (lv_at hl 0 rfl) ?_
  refine lv_iconst (v := 2) hx hb dL_law_775 (by decide) ?_
  refine lv_iadd hx hb dL_law_776 ?_
  refine lv_seti (v := 2) (by decide) ?_
  refine va_sld hx hb hX hbl hbA hS (in_c rfl) dL_law_777 ?_
  refine lv_seti (v := xs 2) (congrArg xs (by decide)) ?_
  refine kWi (wr := [(qm, .inr (5, [.ref qms, .ref qmo, .ref qmz, .ref qmR, .ref qmv, .ref qmk, .ref qmb, .ref qmt, .int 0, .ref qmr, .int 0, .ref qmB, .int 0, .ref qmO, .ref qmK, .int 0, .int 0, .int 1, .null, .null, .int 0, .int 0, .int 0, .long 0, .int 0, .ref qm_three, .int 0, .int 0, .int 0, .null, .ref qm_unread, .ref qm_tryRow, .ref qm_bestRow, .ref qm_steps, .int 0])), (qmr, .inl (cy 0, 8, .inl (fun _ => 0)))]) (rV (As := [.int (xs 1), .int (xs 2)]) (rest := []) (b := qx) ⟨hx, hb, hml, hown, hts⟩ (p_X5_oneOf l G cy (H).size qx qt qk qp qs qa qr qtw qtn qtg qta qtr qtm qtt qts (xs 1) (xs 2)) L_L_79 (preWV (q := (RX5, TX5, 9)) hN hP hD [0, 1, 2] rfl (by decide) 0 4 rfl rfl) rfl ⟨Nat.le_of_ble_eq_true rfl, Nat.le_of_ble_eq_true rfl⟩ hl.1 (Nat.le_of_ble_eq_true rfl) dL_law_778 ⟨Nat.le_of_ble_eq_true rfl, Nat.le_of_ble_eq_true rfl⟩) hP hD hS hA [0, 1, 2] [3, 4] rfl rfl (by decide) (by decide) (fun r_1 u_3 H locs h_2 hP hD hS => ?_)
  obtain ⟨rfl, h_2⟩ := h_2
  have hP : va_P G CL [(qm, .inr (5, [.ref qms, .ref qmo, .ref qmz, .ref qmR, .ref qmv, .ref qmk, .ref qmb, .ref qmt, .int 0, .ref qmr, .int 0, .ref qmB, .int 0, .ref qmO, .ref qmK, .int 0, .int 0, .int 1, .null, .null, .int 0, .int 0, .int 0, .long 0, .int 0, .ref qm_three, .int 0, .int 0, .int 0, .null, .ref qm_unread, .ref qm_tryRow, .ref qm_bestRow, .ref qm_steps, .int 0])), (qmr, .inl (cy 0, 8, .inl (fun _ => 0)))] H := hP
  have hD : va_D A [(qm, .inr (5, [.ref qms, .ref qmo, .ref qmz, .ref qmR, .ref qmv, .ref qmk, .ref qmb, .ref qmt, .int 0, .ref qmr, .int 0, .ref qmB, .int 0, .ref qmO, .ref qmK, .int 0, .int 0, .int 1, .null, .null, .int 0, .int 0, .int 0, .long 0, .int 0, .ref qm_three, .int 0, .int 0, .int 0, .null, .ref qm_unread, .ref qm_tryRow, .ref qm_bestRow, .ref qm_steps, .int 0])), (qmr, .inl (cy 0, 8, .inl (fun _ => 0)))] := hD
  subst h_2
  refine lv_aload_n hx hb dL_law_781 rfl (lv_at hl 1 rfl) ?_
  refine lv_aload_n hx hb dL_law_782 rfl (lv_at hl 3 rfl) ?_
  refine lv_iload_n hx hb dL_law_783 rfl (lv_at hl 0 rfl) ?_
  refine lv_iconst (v := 1) hx hb dL_law_784 (by decide) ?_
  refine lv_iadd hx hb dL_law_785 ?_
  refine lv_seti (v := 1) (by decide) ?_
  refine va_sld hx hb hX hbl hbA hS (in_c rfl) dL_law_786 ?_
  refine lv_seti (v := xs 1) (congrArg xs (by decide)) ?_
  refine lv_aload_n hx hb dL_law_787 rfl (lv_at hl 3 rfl) ?_
  refine lv_iload_n hx hb dL_law_788 rfl (lv_at hl 0 rfl) ?_
  refine lv_iconst (v := 2) hx hb dL_law_789 (by decide) ?_
  refine lv_iadd hx hb dL_law_790 ?_
  refine lv_seti (v := 2) (by decide) ?_
  refine va_sld hx hb hX hbl hbA hS (in_c rfl) dL_law_791 ?_
  refine lv_seti (v := xs 2) (congrArg xs (by decide)) ?_
  refine kWi (wr := []) (rV (As := [.int (xs 1), .int (xs 2)]) (rest := [.int (-2)]) (b := qm) ⟨hx, hb, hml, hown, hts⟩ (p_X6_oneOf l G cy (H).size qm qms qmo qmz qmR qmv qmk qmb qmt qmr qmB qmO qmK qm_three qm_unread qm_tryRow qm_bestRow qm_steps (xs 1) (xs 2)) L_L_82 (preWV (q := (RX6, TX6, 35)) hN hP hD [0, 1] rfl (by decide) 0 5 rfl rfl) rfl ⟨Nat.le_of_ble_eq_true rfl, Nat.le_of_ble_eq_true rfl⟩ hl.1 (Nat.le_of_ble_eq_true rfl) dL_law_792 ⟨Nat.le_of_ble_eq_true rfl, Nat.le_of_ble_eq_true rfl⟩) hP hD hS hA [0, 1] [] rfl rfl (by decide) (by decide) (fun r_4 u_6 H locs h_5 hP hD hS => ?_)
  obtain ⟨rfl, h_5⟩ := h_5
  have hP : va_P G CL [] H := hP
  have hD : va_D A [] := hD
  subst h_5
  refine lv_icmp_eq (tgt := 1808) hx hb dL_law_795 (by decide) (fun _ => ?_) (fun h9 => absurd (by decide) h9)
  exact law_tail hx hb hr hml hX hbl hlocks hAn hbA hS (lv_sub hl [0, 3] rfl) (Nat.le_of_ble_eq_true rfl) (Nat.le_of_ble_eq_true rfl)
set_option maxHeartbeats 4000000 in
set_option maxRecDepth 100000 in
theorem law_15 {p : Program} {l : Launch} {e : Env} {s : State} {m : MethodId} {below : List Frame} {meth : Method} {c : Code} {b : Nat} {xs : Nat → Int32} {A : Nat → Prop} {G : va_G} {cy : Nat → ClassId} {H : Heap} {locs : List Loc} {ls : Array Slot} (qx : Nat) (qt : Nat) (qk : Nat) (qp : Nat) (qs : Nat) (qa : Nat) (qr : Nat) (qtw : Nat) (qtn : Nat) (qtg : Nat) (qta : Nat) (qtr : Nat) (qtm : Nat) (qtt : Nat) (qts : Nat) (qm : Nat) (qms : Nat) (qmo : Nat) (qmz : Nat) (qmR : Nat) (qmv : Nat) (qmk : Nat) (qmb : Nat) (qmt : Nat) (qmr : Nat) (qmB : Nat) (qmO : Nat) (qmK : Nat) (qm_three : Nat) (qm_unread : Nat) (qm_tryRow : Nat) (qm_bestRow : Nat) (qm_steps : Nat) (hx : p.tables.exec = Jvm.exec) (hb : c.code = code) (hr : meth.sig.returnType = ret) (hml : c.maxLocals = 4) (hown : s.vm.findClass RL = some m.cls) (hts : ∀ w ∈ BIG, w.before #[Value.ref b] s = true) (hX : va_X b 6 xs s s.heap) (hbl : b < s.heap.size) (hlocks : meth.locks = false) (hN : KN G cy s) (hA : ∀ q : Nat, s.heap.size ≤ q → A q) (hAn : ∀ q : Nat, A q → s.heap.size ≤ q) (hbA : ¬ A b) (hP : va_P G CL [(qx, .inr (4, [.ref qt, .ref qk, .ref qp, .ref qs, .ref qa, .ref qr, .int 0, .int 0, .int 0])), (qr, .inl (cy 0, 5, .inl (fun _ => 0))), (qt, .inr (3, [.int 0, .int 0, .int 0, .int 0, .int 1, .ref qtw, .ref qtn, .ref qtg, .ref qta, .ref qtr, .ref qtm, .ref qtt, .ref qts])), (qm, .inr (5, [.ref qms, .ref qmo, .ref qmz, .ref qmR, .ref qmv, .ref qmk, .ref qmb, .ref qmt, .int 0, .ref qmr, .int 0, .ref qmB, .int 0, .ref qmO, .ref qmK, .int 0, .int 0, .int 1, .null, .null, .int 0, .int 0, .int 0, .long 0, .int 0, .ref qm_three, .int 0, .int 0, .int 0, .null, .ref qm_unread, .ref qm_tryRow, .ref qm_bestRow, .ref qm_steps, .int 0])), (qmr, .inl (cy 0, 8, .inl (fun _ => 0)))] H) (hD : va_D A [(qx, .inr (4, [.ref qt, .ref qk, .ref qp, .ref qs, .ref qa, .ref qr, .int 0, .int 0, .int 0])), (qr, .inl (cy 0, 5, .inl (fun _ => 0))), (qt, .inr (3, [.int 0, .int 0, .int 0, .int 0, .int 1, .ref qtw, .ref qtn, .ref qtg, .ref qta, .ref qtr, .ref qtm, .ref qtt, .ref qts])), (qm, .inr (5, [.ref qms, .ref qmo, .ref qmz, .ref qmR, .ref qmv, .ref qmk, .ref qmb, .ref qmt, .int 0, .ref qmr, .int 0, .ref qmB, .int 0, .ref qmO, .ref qmK, .int 0, .int 0, .int 1, .null, .null, .int 0, .int 0, .int 0, .long 0, .int 0, .ref qm_three, .int 0, .int 0, .int 0, .null, .ref qm_unread, .ref qm_tryRow, .ref qm_bestRow, .ref qm_steps, .int 0])), (qmr, .inl (cy 0, 8, .inl (fun _ => 0)))]) (hS : va_S A s.heap H locs) (hl : lv_has ls 4 [(3, .int 0), (2, .ref qm), (1, .ref qx), (0, .ref b)]) : W p l e room_1 s m #[Value.ref b] below meth c H locs 105 2176 (lw_Z below #[Value.ref b] s) (F0 m 800 ls []) := by
  have hK := hN.1
  refine lv_aload_n hx hb dL_law_800 rfl (lv_at hl 2 rfl) ?_
  refine lv_aload_n hx hb dL_law_801 rfl (lv_at hl 3 rfl) ?_
  refine lv_iload_n hx hb dL_law_802 rfl (lv_at hl 0 rfl) ?_
  refine lv_iconst (v := 1) hx hb dL_law_803 (by decide) ?_
  refine lv_iadd hx hb dL_law_804 ?_
  refine lv_seti (v := 1) (by decide) ?_
  refine va_sld hx hb hX hbl hbA hS (in_c rfl) dL_law_805 ?_
  refine lv_seti (v := xs 1) (congrArg xs (by decide)) ?_
  refine lv_aload_n hx hb dL_law_806 rfl (lv_at hl 3 rfl) ?_
  refine lv_iload_n hx hb dL_law_807 rfl (lv_at hl 0 rfl) ?_
  refine lv_iconst (v := 2) hx hb dL_law_808 (by decide) ?_
  refine lv_iadd hx hb dL_law_809 ?_
  refine lv_seti (v := 2) (by decide) ?_
  refine va_sld hx hb hX hbl hbA hS (in_c rfl) dL_law_810 ?_
  refine lv_seti (v := xs 2) (congrArg xs (by decide)) ?_
  refine kWi (wr := [(qm, .inr (5, [.ref qms, .ref qmo, .ref qmz, .ref qmR, .ref qmv, .ref qmk, .ref qmb, .ref qmt, .int 0, .ref qmr, .int 0, .ref qmB, .int 0, .ref qmO, .ref qmK, .int 0, .int 0, .int 1, .null, .null, .int 0, .int 0, .int 0, .long 0, .int 0, .ref qm_three, .int 0, .int 0, .int 0, .null, .ref qm_unread, .ref qm_tryRow, .ref qm_bestRow, .ref qm_steps, .int 0])), (qmr, .inl (cy 0, 8, .inl (fun _ => 0)))]) (rV (As := [.int (xs 1), .int (xs 2)]) (rest := []) (b := qx) ⟨hx, hb, hml, hown, hts⟩ (p_X5_known l G cy (H).size qx qt qk qp qs qa qr qtw qtn qtg qta qtr qtm qtt qts (xs 1) (xs 2)) L_L_83 (preWV (q := (RX5, TX5, 9)) hN hP hD [0, 1, 2] rfl (by decide) 0 4 rfl rfl) rfl ⟨Nat.le_of_ble_eq_true rfl, Nat.le_of_ble_eq_true rfl⟩ hl.1 (Nat.le_of_ble_eq_true rfl) dL_law_811 ⟨Nat.le_of_ble_eq_true rfl, Nat.le_of_ble_eq_true rfl⟩) hP hD hS hA [0, 1, 2] [3, 4] rfl rfl (by decide) (by decide) (fun r_1 u_3 H locs h_2 hP hD hS => ?_)
  obtain ⟨rfl, h_2⟩ := h_2
  have hP : va_P G CL [(qm, .inr (5, [.ref qms, .ref qmo, .ref qmz, .ref qmR, .ref qmv, .ref qmk, .ref qmb, .ref qmt, .int 0, .ref qmr, .int 0, .ref qmB, .int 0, .ref qmO, .ref qmK, .int 0, .int 0, .int 1, .null, .null, .int 0, .int 0, .int 0, .long 0, .int 0, .ref qm_three, .int 0, .int 0, .int 0, .null, .ref qm_unread, .ref qm_tryRow, .ref qm_bestRow, .ref qm_steps, .int 0])), (qmr, .inl (cy 0, 8, .inl (fun _ => 0)))] H := hP
  have hD : va_D A [(qm, .inr (5, [.ref qms, .ref qmo, .ref qmz, .ref qmR, .ref qmv, .ref qmk, .ref qmb, .ref qmt, .int 0, .ref qmr, .int 0, .ref qmB, .int 0, .ref qmO, .ref qmK, .int 0, .int 0, .int 1, .null, .null, .int 0, .int 0, .int 0, .long 0, .int 0, .ref qm_three, .int 0, .int 0, .int 0, .null, .ref qm_unread, .ref qm_tryRow, .ref qm_bestRow, .ref qm_steps, .int 0])), (qmr, .inl (cy 0, 8, .inl (fun _ => 0)))] := hD
  subst h_2
  refine lv_aload_n hx hb dL_law_814 rfl (lv_at hl 1 rfl) ?_
  refine lv_aload_n hx hb dL_law_815 rfl (lv_at hl 3 rfl) ?_
  refine lv_iload_n hx hb dL_law_816 rfl (lv_at hl 0 rfl) ?_
  refine lv_iconst (v := 1) hx hb dL_law_817 (by decide) ?_
  refine lv_iadd hx hb dL_law_818 ?_
  refine lv_seti (v := 1) (by decide) ?_
  refine va_sld hx hb hX hbl hbA hS (in_c rfl) dL_law_819 ?_
  refine lv_seti (v := xs 1) (congrArg xs (by decide)) ?_
  refine lv_aload_n hx hb dL_law_820 rfl (lv_at hl 3 rfl) ?_
  refine lv_iload_n hx hb dL_law_821 rfl (lv_at hl 0 rfl) ?_
  refine lv_iconst (v := 2) hx hb dL_law_822 (by decide) ?_
  refine lv_iadd hx hb dL_law_823 ?_
  refine lv_seti (v := 2) (by decide) ?_
  refine va_sld hx hb hX hbl hbA hS (in_c rfl) dL_law_824 ?_
  refine lv_seti (v := xs 2) (congrArg xs (by decide)) ?_
  refine kWi (wr := []) (rV (As := [.int (xs 1), .int (xs 2)]) (rest := [.int (-2)]) (b := qm) ⟨hx, hb, hml, hown, hts⟩ (p_X6_known l G cy (H).size qm qms qmo qmz qmR qmv qmk qmb qmt qmr qmB qmO qmK qm_three qm_unread qm_tryRow qm_bestRow qm_steps (xs 1) (xs 2)) L_L_86 (preWV (q := (RX6, TX6, 35)) hN hP hD [0, 1] rfl (by decide) 0 5 rfl rfl) rfl ⟨Nat.le_of_ble_eq_true rfl, Nat.le_of_ble_eq_true rfl⟩ hl.1 (Nat.le_of_ble_eq_true rfl) dL_law_825 ⟨Nat.le_of_ble_eq_true rfl, Nat.le_of_ble_eq_true rfl⟩) hP hD hS hA [0, 1] [] rfl rfl (by decide) (by decide) (fun r_4 u_6 H locs h_5 hP hD hS => ?_)
  obtain ⟨rfl, h_5⟩ := h_5
  have hP : va_P G CL [] H := hP
  have hD : va_D A [] := hD
  subst h_5
  refine lv_icmp_eq (tgt := 1808) hx hb dL_law_828 (by decide) (fun _ => ?_) (fun h9 => absurd (by decide) h9)
  exact law_tail hx hb hr hml hX hbl hlocks hAn hbA hS (lv_sub hl [0, 3] rfl) (Nat.le_of_ble_eq_true rfl) (Nat.le_of_ble_eq_true rfl)
set_option maxHeartbeats 4000000 in
set_option maxRecDepth 100000 in
theorem law_16 {p : Program} {l : Launch} {e : Env} {s : State} {m : MethodId} {below : List Frame} {meth : Method} {c : Code} {b : Nat} {xs : Nat → Int32} {A : Nat → Prop} {G : va_G} {cy : Nat → ClassId} {H : Heap} {locs : List Loc} {ls : Array Slot} (qx : Nat) (qt : Nat) (qk : Nat) (qp : Nat) (qs : Nat) (qa : Nat) (qr : Nat) (qtw : Nat) (qtn : Nat) (qtg : Nat) (qta : Nat) (qtr : Nat) (qtm : Nat) (qtt : Nat) (qts : Nat) (qm : Nat) (qms : Nat) (qmo : Nat) (qmz : Nat) (qmR : Nat) (qmv : Nat) (qmk : Nat) (qmb : Nat) (qmt : Nat) (qmr : Nat) (qmB : Nat) (qmO : Nat) (qmK : Nat) (qm_three : Nat) (qm_unread : Nat) (qm_tryRow : Nat) (qm_bestRow : Nat) (qm_steps : Nat) (hx : p.tables.exec = Jvm.exec) (hb : c.code = code) (hr : meth.sig.returnType = ret) (hml : c.maxLocals = 4) (hown : s.vm.findClass RL = some m.cls) (hts : ∀ w ∈ BIG, w.before #[Value.ref b] s = true) (hX : va_X b 6 xs s s.heap) (hbl : b < s.heap.size) (hlocks : meth.locks = false) (hN : KN G cy s) (hA : ∀ q : Nat, s.heap.size ≤ q → A q) (hAn : ∀ q : Nat, A q → s.heap.size ≤ q) (hbA : ¬ A b) (hP : va_P G CL [(qx, .inr (4, [.ref qt, .ref qk, .ref qp, .ref qs, .ref qa, .ref qr, .int 0, .int 0, .int 0])), (qr, .inl (cy 0, 5, .inl (fun _ => 0))), (qt, .inr (3, [.int 0, .int 0, .int 0, .int 0, .int 1, .ref qtw, .ref qtn, .ref qtg, .ref qta, .ref qtr, .ref qtm, .ref qtt, .ref qts])), (qm, .inr (5, [.ref qms, .ref qmo, .ref qmz, .ref qmR, .ref qmv, .ref qmk, .ref qmb, .ref qmt, .int 0, .ref qmr, .int 0, .ref qmB, .int 0, .ref qmO, .ref qmK, .int 0, .int 0, .int 1, .null, .null, .int 0, .int 0, .int 0, .long 0, .int 0, .ref qm_three, .int 0, .int 0, .int 0, .null, .ref qm_unread, .ref qm_tryRow, .ref qm_bestRow, .ref qm_steps, .int 0])), (qmr, .inl (cy 0, 8, .inl (fun _ => 0)))] H) (hD : va_D A [(qx, .inr (4, [.ref qt, .ref qk, .ref qp, .ref qs, .ref qa, .ref qr, .int 0, .int 0, .int 0])), (qr, .inl (cy 0, 5, .inl (fun _ => 0))), (qt, .inr (3, [.int 0, .int 0, .int 0, .int 0, .int 1, .ref qtw, .ref qtn, .ref qtg, .ref qta, .ref qtr, .ref qtm, .ref qtt, .ref qts])), (qm, .inr (5, [.ref qms, .ref qmo, .ref qmz, .ref qmR, .ref qmv, .ref qmk, .ref qmb, .ref qmt, .int 0, .ref qmr, .int 0, .ref qmB, .int 0, .ref qmO, .ref qmK, .int 0, .int 0, .int 1, .null, .null, .int 0, .int 0, .int 0, .long 0, .int 0, .ref qm_three, .int 0, .int 0, .int 0, .null, .ref qm_unread, .ref qm_tryRow, .ref qm_bestRow, .ref qm_steps, .int 0])), (qmr, .inl (cy 0, 8, .inl (fun _ => 0)))]) (hS : va_S A s.heap H locs) (hl : lv_has ls 4 [(3, .int 0), (2, .ref qm), (1, .ref qx), (0, .ref b)]) : W p l e room_1 s m #[Value.ref b] below meth c H locs 105 2176 (lw_Z below #[Value.ref b] s) (F0 m 833 ls []) := by
  have hK := hN.1
  refine lv_aload_n hx hb dL_law_833 rfl (lv_at hl 2 rfl) ?_
  refine lv_aload_n hx hb dL_law_834 rfl (lv_at hl 3 rfl) ?_
  refine lv_iload_n hx hb dL_law_835 rfl (lv_at hl 0 rfl) ?_
  refine lv_iconst (v := 1) hx hb dL_law_836 (by decide) ?_
  refine lv_iadd hx hb dL_law_837 ?_
  refine lv_seti (v := 1) (by decide) ?_
  refine va_sld hx hb hX hbl hbA hS (in_c rfl) dL_law_838 ?_
  refine lv_seti (v := xs 1) (congrArg xs (by decide)) ?_
  refine lv_aload_n hx hb dL_law_839 rfl (lv_at hl 3 rfl) ?_
  refine lv_iload_n hx hb dL_law_840 rfl (lv_at hl 0 rfl) ?_
  refine lv_iconst (v := 2) hx hb dL_law_841 (by decide) ?_
  refine lv_iadd hx hb dL_law_842 ?_
  refine lv_seti (v := 2) (by decide) ?_
  refine va_sld hx hb hX hbl hbA hS (in_c rfl) dL_law_843 ?_
  refine lv_seti (v := xs 2) (congrArg xs (by decide)) ?_
  refine lv_aload_n hx hb dL_law_844 rfl (lv_at hl 3 rfl) ?_
  refine lv_iload_n hx hb dL_law_845 rfl (lv_at hl 0 rfl) ?_
  refine lv_iconst (v := 3) hx hb dL_law_846 (by decide) ?_
  refine lv_iadd hx hb dL_law_847 ?_
  refine lv_seti (v := 3) (by decide) ?_
  refine va_sld hx hb hX hbl hbA hS (in_c rfl) dL_law_848 ?_
  refine lv_seti (v := xs 3) (congrArg xs (by decide)) ?_
  refine kWi (wr := [(qm, .inr (5, [.ref qms, .ref qmo, .ref qmz, .ref qmR, .ref qmv, .ref qmk, .ref qmb, .ref qmt, .int 0, .ref qmr, .int 0, .ref qmB, .int 0, .ref qmO, .ref qmK, .int 0, .int 0, .int 1, .null, .null, .int 0, .int 0, .int 0, .long 0, .int 0, .ref qm_three, .int 0, .int 0, .int 0, .null, .ref qm_unread, .ref qm_tryRow, .ref qm_bestRow, .ref qm_steps, .int 0])), (qmr, .inl (cy 0, 8, .inl (fun _ => 0)))]) (rV (As := [.int (xs 1), .int (xs 2), .int (xs 3)]) (rest := []) (b := qx) ⟨hx, hb, hml, hown, hts⟩ (p_X5_alter l G cy (H).size qx qt qk qp qs qa qr qtw qtn qtg qta qtr qtm qtt qts (xs 1) (xs 2) (xs 3)) L_L_87 (preWV (q := (RX5, TX5, 9)) hN hP hD [0, 1, 2] rfl (by decide) 0 4 rfl rfl) rfl ⟨Nat.le_of_ble_eq_true rfl, Nat.le_of_ble_eq_true rfl⟩ hl.1 (Nat.le_of_ble_eq_true rfl) dL_law_849 ⟨Nat.le_of_ble_eq_true rfl, Nat.le_of_ble_eq_true rfl⟩) hP hD hS hA [0, 1, 2] [3, 4] rfl rfl (by decide) (by decide) (fun r_1 u_3 H locs h_2 hP hD hS => ?_)
  obtain ⟨rfl, h_2⟩ := h_2
  have hP : va_P G CL [(qm, .inr (5, [.ref qms, .ref qmo, .ref qmz, .ref qmR, .ref qmv, .ref qmk, .ref qmb, .ref qmt, .int 0, .ref qmr, .int 0, .ref qmB, .int 0, .ref qmO, .ref qmK, .int 0, .int 0, .int 1, .null, .null, .int 0, .int 0, .int 0, .long 0, .int 0, .ref qm_three, .int 0, .int 0, .int 0, .null, .ref qm_unread, .ref qm_tryRow, .ref qm_bestRow, .ref qm_steps, .int 0])), (qmr, .inl (cy 0, 8, .inl (fun _ => 0)))] H := hP
  have hD : va_D A [(qm, .inr (5, [.ref qms, .ref qmo, .ref qmz, .ref qmR, .ref qmv, .ref qmk, .ref qmb, .ref qmt, .int 0, .ref qmr, .int 0, .ref qmB, .int 0, .ref qmO, .ref qmK, .int 0, .int 0, .int 1, .null, .null, .int 0, .int 0, .int 0, .long 0, .int 0, .ref qm_three, .int 0, .int 0, .int 0, .null, .ref qm_unread, .ref qm_tryRow, .ref qm_bestRow, .ref qm_steps, .int 0])), (qmr, .inl (cy 0, 8, .inl (fun _ => 0)))] := hD
  subst h_2
  refine lv_aload_n hx hb dL_law_852 rfl (lv_at hl 1 rfl) ?_
  refine lv_aload_n hx hb dL_law_853 rfl (lv_at hl 3 rfl) ?_
  refine lv_iload_n hx hb dL_law_854 rfl (lv_at hl 0 rfl) ?_
  refine lv_iconst (v := 1) hx hb dL_law_855 (by decide) ?_
  refine lv_iadd hx hb dL_law_856 ?_
  refine lv_seti (v := 1) (by decide) ?_
  refine va_sld hx hb hX hbl hbA hS (in_c rfl) dL_law_857 ?_
  refine lv_seti (v := xs 1) (congrArg xs (by decide)) ?_
  refine lv_aload_n hx hb dL_law_858 rfl (lv_at hl 3 rfl) ?_
  refine lv_iload_n hx hb dL_law_859 rfl (lv_at hl 0 rfl) ?_
  refine lv_iconst (v := 2) hx hb dL_law_860 (by decide) ?_
  refine lv_iadd hx hb dL_law_861 ?_
  refine lv_seti (v := 2) (by decide) ?_
  refine va_sld hx hb hX hbl hbA hS (in_c rfl) dL_law_862 ?_
  refine lv_seti (v := xs 2) (congrArg xs (by decide)) ?_
  refine lv_aload_n hx hb dL_law_863 rfl (lv_at hl 3 rfl) ?_
  refine lv_iload_n hx hb dL_law_864 rfl (lv_at hl 0 rfl) ?_
  refine lv_iconst (v := 3) hx hb dL_law_865 (by decide) ?_
  refine lv_iadd hx hb dL_law_866 ?_
  refine lv_seti (v := 3) (by decide) ?_
  refine va_sld hx hb hX hbl hbA hS (in_c rfl) dL_law_867 ?_
  refine lv_seti (v := xs 3) (congrArg xs (by decide)) ?_
  refine kWi (wr := []) (rV (As := [.int (xs 1), .int (xs 2), .int (xs 3)]) (rest := [.int (-2)]) (b := qm) ⟨hx, hb, hml, hown, hts⟩ (p_X6_alter l G cy (H).size qm qms qmo qmz qmR qmv qmk qmb qmt qmr qmB qmO qmK qm_three qm_unread qm_tryRow qm_bestRow qm_steps (xs 1) (xs 2) (xs 3)) L_L_90 (preWV (q := (RX6, TX6, 35)) hN hP hD [0, 1] rfl (by decide) 0 5 rfl rfl) rfl ⟨Nat.le_of_ble_eq_true rfl, Nat.le_of_ble_eq_true rfl⟩ hl.1 (Nat.le_of_ble_eq_true rfl) dL_law_868 ⟨Nat.le_of_ble_eq_true rfl, Nat.le_of_ble_eq_true rfl⟩) hP hD hS hA [0, 1] [] rfl rfl (by decide) (by decide) (fun r_4 u_6 H locs h_5 hP hD hS => ?_)
  obtain ⟨rfl, h_5⟩ := h_5
  have hP : va_P G CL [] H := hP
  have hD : va_D A [] := hD
  subst h_5
  refine lv_icmp_eq (tgt := 1808) hx hb dL_law_871 (by decide) (fun _ => ?_) (fun h9 => absurd (by decide) h9)
  exact law_tail hx hb hr hml hX hbl hlocks hAn hbA hS (lv_sub hl [0, 3] rfl) (Nat.le_of_ble_eq_true rfl) (Nat.le_of_ble_eq_true rfl)
set_option maxHeartbeats 4000000 in
set_option maxRecDepth 100000 in
theorem law_17 {p : Program} {l : Launch} {e : Env} {s : State} {m : MethodId} {below : List Frame} {meth : Method} {c : Code} {b : Nat} {xs : Nat → Int32} {A : Nat → Prop} {G : va_G} {cy : Nat → ClassId} {H : Heap} {locs : List Loc} {ls : Array Slot} (qx : Nat) (qt : Nat) (qk : Nat) (qp : Nat) (qs : Nat) (qa : Nat) (qr : Nat) (qtw : Nat) (qtn : Nat) (qtg : Nat) (qta : Nat) (qtr : Nat) (qtm : Nat) (qtt : Nat) (qts : Nat) (qm : Nat) (qms : Nat) (qmo : Nat) (qmz : Nat) (qmR : Nat) (qmv : Nat) (qmk : Nat) (qmb : Nat) (qmt : Nat) (qmr : Nat) (qmB : Nat) (qmO : Nat) (qmK : Nat) (qm_three : Nat) (qm_unread : Nat) (qm_tryRow : Nat) (qm_bestRow : Nat) (qm_steps : Nat) (hx : p.tables.exec = Jvm.exec) (hb : c.code = code) (hr : meth.sig.returnType = ret) (hml : c.maxLocals = 4) (hown : s.vm.findClass RL = some m.cls) (hts : ∀ w ∈ BIG, w.before #[Value.ref b] s = true) (hX : va_X b 6 xs s s.heap) (hbl : b < s.heap.size) (hlocks : meth.locks = false) (hN : KN G cy s) (hA : ∀ q : Nat, s.heap.size ≤ q → A q) (hAn : ∀ q : Nat, A q → s.heap.size ≤ q) (hbA : ¬ A b) (hP : va_P G CL [(qx, .inr (4, [.ref qt, .ref qk, .ref qp, .ref qs, .ref qa, .ref qr, .int 0, .int 0, .int 0])), (qr, .inl (cy 0, 5, .inl (fun _ => 0))), (qt, .inr (3, [.int 0, .int 0, .int 0, .int 0, .int 1, .ref qtw, .ref qtn, .ref qtg, .ref qta, .ref qtr, .ref qtm, .ref qtt, .ref qts])), (qm, .inr (5, [.ref qms, .ref qmo, .ref qmz, .ref qmR, .ref qmv, .ref qmk, .ref qmb, .ref qmt, .int 0, .ref qmr, .int 0, .ref qmB, .int 0, .ref qmO, .ref qmK, .int 0, .int 0, .int 1, .null, .null, .int 0, .int 0, .int 0, .long 0, .int 0, .ref qm_three, .int 0, .int 0, .int 0, .null, .ref qm_unread, .ref qm_tryRow, .ref qm_bestRow, .ref qm_steps, .int 0])), (qmr, .inl (cy 0, 8, .inl (fun _ => 0)))] H) (hD : va_D A [(qx, .inr (4, [.ref qt, .ref qk, .ref qp, .ref qs, .ref qa, .ref qr, .int 0, .int 0, .int 0])), (qr, .inl (cy 0, 5, .inl (fun _ => 0))), (qt, .inr (3, [.int 0, .int 0, .int 0, .int 0, .int 1, .ref qtw, .ref qtn, .ref qtg, .ref qta, .ref qtr, .ref qtm, .ref qtt, .ref qts])), (qm, .inr (5, [.ref qms, .ref qmo, .ref qmz, .ref qmR, .ref qmv, .ref qmk, .ref qmb, .ref qmt, .int 0, .ref qmr, .int 0, .ref qmB, .int 0, .ref qmO, .ref qmK, .int 0, .int 0, .int 1, .null, .null, .int 0, .int 0, .int 0, .long 0, .int 0, .ref qm_three, .int 0, .int 0, .int 0, .null, .ref qm_unread, .ref qm_tryRow, .ref qm_bestRow, .ref qm_steps, .int 0])), (qmr, .inl (cy 0, 8, .inl (fun _ => 0)))]) (hS : va_S A s.heap H locs) (hl : lv_has ls 4 [(3, .int 0), (2, .ref qm), (1, .ref qx), (0, .ref b)]) : W p l e room_1 s m #[Value.ref b] below meth c H locs 105 2176 (lw_Z below #[Value.ref b] s) (F0 m 876 ls []) := by
  have hK := hN.1
  refine lv_aload_n hx hb dL_law_876 rfl (lv_at hl 2 rfl) ?_
  refine lv_aload_n hx hb dL_law_877 rfl (lv_at hl 3 rfl) ?_
  refine lv_iload_n hx hb dL_law_878 rfl (lv_at hl 0 rfl) ?_
  refine lv_iconst (v := 1) hx hb dL_law_879 (by decide) ?_
  refine lv_iadd hx hb dL_law_880 ?_
  refine lv_seti (v := 1) (by decide) ?_
  refine va_sld hx hb hX hbl hbA hS (in_c rfl) dL_law_881 ?_
  refine lv_seti (v := xs 1) (congrArg xs (by decide)) ?_
  refine lv_aload_n hx hb dL_law_882 rfl (lv_at hl 3 rfl) ?_
  refine lv_iload_n hx hb dL_law_883 rfl (lv_at hl 0 rfl) ?_
  refine lv_iconst (v := 2) hx hb dL_law_884 (by decide) ?_
  refine lv_iadd hx hb dL_law_885 ?_
  refine lv_seti (v := 2) (by decide) ?_
  refine va_sld hx hb hX hbl hbA hS (in_c rfl) dL_law_886 ?_
  refine lv_seti (v := xs 2) (congrArg xs (by decide)) ?_
  refine kWi (wr := [(qm, .inr (5, [.ref qms, .ref qmo, .ref qmz, .ref qmR, .ref qmv, .ref qmk, .ref qmb, .ref qmt, .int 0, .ref qmr, .int 0, .ref qmB, .int 0, .ref qmO, .ref qmK, .int 0, .int 0, .int 1, .null, .null, .int 0, .int 0, .int 0, .long 0, .int 0, .ref qm_three, .int 0, .int 0, .int 0, .null, .ref qm_unread, .ref qm_tryRow, .ref qm_bestRow, .ref qm_steps, .int 0])), (qmr, .inl (cy 0, 8, .inl (fun _ => 0)))]) (rV (As := [.int (xs 1), .int (xs 2)]) (rest := []) (b := qx) ⟨hx, hb, hml, hown, hts⟩ (p_X5_ground l G cy (H).size qx qt qk qp qs qa qr qtw qtn qtg qta qtr qtm qtt qts (xs 1) (xs 2)) L_L_91 (preWV (q := (RX5, TX5, 9)) hN hP hD [0, 1, 2] rfl (by decide) 0 4 rfl rfl) rfl ⟨Nat.le_of_ble_eq_true rfl, Nat.le_of_ble_eq_true rfl⟩ hl.1 (Nat.le_of_ble_eq_true rfl) dL_law_887 ⟨Nat.le_of_ble_eq_true rfl, Nat.le_of_ble_eq_true rfl⟩) hP hD hS hA [0, 1, 2] [3, 4] rfl rfl (by decide) (by decide) (fun r_1 u_3 H locs h_2 hP hD hS => ?_)
  obtain ⟨rfl, h_2⟩ := h_2
  have hP : va_P G CL [(qm, .inr (5, [.ref qms, .ref qmo, .ref qmz, .ref qmR, .ref qmv, .ref qmk, .ref qmb, .ref qmt, .int 0, .ref qmr, .int 0, .ref qmB, .int 0, .ref qmO, .ref qmK, .int 0, .int 0, .int 1, .null, .null, .int 0, .int 0, .int 0, .long 0, .int 0, .ref qm_three, .int 0, .int 0, .int 0, .null, .ref qm_unread, .ref qm_tryRow, .ref qm_bestRow, .ref qm_steps, .int 0])), (qmr, .inl (cy 0, 8, .inl (fun _ => 0)))] H := hP
  have hD : va_D A [(qm, .inr (5, [.ref qms, .ref qmo, .ref qmz, .ref qmR, .ref qmv, .ref qmk, .ref qmb, .ref qmt, .int 0, .ref qmr, .int 0, .ref qmB, .int 0, .ref qmO, .ref qmK, .int 0, .int 0, .int 1, .null, .null, .int 0, .int 0, .int 0, .long 0, .int 0, .ref qm_three, .int 0, .int 0, .int 0, .null, .ref qm_unread, .ref qm_tryRow, .ref qm_bestRow, .ref qm_steps, .int 0])), (qmr, .inl (cy 0, 8, .inl (fun _ => 0)))] := hD
  subst h_2
  refine lv_aload_n hx hb dL_law_890 rfl (lv_at hl 1 rfl) ?_
  refine lv_aload_n hx hb dL_law_891 rfl (lv_at hl 3 rfl) ?_
  refine lv_iload_n hx hb dL_law_892 rfl (lv_at hl 0 rfl) ?_
  refine lv_iconst (v := 1) hx hb dL_law_893 (by decide) ?_
  refine lv_iadd hx hb dL_law_894 ?_
  refine lv_seti (v := 1) (by decide) ?_
  refine va_sld hx hb hX hbl hbA hS (in_c rfl) dL_law_895 ?_
  refine lv_seti (v := xs 1) (congrArg xs (by decide)) ?_
  refine lv_aload_n hx hb dL_law_896 rfl (lv_at hl 3 rfl) ?_
  refine lv_iload_n hx hb dL_law_897 rfl (lv_at hl 0 rfl) ?_
  refine lv_iconst (v := 2) hx hb dL_law_898 (by decide) ?_
  refine lv_iadd hx hb dL_law_899 ?_
  refine lv_seti (v := 2) (by decide) ?_
  refine va_sld hx hb hX hbl hbA hS (in_c rfl) dL_law_900 ?_
  refine lv_seti (v := xs 2) (congrArg xs (by decide)) ?_
  refine kWi (wr := []) (rV (As := [.int (xs 1), .int (xs 2)]) (rest := [.int (-2)]) (b := qm) ⟨hx, hb, hml, hown, hts⟩ (p_X6_ground l G cy (H).size qm qms qmo qmz qmR qmv qmk qmb qmt qmr qmB qmO qmK qm_three qm_unread qm_tryRow qm_bestRow qm_steps (xs 1) (xs 2)) L_L_94 (preWV (q := (RX6, TX6, 35)) hN hP hD [0, 1] rfl (by decide) 0 5 rfl rfl) rfl ⟨Nat.le_of_ble_eq_true rfl, Nat.le_of_ble_eq_true rfl⟩ hl.1 (Nat.le_of_ble_eq_true rfl) dL_law_901 ⟨Nat.le_of_ble_eq_true rfl, Nat.le_of_ble_eq_true rfl⟩) hP hD hS hA [0, 1] [] rfl rfl (by decide) (by decide) (fun r_4 u_6 H locs h_5 hP hD hS => ?_)
  obtain ⟨rfl, h_5⟩ := h_5
  have hP : va_P G CL [] H := hP
  have hD : va_D A [] := hD
  subst h_5
  refine lv_icmp_eq (tgt := 1808) hx hb dL_law_904 (by decide) (fun _ => ?_) (fun h9 => absurd (by decide) h9)
  exact law_tail hx hb hr hml hX hbl hlocks hAn hbA hS (lv_sub hl [0, 3] rfl) (Nat.le_of_ble_eq_true rfl) (Nat.le_of_ble_eq_true rfl)
set_option maxHeartbeats 4000000 in
set_option maxRecDepth 100000 in
theorem law_18 {p : Program} {l : Launch} {e : Env} {s : State} {m : MethodId} {below : List Frame} {meth : Method} {c : Code} {b : Nat} {xs : Nat → Int32} {A : Nat → Prop} {G : va_G} {cy : Nat → ClassId} {H : Heap} {locs : List Loc} {ls : Array Slot} (qx : Nat) (qt : Nat) (qk : Nat) (qp : Nat) (qs : Nat) (qa : Nat) (qr : Nat) (qtw : Nat) (qtn : Nat) (qtg : Nat) (qta : Nat) (qtr : Nat) (qtm : Nat) (qtt : Nat) (qts : Nat) (qm : Nat) (qms : Nat) (qmo : Nat) (qmz : Nat) (qmR : Nat) (qmv : Nat) (qmk : Nat) (qmb : Nat) (qmt : Nat) (qmr : Nat) (qmB : Nat) (qmO : Nat) (qmK : Nat) (qm_three : Nat) (qm_unread : Nat) (qm_tryRow : Nat) (qm_bestRow : Nat) (qm_steps : Nat) (hx : p.tables.exec = Jvm.exec) (hb : c.code = code) (hr : meth.sig.returnType = ret) (hml : c.maxLocals = 4) (hown : s.vm.findClass RL = some m.cls) (hts : ∀ w ∈ BIG, w.before #[Value.ref b] s = true) (hX : va_X b 6 xs s s.heap) (hbl : b < s.heap.size) (hlocks : meth.locks = false) (hN : KN G cy s) (hA : ∀ q : Nat, s.heap.size ≤ q → A q) (hAn : ∀ q : Nat, A q → s.heap.size ≤ q) (hbA : ¬ A b) (hP : va_P G CL [(qx, .inr (4, [.ref qt, .ref qk, .ref qp, .ref qs, .ref qa, .ref qr, .int 0, .int 0, .int 0])), (qr, .inl (cy 0, 5, .inl (fun _ => 0))), (qt, .inr (3, [.int 0, .int 0, .int 0, .int 0, .int 1, .ref qtw, .ref qtn, .ref qtg, .ref qta, .ref qtr, .ref qtm, .ref qtt, .ref qts])), (qm, .inr (5, [.ref qms, .ref qmo, .ref qmz, .ref qmR, .ref qmv, .ref qmk, .ref qmb, .ref qmt, .int 0, .ref qmr, .int 0, .ref qmB, .int 0, .ref qmO, .ref qmK, .int 0, .int 0, .int 1, .null, .null, .int 0, .int 0, .int 0, .long 0, .int 0, .ref qm_three, .int 0, .int 0, .int 0, .null, .ref qm_unread, .ref qm_tryRow, .ref qm_bestRow, .ref qm_steps, .int 0])), (qmr, .inl (cy 0, 8, .inl (fun _ => 0)))] H) (hD : va_D A [(qx, .inr (4, [.ref qt, .ref qk, .ref qp, .ref qs, .ref qa, .ref qr, .int 0, .int 0, .int 0])), (qr, .inl (cy 0, 5, .inl (fun _ => 0))), (qt, .inr (3, [.int 0, .int 0, .int 0, .int 0, .int 1, .ref qtw, .ref qtn, .ref qtg, .ref qta, .ref qtr, .ref qtm, .ref qtt, .ref qts])), (qm, .inr (5, [.ref qms, .ref qmo, .ref qmz, .ref qmR, .ref qmv, .ref qmk, .ref qmb, .ref qmt, .int 0, .ref qmr, .int 0, .ref qmB, .int 0, .ref qmO, .ref qmK, .int 0, .int 0, .int 1, .null, .null, .int 0, .int 0, .int 0, .long 0, .int 0, .ref qm_three, .int 0, .int 0, .int 0, .null, .ref qm_unread, .ref qm_tryRow, .ref qm_bestRow, .ref qm_steps, .int 0])), (qmr, .inl (cy 0, 8, .inl (fun _ => 0)))]) (hS : va_S A s.heap H locs) (hl : lv_has ls 4 [(3, .int 0), (2, .ref qm), (1, .ref qx), (0, .ref b)]) : W p l e room_1 s m #[Value.ref b] below meth c H locs 105 2176 (lw_Z below #[Value.ref b] s) (F0 m 909 ls []) := by
  have hK := hN.1
  refine lv_aload_n hx hb dL_law_909 rfl (lv_at hl 2 rfl) ?_
  refine lv_aload_n hx hb dL_law_910 rfl (lv_at hl 3 rfl) ?_
  refine lv_iload_n hx hb dL_law_911 rfl (lv_at hl 0 rfl) ?_
  refine lv_iconst (v := 1) hx hb dL_law_912 (by decide) ?_
  refine lv_iadd hx hb dL_law_913 ?_
  refine lv_seti (v := 1) (by decide) ?_
  refine va_sld hx hb hX hbl hbA hS (in_c rfl) dL_law_914 ?_
  refine lv_seti (v := xs 1) (congrArg xs (by decide)) ?_
  refine lv_aload_n hx hb dL_law_915 rfl (lv_at hl 3 rfl) ?_
  refine lv_iload_n hx hb dL_law_916 rfl (lv_at hl 0 rfl) ?_
  refine lv_iconst (v := 2) hx hb dL_law_917 (by decide) ?_
  refine lv_iadd hx hb dL_law_918 ?_
  refine lv_seti (v := 2) (by decide) ?_
  refine va_sld hx hb hX hbl hbA hS (in_c rfl) dL_law_919 ?_
  refine lv_seti (v := xs 2) (congrArg xs (by decide)) ?_
  refine kWi (wr := [(qm, .inr (5, [.ref qms, .ref qmo, .ref qmz, .ref qmR, .ref qmv, .ref qmk, .ref qmb, .ref qmt, .int 0, .ref qmr, .int 0, .ref qmB, .int 0, .ref qmO, .ref qmK, .int 0, .int 0, .int 1, .null, .null, .int 0, .int 0, .int 0, .long 0, .int 0, .ref qm_three, .int 0, .int 0, .int 0, .null, .ref qm_unread, .ref qm_tryRow, .ref qm_bestRow, .ref qm_steps, .int 0])), (qmr, .inl (cy 0, 8, .inl (fun _ => 0)))]) (rV (As := [.int (xs 1), .int (xs 2)]) (rest := []) (b := qx) ⟨hx, hb, hml, hown, hts⟩ (p_X5_would l G cy (H).size qx qt qk qp qs qa qr qtw qtn qtg qta qtr qtm qtt qts (xs 1) (xs 2)) L_L_95 (preWV (q := (RX5, TX5, 9)) hN hP hD [0, 1, 2] rfl (by decide) 0 4 rfl rfl) rfl ⟨Nat.le_of_ble_eq_true rfl, Nat.le_of_ble_eq_true rfl⟩ hl.1 (Nat.le_of_ble_eq_true rfl) dL_law_920 ⟨Nat.le_of_ble_eq_true rfl, Nat.le_of_ble_eq_true rfl⟩) hP hD hS hA [0, 1, 2] [3, 4] rfl rfl (by decide) (by decide) (fun r_1 u_3 H locs h_2 hP hD hS => ?_)
  obtain ⟨rfl, h_2⟩ := h_2
  have hP : va_P G CL [(qm, .inr (5, [.ref qms, .ref qmo, .ref qmz, .ref qmR, .ref qmv, .ref qmk, .ref qmb, .ref qmt, .int 0, .ref qmr, .int 0, .ref qmB, .int 0, .ref qmO, .ref qmK, .int 0, .int 0, .int 1, .null, .null, .int 0, .int 0, .int 0, .long 0, .int 0, .ref qm_three, .int 0, .int 0, .int 0, .null, .ref qm_unread, .ref qm_tryRow, .ref qm_bestRow, .ref qm_steps, .int 0])), (qmr, .inl (cy 0, 8, .inl (fun _ => 0)))] H := hP
  have hD : va_D A [(qm, .inr (5, [.ref qms, .ref qmo, .ref qmz, .ref qmR, .ref qmv, .ref qmk, .ref qmb, .ref qmt, .int 0, .ref qmr, .int 0, .ref qmB, .int 0, .ref qmO, .ref qmK, .int 0, .int 0, .int 1, .null, .null, .int 0, .int 0, .int 0, .long 0, .int 0, .ref qm_three, .int 0, .int 0, .int 0, .null, .ref qm_unread, .ref qm_tryRow, .ref qm_bestRow, .ref qm_steps, .int 0])), (qmr, .inl (cy 0, 8, .inl (fun _ => 0)))] := hD
  subst h_2
  refine lv_aload_n hx hb dL_law_923 rfl (lv_at hl 1 rfl) ?_
  refine lv_aload_n hx hb dL_law_924 rfl (lv_at hl 3 rfl) ?_
  refine lv_iload_n hx hb dL_law_925 rfl (lv_at hl 0 rfl) ?_
  refine lv_iconst (v := 1) hx hb dL_law_926 (by decide) ?_
  refine lv_iadd hx hb dL_law_927 ?_
  refine lv_seti (v := 1) (by decide) ?_
  refine va_sld hx hb hX hbl hbA hS (in_c rfl) dL_law_928 ?_
  refine lv_seti (v := xs 1) (congrArg xs (by decide)) ?_
  refine lv_aload_n hx hb dL_law_929 rfl (lv_at hl 3 rfl) ?_
  refine lv_iload_n hx hb dL_law_930 rfl (lv_at hl 0 rfl) ?_
  refine lv_iconst (v := 2) hx hb dL_law_931 (by decide) ?_
  refine lv_iadd hx hb dL_law_932 ?_
  refine lv_seti (v := 2) (by decide) ?_
  refine va_sld hx hb hX hbl hbA hS (in_c rfl) dL_law_933 ?_
  refine lv_seti (v := xs 2) (congrArg xs (by decide)) ?_
  refine kWi (wr := []) (rV (As := [.int (xs 1), .int (xs 2)]) (rest := [.int (-2)]) (b := qm) ⟨hx, hb, hml, hown, hts⟩ (p_X6_would l G cy (H).size qm qms qmo qmz qmR qmv qmk qmb qmt qmr qmB qmO qmK qm_three qm_unread qm_tryRow qm_bestRow qm_steps (xs 1) (xs 2)) L_L_98 (preWV (q := (RX6, TX6, 35)) hN hP hD [0, 1] rfl (by decide) 0 5 rfl rfl) rfl ⟨Nat.le_of_ble_eq_true rfl, Nat.le_of_ble_eq_true rfl⟩ hl.1 (Nat.le_of_ble_eq_true rfl) dL_law_934 ⟨Nat.le_of_ble_eq_true rfl, Nat.le_of_ble_eq_true rfl⟩) hP hD hS hA [0, 1] [] rfl rfl (by decide) (by decide) (fun r_4 u_6 H locs h_5 hP hD hS => ?_)
  obtain ⟨rfl, h_5⟩ := h_5
  have hP : va_P G CL [] H := hP
  have hD : va_D A [] := hD
  subst h_5
  refine lv_icmp_eq (tgt := 1808) hx hb dL_law_937 (by decide) (fun _ => ?_) (fun h9 => absurd (by decide) h9)
  exact law_tail hx hb hr hml hX hbl hlocks hAn hbA hS (lv_sub hl [0, 3] rfl) (Nat.le_of_ble_eq_true rfl) (Nat.le_of_ble_eq_true rfl)
set_option maxHeartbeats 4000000 in
set_option maxRecDepth 100000 in
theorem law_19 {p : Program} {l : Launch} {e : Env} {s : State} {m : MethodId} {below : List Frame} {meth : Method} {c : Code} {b : Nat} {xs : Nat → Int32} {A : Nat → Prop} {G : va_G} {cy : Nat → ClassId} {H : Heap} {locs : List Loc} {ls : Array Slot} (qx : Nat) (qt : Nat) (qk : Nat) (qp : Nat) (qs : Nat) (qa : Nat) (qr : Nat) (qtw : Nat) (qtn : Nat) (qtg : Nat) (qta : Nat) (qtr : Nat) (qtm : Nat) (qtt : Nat) (qts : Nat) (qm : Nat) (qms : Nat) (qmo : Nat) (qmz : Nat) (qmR : Nat) (qmv : Nat) (qmk : Nat) (qmb : Nat) (qmt : Nat) (qmr : Nat) (qmB : Nat) (qmO : Nat) (qmK : Nat) (qm_three : Nat) (qm_unread : Nat) (qm_tryRow : Nat) (qm_bestRow : Nat) (qm_steps : Nat) (hx : p.tables.exec = Jvm.exec) (hb : c.code = code) (hr : meth.sig.returnType = ret) (hml : c.maxLocals = 4) (hown : s.vm.findClass RL = some m.cls) (hts : ∀ w ∈ BIG, w.before #[Value.ref b] s = true) (hX : va_X b 6 xs s s.heap) (hbl : b < s.heap.size) (hlocks : meth.locks = false) (hN : KN G cy s) (hA : ∀ q : Nat, s.heap.size ≤ q → A q) (hAn : ∀ q : Nat, A q → s.heap.size ≤ q) (hbA : ¬ A b) (hP : va_P G CL [(qx, .inr (4, [.ref qt, .ref qk, .ref qp, .ref qs, .ref qa, .ref qr, .int 0, .int 0, .int 0])), (qr, .inl (cy 0, 5, .inl (fun _ => 0))), (qt, .inr (3, [.int 0, .int 0, .int 0, .int 0, .int 1, .ref qtw, .ref qtn, .ref qtg, .ref qta, .ref qtr, .ref qtm, .ref qtt, .ref qts])), (qm, .inr (5, [.ref qms, .ref qmo, .ref qmz, .ref qmR, .ref qmv, .ref qmk, .ref qmb, .ref qmt, .int 0, .ref qmr, .int 0, .ref qmB, .int 0, .ref qmO, .ref qmK, .int 0, .int 0, .int 1, .null, .null, .int 0, .int 0, .int 0, .long 0, .int 0, .ref qm_three, .int 0, .int 0, .int 0, .null, .ref qm_unread, .ref qm_tryRow, .ref qm_bestRow, .ref qm_steps, .int 0])), (qmr, .inl (cy 0, 8, .inl (fun _ => 0)))] H) (hD : va_D A [(qx, .inr (4, [.ref qt, .ref qk, .ref qp, .ref qs, .ref qa, .ref qr, .int 0, .int 0, .int 0])), (qr, .inl (cy 0, 5, .inl (fun _ => 0))), (qt, .inr (3, [.int 0, .int 0, .int 0, .int 0, .int 1, .ref qtw, .ref qtn, .ref qtg, .ref qta, .ref qtr, .ref qtm, .ref qtt, .ref qts])), (qm, .inr (5, [.ref qms, .ref qmo, .ref qmz, .ref qmR, .ref qmv, .ref qmk, .ref qmb, .ref qmt, .int 0, .ref qmr, .int 0, .ref qmB, .int 0, .ref qmO, .ref qmK, .int 0, .int 0, .int 1, .null, .null, .int 0, .int 0, .int 0, .long 0, .int 0, .ref qm_three, .int 0, .int 0, .int 0, .null, .ref qm_unread, .ref qm_tryRow, .ref qm_bestRow, .ref qm_steps, .int 0])), (qmr, .inl (cy 0, 8, .inl (fun _ => 0)))]) (hS : va_S A s.heap H locs) (hl : lv_has ls 4 [(3, .int 0), (2, .ref qm), (1, .ref qx), (0, .ref b)]) : W p l e room_1 s m #[Value.ref b] below meth c H locs 105 2176 (lw_Z below #[Value.ref b] s) (F0 m 942 ls []) := by
  have hK := hN.1
  refine lv_aload_n hx hb dL_law_942 rfl (lv_at hl 2 rfl) ?_
  refine lv_aload_n hx hb dL_law_943 rfl (lv_at hl 3 rfl) ?_
  refine lv_iload_n hx hb dL_law_944 rfl (lv_at hl 0 rfl) ?_
  refine lv_iconst (v := 1) hx hb dL_law_945 (by decide) ?_
  refine lv_iadd hx hb dL_law_946 ?_
  refine lv_seti (v := 1) (by decide) ?_
  refine va_sld hx hb hX hbl hbA hS (in_c rfl) dL_law_947 ?_
  refine lv_seti (v := xs 1) (congrArg xs (by decide)) ?_
  refine lv_aload_n hx hb dL_law_948 rfl (lv_at hl 3 rfl) ?_
  refine lv_iload_n hx hb dL_law_949 rfl (lv_at hl 0 rfl) ?_
  refine lv_iconst (v := 2) hx hb dL_law_950 (by decide) ?_
  refine lv_iadd hx hb dL_law_951 ?_
  refine lv_seti (v := 2) (by decide) ?_
  refine va_sld hx hb hX hbl hbA hS (in_c rfl) dL_law_952 ?_
  refine lv_seti (v := xs 2) (congrArg xs (by decide)) ?_
  refine kWi (wr := [(qm, .inr (5, [.ref qms, .ref qmo, .ref qmz, .ref qmR, .ref qmv, .ref qmk, .ref qmb, .ref qmt, .int 0, .ref qmr, .int 0, .ref qmB, .int 0, .ref qmO, .ref qmK, .int 0, .int 0, .int 1, .null, .null, .int 0, .int 0, .int 0, .long 0, .int 0, .ref qm_three, .int 0, .int 0, .int 0, .null, .ref qm_unread, .ref qm_tryRow, .ref qm_bestRow, .ref qm_steps, .int 0])), (qmr, .inl (cy 0, 8, .inl (fun _ => 0)))]) (rV (As := [.int (xs 1), .int (xs 2)]) (rest := []) (b := qx) ⟨hx, hb, hml, hown, hts⟩ (p_X5_read l G cy (H).size qx qt qk qp qs qa qr qtw qtn qtg qta qtr qtm qtt qts (xs 1) (xs 2)) L_L_99 (preWV (q := (RX5, TX5, 9)) hN hP hD [0, 1, 2] rfl (by decide) 0 4 rfl rfl) rfl ⟨Nat.le_of_ble_eq_true rfl, Nat.le_of_ble_eq_true rfl⟩ hl.1 (Nat.le_of_ble_eq_true rfl) dL_law_953 ⟨Nat.le_of_ble_eq_true rfl, Nat.le_of_ble_eq_true rfl⟩) hP hD hS hA [0, 1, 2] [3, 4] rfl rfl (by decide) (by decide) (fun r_1 u_3 H locs h_2 hP hD hS => ?_)
  obtain ⟨rfl, h_2⟩ := h_2
  have hP : va_P G CL [(qm, .inr (5, [.ref qms, .ref qmo, .ref qmz, .ref qmR, .ref qmv, .ref qmk, .ref qmb, .ref qmt, .int 0, .ref qmr, .int 0, .ref qmB, .int 0, .ref qmO, .ref qmK, .int 0, .int 0, .int 1, .null, .null, .int 0, .int 0, .int 0, .long 0, .int 0, .ref qm_three, .int 0, .int 0, .int 0, .null, .ref qm_unread, .ref qm_tryRow, .ref qm_bestRow, .ref qm_steps, .int 0])), (qmr, .inl (cy 0, 8, .inl (fun _ => 0)))] H := hP
  have hD : va_D A [(qm, .inr (5, [.ref qms, .ref qmo, .ref qmz, .ref qmR, .ref qmv, .ref qmk, .ref qmb, .ref qmt, .int 0, .ref qmr, .int 0, .ref qmB, .int 0, .ref qmO, .ref qmK, .int 0, .int 0, .int 1, .null, .null, .int 0, .int 0, .int 0, .long 0, .int 0, .ref qm_three, .int 0, .int 0, .int 0, .null, .ref qm_unread, .ref qm_tryRow, .ref qm_bestRow, .ref qm_steps, .int 0])), (qmr, .inl (cy 0, 8, .inl (fun _ => 0)))] := hD
  subst h_2
  refine lv_aload_n hx hb dL_law_956 rfl (lv_at hl 1 rfl) ?_
  refine lv_aload_n hx hb dL_law_957 rfl (lv_at hl 3 rfl) ?_
  refine lv_iload_n hx hb dL_law_958 rfl (lv_at hl 0 rfl) ?_
  refine lv_iconst (v := 1) hx hb dL_law_959 (by decide) ?_
  refine lv_iadd hx hb dL_law_960 ?_
  refine lv_seti (v := 1) (by decide) ?_
  refine va_sld hx hb hX hbl hbA hS (in_c rfl) dL_law_961 ?_
  refine lv_seti (v := xs 1) (congrArg xs (by decide)) ?_
  refine lv_aload_n hx hb dL_law_962 rfl (lv_at hl 3 rfl) ?_
  refine lv_iload_n hx hb dL_law_963 rfl (lv_at hl 0 rfl) ?_
  refine lv_iconst (v := 2) hx hb dL_law_964 (by decide) ?_
  refine lv_iadd hx hb dL_law_965 ?_
  refine lv_seti (v := 2) (by decide) ?_
  refine va_sld hx hb hX hbl hbA hS (in_c rfl) dL_law_966 ?_
  refine lv_seti (v := xs 2) (congrArg xs (by decide)) ?_
  refine kWi (wr := []) (rV (As := [.int (xs 1), .int (xs 2)]) (rest := [.int (-2)]) (b := qm) ⟨hx, hb, hml, hown, hts⟩ (p_X6_read l G cy (H).size qm qms qmo qmz qmR qmv qmk qmb qmt qmr qmB qmO qmK qm_three qm_unread qm_tryRow qm_bestRow qm_steps (xs 1) (xs 2)) L_L_102 (preWV (q := (RX6, TX6, 35)) hN hP hD [0, 1] rfl (by decide) 0 5 rfl rfl) rfl ⟨Nat.le_of_ble_eq_true rfl, Nat.le_of_ble_eq_true rfl⟩ hl.1 (Nat.le_of_ble_eq_true rfl) dL_law_967 ⟨Nat.le_of_ble_eq_true rfl, Nat.le_of_ble_eq_true rfl⟩) hP hD hS hA [0, 1] [] rfl rfl (by decide) (by decide) (fun r_4 u_6 H locs h_5 hP hD hS => ?_)
  obtain ⟨rfl, h_5⟩ := h_5
  have hP : va_P G CL [] H := hP
  have hD : va_D A [] := hD
  subst h_5
  refine lv_icmp_eq (tgt := 1808) hx hb dL_law_970 (by decide) (fun _ => ?_) (fun h9 => absurd (by decide) h9)
  exact law_tail hx hb hr hml hX hbl hlocks hAn hbA hS (lv_sub hl [0, 3] rfl) (Nat.le_of_ble_eq_true rfl) (Nat.le_of_ble_eq_true rfl)
set_option maxHeartbeats 4000000 in
set_option maxRecDepth 100000 in
theorem law_20 {p : Program} {l : Launch} {e : Env} {s : State} {m : MethodId} {below : List Frame} {meth : Method} {c : Code} {b : Nat} {xs : Nat → Int32} {A : Nat → Prop} {G : va_G} {cy : Nat → ClassId} {H : Heap} {locs : List Loc} {ls : Array Slot} (qx : Nat) (qt : Nat) (qk : Nat) (qp : Nat) (qs : Nat) (qa : Nat) (qr : Nat) (qtw : Nat) (qtn : Nat) (qtg : Nat) (qta : Nat) (qtr : Nat) (qtm : Nat) (qtt : Nat) (qts : Nat) (qm : Nat) (qms : Nat) (qmo : Nat) (qmz : Nat) (qmR : Nat) (qmv : Nat) (qmk : Nat) (qmb : Nat) (qmt : Nat) (qmr : Nat) (qmB : Nat) (qmO : Nat) (qmK : Nat) (qm_three : Nat) (qm_unread : Nat) (qm_tryRow : Nat) (qm_bestRow : Nat) (qm_steps : Nat) (hx : p.tables.exec = Jvm.exec) (hb : c.code = code) (hr : meth.sig.returnType = ret) (hml : c.maxLocals = 4) (hown : s.vm.findClass RL = some m.cls) (hts : ∀ w ∈ BIG, w.before #[Value.ref b] s = true) (hX : va_X b 6 xs s s.heap) (hbl : b < s.heap.size) (hlocks : meth.locks = false) (hN : KN G cy s) (hA : ∀ q : Nat, s.heap.size ≤ q → A q) (hAn : ∀ q : Nat, A q → s.heap.size ≤ q) (hbA : ¬ A b) (hP : va_P G CL [(qx, .inr (4, [.ref qt, .ref qk, .ref qp, .ref qs, .ref qa, .ref qr, .int 0, .int 0, .int 0])), (qr, .inl (cy 0, 5, .inl (fun _ => 0))), (qt, .inr (3, [.int 0, .int 0, .int 0, .int 0, .int 1, .ref qtw, .ref qtn, .ref qtg, .ref qta, .ref qtr, .ref qtm, .ref qtt, .ref qts])), (qm, .inr (5, [.ref qms, .ref qmo, .ref qmz, .ref qmR, .ref qmv, .ref qmk, .ref qmb, .ref qmt, .int 0, .ref qmr, .int 0, .ref qmB, .int 0, .ref qmO, .ref qmK, .int 0, .int 0, .int 1, .null, .null, .int 0, .int 0, .int 0, .long 0, .int 0, .ref qm_three, .int 0, .int 0, .int 0, .null, .ref qm_unread, .ref qm_tryRow, .ref qm_bestRow, .ref qm_steps, .int 0])), (qmr, .inl (cy 0, 8, .inl (fun _ => 0)))] H) (hD : va_D A [(qx, .inr (4, [.ref qt, .ref qk, .ref qp, .ref qs, .ref qa, .ref qr, .int 0, .int 0, .int 0])), (qr, .inl (cy 0, 5, .inl (fun _ => 0))), (qt, .inr (3, [.int 0, .int 0, .int 0, .int 0, .int 1, .ref qtw, .ref qtn, .ref qtg, .ref qta, .ref qtr, .ref qtm, .ref qtt, .ref qts])), (qm, .inr (5, [.ref qms, .ref qmo, .ref qmz, .ref qmR, .ref qmv, .ref qmk, .ref qmb, .ref qmt, .int 0, .ref qmr, .int 0, .ref qmB, .int 0, .ref qmO, .ref qmK, .int 0, .int 0, .int 1, .null, .null, .int 0, .int 0, .int 0, .long 0, .int 0, .ref qm_three, .int 0, .int 0, .int 0, .null, .ref qm_unread, .ref qm_tryRow, .ref qm_bestRow, .ref qm_steps, .int 0])), (qmr, .inl (cy 0, 8, .inl (fun _ => 0)))]) (hS : va_S A s.heap H locs) (hl : lv_has ls 4 [(3, .int 0), (2, .ref qm), (1, .ref qx), (0, .ref b)]) : W p l e room_1 s m #[Value.ref b] below meth c H locs 105 2176 (lw_Z below #[Value.ref b] s) (F0 m 975 ls []) := by
  have hK := hN.1
  refine lv_aload_n hx hb dL_law_975 rfl (lv_at hl 2 rfl) ?_
  refine lv_aload_n hx hb dL_law_976 rfl (lv_at hl 3 rfl) ?_
  refine lv_iload_n hx hb dL_law_977 rfl (lv_at hl 0 rfl) ?_
  refine lv_iconst (v := 1) hx hb dL_law_978 (by decide) ?_
  refine lv_iadd hx hb dL_law_979 ?_
  refine lv_seti (v := 1) (by decide) ?_
  refine va_sld hx hb hX hbl hbA hS (in_c rfl) dL_law_980 ?_
  refine lv_seti (v := xs 1) (congrArg xs (by decide)) ?_
  refine lv_aload_n hx hb dL_law_981 rfl (lv_at hl 3 rfl) ?_
  refine lv_iload_n hx hb dL_law_982 rfl (lv_at hl 0 rfl) ?_
  refine lv_iconst (v := 2) hx hb dL_law_983 (by decide) ?_
  refine lv_iadd hx hb dL_law_984 ?_
  refine lv_seti (v := 2) (by decide) ?_
  refine va_sld hx hb hX hbl hbA hS (in_c rfl) dL_law_985 ?_
  refine lv_seti (v := xs 2) (congrArg xs (by decide)) ?_
  refine lv_aload_n hx hb dL_law_986 rfl (lv_at hl 3 rfl) ?_
  refine lv_iload_n hx hb dL_law_987 rfl (lv_at hl 0 rfl) ?_
  refine lv_iconst (v := 3) hx hb dL_law_988 (by decide) ?_
  refine lv_iadd hx hb dL_law_989 ?_
  refine lv_seti (v := 3) (by decide) ?_
  refine va_sld hx hb hX hbl hbA hS (in_c rfl) dL_law_990 ?_
  refine lv_seti (v := xs 3) (congrArg xs (by decide)) ?_
  refine kWi (wr := [(qm, .inr (5, [.ref qms, .ref qmo, .ref qmz, .ref qmR, .ref qmv, .ref qmk, .ref qmb, .ref qmt, .int 0, .ref qmr, .int 0, .ref qmB, .int 0, .ref qmO, .ref qmK, .int 0, .int 0, .int 1, .null, .null, .int 0, .int 0, .int 0, .long 0, .int 0, .ref qm_three, .int 0, .int 0, .int 0, .null, .ref qm_unread, .ref qm_tryRow, .ref qm_bestRow, .ref qm_steps, .int 0])), (qmr, .inl (cy 0, 8, .inl (fun _ => 0)))]) (rV (As := [.int (xs 1), .int (xs 2), .int (xs 3)]) (rest := []) (b := qx) ⟨hx, hb, hml, hown, hts⟩ (p_X5_aloud l G cy (H).size qx qt qk qp qs qa qr qtw qtn qtg qta qtr qtm qtt qts (xs 1) (xs 2) (xs 3)) L_L_103 (preWV (q := (RX5, TX5, 9)) hN hP hD [0, 1, 2] rfl (by decide) 0 4 rfl rfl) rfl ⟨Nat.le_of_ble_eq_true rfl, Nat.le_of_ble_eq_true rfl⟩ hl.1 (Nat.le_of_ble_eq_true rfl) dL_law_991 ⟨Nat.le_of_ble_eq_true rfl, Nat.le_of_ble_eq_true rfl⟩) hP hD hS hA [0, 1, 2] [3, 4] rfl rfl (by decide) (by decide) (fun r_1 u_3 H locs h_2 hP hD hS => ?_)
  obtain ⟨rfl, h_2⟩ := h_2
  have hP : va_P G CL [(qm, .inr (5, [.ref qms, .ref qmo, .ref qmz, .ref qmR, .ref qmv, .ref qmk, .ref qmb, .ref qmt, .int 0, .ref qmr, .int 0, .ref qmB, .int 0, .ref qmO, .ref qmK, .int 0, .int 0, .int 1, .null, .null, .int 0, .int 0, .int 0, .long 0, .int 0, .ref qm_three, .int 0, .int 0, .int 0, .null, .ref qm_unread, .ref qm_tryRow, .ref qm_bestRow, .ref qm_steps, .int 0])), (qmr, .inl (cy 0, 8, .inl (fun _ => 0)))] H := hP
  have hD : va_D A [(qm, .inr (5, [.ref qms, .ref qmo, .ref qmz, .ref qmR, .ref qmv, .ref qmk, .ref qmb, .ref qmt, .int 0, .ref qmr, .int 0, .ref qmB, .int 0, .ref qmO, .ref qmK, .int 0, .int 0, .int 1, .null, .null, .int 0, .int 0, .int 0, .long 0, .int 0, .ref qm_three, .int 0, .int 0, .int 0, .null, .ref qm_unread, .ref qm_tryRow, .ref qm_bestRow, .ref qm_steps, .int 0])), (qmr, .inl (cy 0, 8, .inl (fun _ => 0)))] := hD
  subst h_2
  refine lv_aload_n hx hb dL_law_994 rfl (lv_at hl 1 rfl) ?_
  refine lv_aload_n hx hb dL_law_995 rfl (lv_at hl 3 rfl) ?_
  refine lv_iload_n hx hb dL_law_996 rfl (lv_at hl 0 rfl) ?_
  refine lv_iconst (v := 1) hx hb dL_law_997 (by decide) ?_
  refine lv_iadd hx hb dL_law_998 ?_
  refine lv_seti (v := 1) (by decide) ?_
  refine va_sld hx hb hX hbl hbA hS (in_c rfl) dL_law_999 ?_
  refine lv_seti (v := xs 1) (congrArg xs (by decide)) ?_
  refine lv_aload_n hx hb dL_law_1000 rfl (lv_at hl 3 rfl) ?_
  refine lv_iload_n hx hb dL_law_1001 rfl (lv_at hl 0 rfl) ?_
  refine lv_iconst (v := 2) hx hb dL_law_1002 (by decide) ?_
  refine lv_iadd hx hb dL_law_1003 ?_
  refine lv_seti (v := 2) (by decide) ?_
  refine va_sld hx hb hX hbl hbA hS (in_c rfl) dL_law_1004 ?_
  refine lv_seti (v := xs 2) (congrArg xs (by decide)) ?_
  refine lv_aload_n hx hb dL_law_1005 rfl (lv_at hl 3 rfl) ?_
  refine lv_iload_n hx hb dL_law_1006 rfl (lv_at hl 0 rfl) ?_
  refine lv_iconst (v := 3) hx hb dL_law_1007 (by decide) ?_
  refine lv_iadd hx hb dL_law_1008 ?_
  refine lv_seti (v := 3) (by decide) ?_
  refine va_sld hx hb hX hbl hbA hS (in_c rfl) dL_law_1009 ?_
  refine lv_seti (v := xs 3) (congrArg xs (by decide)) ?_
  refine kWi (wr := []) (rV (As := [.int (xs 1), .int (xs 2), .int (xs 3)]) (rest := [.int (-2)]) (b := qm) ⟨hx, hb, hml, hown, hts⟩ (p_X6_aloud l G cy (H).size qm qms qmo qmz qmR qmv qmk qmb qmt qmr qmB qmO qmK qm_three qm_unread qm_tryRow qm_bestRow qm_steps (xs 1) (xs 2) (xs 3)) L_L_106 (preWV (q := (RX6, TX6, 35)) hN hP hD [0, 1] rfl (by decide) 0 5 rfl rfl) rfl ⟨Nat.le_of_ble_eq_true rfl, Nat.le_of_ble_eq_true rfl⟩ hl.1 (Nat.le_of_ble_eq_true rfl) dL_law_1010 ⟨Nat.le_of_ble_eq_true rfl, Nat.le_of_ble_eq_true rfl⟩) hP hD hS hA [0, 1] [] rfl rfl (by decide) (by decide) (fun r_4 u_6 H locs h_5 hP hD hS => ?_)
  obtain ⟨rfl, h_5⟩ := h_5
  have hP : va_P G CL [] H := hP
  have hD : va_D A [] := hD
  subst h_5
  refine lv_icmp_eq (tgt := 1808) hx hb dL_law_1013 (by decide) (fun _ => ?_) (fun h9 => absurd (by decide) h9)
  exact law_tail hx hb hr hml hX hbl hlocks hAn hbA hS (lv_sub hl [0, 3] rfl) (Nat.le_of_ble_eq_true rfl) (Nat.le_of_ble_eq_true rfl)
set_option maxHeartbeats 4000000 in
set_option maxRecDepth 100000 in
theorem law_21 {p : Program} {l : Launch} {e : Env} {s : State} {m : MethodId} {below : List Frame} {meth : Method} {c : Code} {b : Nat} {xs : Nat → Int32} {A : Nat → Prop} {G : va_G} {cy : Nat → ClassId} {H : Heap} {locs : List Loc} {ls : Array Slot} (qx : Nat) (qt : Nat) (qk : Nat) (qp : Nat) (qs : Nat) (qa : Nat) (qr : Nat) (qtw : Nat) (qtn : Nat) (qtg : Nat) (qta : Nat) (qtr : Nat) (qtm : Nat) (qtt : Nat) (qts : Nat) (qm : Nat) (qms : Nat) (qmo : Nat) (qmz : Nat) (qmR : Nat) (qmv : Nat) (qmk : Nat) (qmb : Nat) (qmt : Nat) (qmr : Nat) (qmB : Nat) (qmO : Nat) (qmK : Nat) (qm_three : Nat) (qm_unread : Nat) (qm_tryRow : Nat) (qm_bestRow : Nat) (qm_steps : Nat) (hx : p.tables.exec = Jvm.exec) (hb : c.code = code) (hr : meth.sig.returnType = ret) (hml : c.maxLocals = 4) (hown : s.vm.findClass RL = some m.cls) (hts : ∀ w ∈ BIG, w.before #[Value.ref b] s = true) (hX : va_X b 6 xs s s.heap) (hbl : b < s.heap.size) (hlocks : meth.locks = false) (hN : KN G cy s) (hA : ∀ q : Nat, s.heap.size ≤ q → A q) (hAn : ∀ q : Nat, A q → s.heap.size ≤ q) (hbA : ¬ A b) (hP : va_P G CL [(qx, .inr (4, [.ref qt, .ref qk, .ref qp, .ref qs, .ref qa, .ref qr, .int 0, .int 0, .int 0])), (qr, .inl (cy 0, 5, .inl (fun _ => 0))), (qt, .inr (3, [.int 0, .int 0, .int 0, .int 0, .int 1, .ref qtw, .ref qtn, .ref qtg, .ref qta, .ref qtr, .ref qtm, .ref qtt, .ref qts])), (qm, .inr (5, [.ref qms, .ref qmo, .ref qmz, .ref qmR, .ref qmv, .ref qmk, .ref qmb, .ref qmt, .int 0, .ref qmr, .int 0, .ref qmB, .int 0, .ref qmO, .ref qmK, .int 0, .int 0, .int 1, .null, .null, .int 0, .int 0, .int 0, .long 0, .int 0, .ref qm_three, .int 0, .int 0, .int 0, .null, .ref qm_unread, .ref qm_tryRow, .ref qm_bestRow, .ref qm_steps, .int 0])), (qmr, .inl (cy 0, 8, .inl (fun _ => 0)))] H) (hD : va_D A [(qx, .inr (4, [.ref qt, .ref qk, .ref qp, .ref qs, .ref qa, .ref qr, .int 0, .int 0, .int 0])), (qr, .inl (cy 0, 5, .inl (fun _ => 0))), (qt, .inr (3, [.int 0, .int 0, .int 0, .int 0, .int 1, .ref qtw, .ref qtn, .ref qtg, .ref qta, .ref qtr, .ref qtm, .ref qtt, .ref qts])), (qm, .inr (5, [.ref qms, .ref qmo, .ref qmz, .ref qmR, .ref qmv, .ref qmk, .ref qmb, .ref qmt, .int 0, .ref qmr, .int 0, .ref qmB, .int 0, .ref qmO, .ref qmK, .int 0, .int 0, .int 1, .null, .null, .int 0, .int 0, .int 0, .long 0, .int 0, .ref qm_three, .int 0, .int 0, .int 0, .null, .ref qm_unread, .ref qm_tryRow, .ref qm_bestRow, .ref qm_steps, .int 0])), (qmr, .inl (cy 0, 8, .inl (fun _ => 0)))]) (hS : va_S A s.heap H locs) (hl : lv_has ls 4 [(3, .int 0), (2, .ref qm), (1, .ref qx), (0, .ref b)]) : W p l e room_1 s m #[Value.ref b] below meth c H locs 105 2176 (lw_Z below #[Value.ref b] s) (F0 m 1018 ls []) := by
  have hK := hN.1
  refine lv_aload_n hx hb dL_law_1018 rfl (lv_at hl 2 rfl) ?_
  refine lv_aload_n hx hb dL_law_1019 rfl (lv_at hl 3 rfl) ?_
  refine lv_iload_n hx hb dL_law_1020 rfl (lv_at hl 0 rfl) ?_
  refine lv_iconst (v := 1) hx hb dL_law_1021 (by decide) ?_
  refine lv_iadd hx hb dL_law_1022 ?_
  refine lv_seti (v := 1) (by decide) ?_
  refine va_sld hx hb hX hbl hbA hS (in_c rfl) dL_law_1023 ?_
  refine lv_seti (v := xs 1) (congrArg xs (by decide)) ?_
  refine lv_aload_n hx hb dL_law_1024 rfl (lv_at hl 3 rfl) ?_
  refine lv_iload_n hx hb dL_law_1025 rfl (lv_at hl 0 rfl) ?_
  refine lv_iconst (v := 2) hx hb dL_law_1026 (by decide) ?_
  refine lv_iadd hx hb dL_law_1027 ?_
  refine lv_seti (v := 2) (by decide) ?_
  refine va_sld hx hb hX hbl hbA hS (in_c rfl) dL_law_1028 ?_
  refine lv_seti (v := xs 2) (congrArg xs (by decide)) ?_
  refine lv_aload_n hx hb dL_law_1029 rfl (lv_at hl 3 rfl) ?_
  refine lv_iload_n hx hb dL_law_1030 rfl (lv_at hl 0 rfl) ?_
  refine lv_iconst (v := 3) hx hb dL_law_1031 (by decide) ?_
  refine lv_iadd hx hb dL_law_1032 ?_
  refine lv_seti (v := 3) (by decide) ?_
  refine va_sld hx hb hX hbl hbA hS (in_c rfl) dL_law_1033 ?_
  refine lv_seti (v := xs 3) (congrArg xs (by decide)) ?_
  refine kWi (wr := [(qm, .inr (5, [.ref qms, .ref qmo, .ref qmz, .ref qmR, .ref qmv, .ref qmk, .ref qmb, .ref qmt, .int 0, .ref qmr, .int 0, .ref qmB, .int 0, .ref qmO, .ref qmK, .int 0, .int 0, .int 1, .null, .null, .int 0, .int 0, .int 0, .long 0, .int 0, .ref qm_three, .int 0, .int 0, .int 0, .null, .ref qm_unread, .ref qm_tryRow, .ref qm_bestRow, .ref qm_steps, .int 0])), (qmr, .inl (cy 0, 8, .inl (fun _ => 0)))]) (rV (As := [.int (xs 1), .int (xs 2), .int (xs 3)]) (rest := []) (b := qx) ⟨hx, hb, hml, hown, hts⟩ (p_X5_tell l G cy (H).size qx qt qk qp qs qa qr qtw qtn qtg qta qtr qtm qtt qts (xs 1) (xs 2) (xs 3)) L_L_107 (preWV (q := (RX5, TX5, 9)) hN hP hD [0, 1, 2] rfl (by decide) 0 4 rfl rfl) rfl ⟨Nat.le_of_ble_eq_true rfl, Nat.le_of_ble_eq_true rfl⟩ hl.1 (Nat.le_of_ble_eq_true rfl) dL_law_1034 ⟨Nat.le_of_ble_eq_true rfl, Nat.le_of_ble_eq_true rfl⟩) hP hD hS hA [0, 1, 2] [3, 4] rfl rfl (by decide) (by decide) (fun r_1 u_3 H locs h_2 hP hD hS => ?_)
  obtain ⟨rfl, h_2⟩ := h_2
  have hP : va_P G CL [(qm, .inr (5, [.ref qms, .ref qmo, .ref qmz, .ref qmR, .ref qmv, .ref qmk, .ref qmb, .ref qmt, .int 0, .ref qmr, .int 0, .ref qmB, .int 0, .ref qmO, .ref qmK, .int 0, .int 0, .int 1, .null, .null, .int 0, .int 0, .int 0, .long 0, .int 0, .ref qm_three, .int 0, .int 0, .int 0, .null, .ref qm_unread, .ref qm_tryRow, .ref qm_bestRow, .ref qm_steps, .int 0])), (qmr, .inl (cy 0, 8, .inl (fun _ => 0)))] H := hP
  have hD : va_D A [(qm, .inr (5, [.ref qms, .ref qmo, .ref qmz, .ref qmR, .ref qmv, .ref qmk, .ref qmb, .ref qmt, .int 0, .ref qmr, .int 0, .ref qmB, .int 0, .ref qmO, .ref qmK, .int 0, .int 0, .int 1, .null, .null, .int 0, .int 0, .int 0, .long 0, .int 0, .ref qm_three, .int 0, .int 0, .int 0, .null, .ref qm_unread, .ref qm_tryRow, .ref qm_bestRow, .ref qm_steps, .int 0])), (qmr, .inl (cy 0, 8, .inl (fun _ => 0)))] := hD
  subst h_2
  refine lv_aload_n hx hb dL_law_1037 rfl (lv_at hl 1 rfl) ?_
  refine lv_aload_n hx hb dL_law_1038 rfl (lv_at hl 3 rfl) ?_
  refine lv_iload_n hx hb dL_law_1039 rfl (lv_at hl 0 rfl) ?_
  refine lv_iconst (v := 1) hx hb dL_law_1040 (by decide) ?_
  refine lv_iadd hx hb dL_law_1041 ?_
  refine lv_seti (v := 1) (by decide) ?_
  refine va_sld hx hb hX hbl hbA hS (in_c rfl) dL_law_1042 ?_
  refine lv_seti (v := xs 1) (congrArg xs (by decide)) ?_
  refine lv_aload_n hx hb dL_law_1043 rfl (lv_at hl 3 rfl) ?_
  refine lv_iload_n hx hb dL_law_1044 rfl (lv_at hl 0 rfl) ?_
  refine lv_iconst (v := 2) hx hb dL_law_1045 (by decide) ?_
  refine lv_iadd hx hb dL_law_1046 ?_
  refine lv_seti (v := 2) (by decide) ?_
  refine va_sld hx hb hX hbl hbA hS (in_c rfl) dL_law_1047 ?_
  refine lv_seti (v := xs 2) (congrArg xs (by decide)) ?_
  refine lv_aload_n hx hb dL_law_1048 rfl (lv_at hl 3 rfl) ?_
  refine lv_iload_n hx hb dL_law_1049 rfl (lv_at hl 0 rfl) ?_
  refine lv_iconst (v := 3) hx hb dL_law_1050 (by decide) ?_
  refine lv_iadd hx hb dL_law_1051 ?_
  refine lv_seti (v := 3) (by decide) ?_
  refine va_sld hx hb hX hbl hbA hS (in_c rfl) dL_law_1052 ?_
  refine lv_seti (v := xs 3) (congrArg xs (by decide)) ?_
  refine kWi (wr := []) (rV (As := [.int (xs 1), .int (xs 2), .int (xs 3)]) (rest := [.int (-2)]) (b := qm) ⟨hx, hb, hml, hown, hts⟩ (p_X6_tell l G cy (H).size qm qms qmo qmz qmR qmv qmk qmb qmt qmr qmB qmO qmK qm_three qm_unread qm_tryRow qm_bestRow qm_steps (xs 1) (xs 2) (xs 3)) L_L_110 (preWV (q := (RX6, TX6, 35)) hN hP hD [0, 1] rfl (by decide) 0 5 rfl rfl) rfl ⟨Nat.le_of_ble_eq_true rfl, Nat.le_of_ble_eq_true rfl⟩ hl.1 (Nat.le_of_ble_eq_true rfl) dL_law_1053 ⟨Nat.le_of_ble_eq_true rfl, Nat.le_of_ble_eq_true rfl⟩) hP hD hS hA [0, 1] [] rfl rfl (by decide) (by decide) (fun r_4 u_6 H locs h_5 hP hD hS => ?_)
  obtain ⟨rfl, h_5⟩ := h_5
  have hP : va_P G CL [] H := hP
  have hD : va_D A [] := hD
  subst h_5
  refine lv_icmp_eq (tgt := 1808) hx hb dL_law_1056 (by decide) (fun _ => ?_) (fun h9 => absurd (by decide) h9)
  exact law_tail hx hb hr hml hX hbl hlocks hAn hbA hS (lv_sub hl [0, 3] rfl) (Nat.le_of_ble_eq_true rfl) (Nat.le_of_ble_eq_true rfl)
set_option maxHeartbeats 4000000 in
set_option maxRecDepth 100000 in
theorem law_22 {p : Program} {l : Launch} {e : Env} {s : State} {m : MethodId} {below : List Frame} {meth : Method} {c : Code} {b : Nat} {xs : Nat → Int32} {A : Nat → Prop} {G : va_G} {cy : Nat → ClassId} {H : Heap} {locs : List Loc} {ls : Array Slot} (qx : Nat) (qt : Nat) (qk : Nat) (qp : Nat) (qs : Nat) (qa : Nat) (qr : Nat) (qtw : Nat) (qtn : Nat) (qtg : Nat) (qta : Nat) (qtr : Nat) (qtm : Nat) (qtt : Nat) (qts : Nat) (qm : Nat) (qms : Nat) (qmo : Nat) (qmz : Nat) (qmR : Nat) (qmv : Nat) (qmk : Nat) (qmb : Nat) (qmt : Nat) (qmr : Nat) (qmB : Nat) (qmO : Nat) (qmK : Nat) (qm_three : Nat) (qm_unread : Nat) (qm_tryRow : Nat) (qm_bestRow : Nat) (qm_steps : Nat) (hx : p.tables.exec = Jvm.exec) (hb : c.code = code) (hr : meth.sig.returnType = ret) (hml : c.maxLocals = 4) (hown : s.vm.findClass RL = some m.cls) (hts : ∀ w ∈ BIG, w.before #[Value.ref b] s = true) (hX : va_X b 6 xs s s.heap) (hbl : b < s.heap.size) (hlocks : meth.locks = false) (hN : KN G cy s) (hA : ∀ q : Nat, s.heap.size ≤ q → A q) (hAn : ∀ q : Nat, A q → s.heap.size ≤ q) (hbA : ¬ A b) (hP : va_P G CL [(qx, .inr (4, [.ref qt, .ref qk, .ref qp, .ref qs, .ref qa, .ref qr, .int 0, .int 0, .int 0])), (qr, .inl (cy 0, 5, .inl (fun _ => 0))), (qt, .inr (3, [.int 0, .int 0, .int 0, .int 0, .int 1, .ref qtw, .ref qtn, .ref qtg, .ref qta, .ref qtr, .ref qtm, .ref qtt, .ref qts])), (qm, .inr (5, [.ref qms, .ref qmo, .ref qmz, .ref qmR, .ref qmv, .ref qmk, .ref qmb, .ref qmt, .int 0, .ref qmr, .int 0, .ref qmB, .int 0, .ref qmO, .ref qmK, .int 0, .int 0, .int 1, .null, .null, .int 0, .int 0, .int 0, .long 0, .int 0, .ref qm_three, .int 0, .int 0, .int 0, .null, .ref qm_unread, .ref qm_tryRow, .ref qm_bestRow, .ref qm_steps, .int 0])), (qmr, .inl (cy 0, 8, .inl (fun _ => 0)))] H) (hD : va_D A [(qx, .inr (4, [.ref qt, .ref qk, .ref qp, .ref qs, .ref qa, .ref qr, .int 0, .int 0, .int 0])), (qr, .inl (cy 0, 5, .inl (fun _ => 0))), (qt, .inr (3, [.int 0, .int 0, .int 0, .int 0, .int 1, .ref qtw, .ref qtn, .ref qtg, .ref qta, .ref qtr, .ref qtm, .ref qtt, .ref qts])), (qm, .inr (5, [.ref qms, .ref qmo, .ref qmz, .ref qmR, .ref qmv, .ref qmk, .ref qmb, .ref qmt, .int 0, .ref qmr, .int 0, .ref qmB, .int 0, .ref qmO, .ref qmK, .int 0, .int 0, .int 1, .null, .null, .int 0, .int 0, .int 0, .long 0, .int 0, .ref qm_three, .int 0, .int 0, .int 0, .null, .ref qm_unread, .ref qm_tryRow, .ref qm_bestRow, .ref qm_steps, .int 0])), (qmr, .inl (cy 0, 8, .inl (fun _ => 0)))]) (hS : va_S A s.heap H locs) (hl : lv_has ls 4 [(3, .int 0), (2, .ref qm), (1, .ref qx), (0, .ref b)]) : W p l e room_1 s m #[Value.ref b] below meth c H locs 105 2176 (lw_Z below #[Value.ref b] s) (F0 m 1061 ls []) := by
  have hK := hN.1
  refine lv_aload_n hx hb dL_law_1061 rfl (lv_at hl 2 rfl) ?_
  refine lv_aload_n hx hb dL_law_1062 rfl (lv_at hl 3 rfl) ?_
  refine lv_iload_n hx hb dL_law_1063 rfl (lv_at hl 0 rfl) ?_
  refine lv_iconst (v := 1) hx hb dL_law_1064 (by decide) ?_
  refine lv_iadd hx hb dL_law_1065 ?_
  refine lv_seti (v := 1) (by decide) ?_
  refine va_sld hx hb hX hbl hbA hS (in_c rfl) dL_law_1066 ?_
  refine lv_seti (v := xs 1) (congrArg xs (by decide)) ?_
  refine lv_aload_n hx hb dL_law_1067 rfl (lv_at hl 3 rfl) ?_
  refine lv_iload_n hx hb dL_law_1068 rfl (lv_at hl 0 rfl) ?_
  refine lv_iconst (v := 2) hx hb dL_law_1069 (by decide) ?_
  refine lv_iadd hx hb dL_law_1070 ?_
  refine lv_seti (v := 2) (by decide) ?_
  refine va_sld hx hb hX hbl hbA hS (in_c rfl) dL_law_1071 ?_
  refine lv_seti (v := xs 2) (congrArg xs (by decide)) ?_
  refine kWi (wr := [(qm, .inr (5, [.ref qms, .ref qmo, .ref qmz, .ref qmR, .ref qmv, .ref qmk, .ref qmb, .ref qmt, .int 0, .ref qmr, .int 0, .ref qmB, .int 0, .ref qmO, .ref qmK, .int 0, .int 0, .int 1, .null, .null, .int 0, .int 0, .int 0, .long 0, .int 0, .ref qm_three, .int 0, .int 0, .int 0, .null, .ref qm_unread, .ref qm_tryRow, .ref qm_bestRow, .ref qm_steps, .int 0])), (qmr, .inl (cy 0, 8, .inl (fun _ => 0)))]) (rV (As := [.int (xs 1), .int (xs 2)]) (rest := []) (b := qx) ⟨hx, hb, hml, hown, hts⟩ (p_X5_write l G cy (H).size qx qt qk qp qs qa qr qtw qtn qtg qta qtr qtm qtt qts (xs 1) (xs 2)) L_L_111 (preWV (q := (RX5, TX5, 9)) hN hP hD [0, 1, 2] rfl (by decide) 0 4 rfl rfl) rfl ⟨Nat.le_of_ble_eq_true rfl, Nat.le_of_ble_eq_true rfl⟩ hl.1 (Nat.le_of_ble_eq_true rfl) dL_law_1072 ⟨Nat.le_of_ble_eq_true rfl, Nat.le_of_ble_eq_true rfl⟩) hP hD hS hA [0, 1, 2] [3, 4] rfl rfl (by decide) (by decide) (fun r_1 u_3 H locs h_2 hP hD hS => ?_)
  obtain ⟨rfl, h_2⟩ := h_2
  have hP : va_P G CL [(qm, .inr (5, [.ref qms, .ref qmo, .ref qmz, .ref qmR, .ref qmv, .ref qmk, .ref qmb, .ref qmt, .int 0, .ref qmr, .int 0, .ref qmB, .int 0, .ref qmO, .ref qmK, .int 0, .int 0, .int 1, .null, .null, .int 0, .int 0, .int 0, .long 0, .int 0, .ref qm_three, .int 0, .int 0, .int 0, .null, .ref qm_unread, .ref qm_tryRow, .ref qm_bestRow, .ref qm_steps, .int 0])), (qmr, .inl (cy 0, 8, .inl (fun _ => 0)))] H := hP
  have hD : va_D A [(qm, .inr (5, [.ref qms, .ref qmo, .ref qmz, .ref qmR, .ref qmv, .ref qmk, .ref qmb, .ref qmt, .int 0, .ref qmr, .int 0, .ref qmB, .int 0, .ref qmO, .ref qmK, .int 0, .int 0, .int 1, .null, .null, .int 0, .int 0, .int 0, .long 0, .int 0, .ref qm_three, .int 0, .int 0, .int 0, .null, .ref qm_unread, .ref qm_tryRow, .ref qm_bestRow, .ref qm_steps, .int 0])), (qmr, .inl (cy 0, 8, .inl (fun _ => 0)))] := hD
  subst h_2
  refine lv_aload_n hx hb dL_law_1075 rfl (lv_at hl 1 rfl) ?_
  refine lv_aload_n hx hb dL_law_1076 rfl (lv_at hl 3 rfl) ?_
  refine lv_iload_n hx hb dL_law_1077 rfl (lv_at hl 0 rfl) ?_
  refine lv_iconst (v := 1) hx hb dL_law_1078 (by decide) ?_
  refine lv_iadd hx hb dL_law_1079 ?_
  refine lv_seti (v := 1) (by decide) ?_
  refine va_sld hx hb hX hbl hbA hS (in_c rfl) dL_law_1080 ?_
  refine lv_seti (v := xs 1) (congrArg xs (by decide)) ?_
  refine lv_aload_n hx hb dL_law_1081 rfl (lv_at hl 3 rfl) ?_
  refine lv_iload_n hx hb dL_law_1082 rfl (lv_at hl 0 rfl) ?_
  refine lv_iconst (v := 2) hx hb dL_law_1083 (by decide) ?_
  refine lv_iadd hx hb dL_law_1084 ?_
  refine lv_seti (v := 2) (by decide) ?_
  refine va_sld hx hb hX hbl hbA hS (in_c rfl) dL_law_1085 ?_
  refine lv_seti (v := xs 2) (congrArg xs (by decide)) ?_
  refine kWi (wr := []) (rV (As := [.int (xs 1), .int (xs 2)]) (rest := [.int (-2)]) (b := qm) ⟨hx, hb, hml, hown, hts⟩ (p_X6_write l G cy (H).size qm qms qmo qmz qmR qmv qmk qmb qmt qmr qmB qmO qmK qm_three qm_unread qm_tryRow qm_bestRow qm_steps (xs 1) (xs 2)) L_L_114 (preWV (q := (RX6, TX6, 35)) hN hP hD [0, 1] rfl (by decide) 0 5 rfl rfl) rfl ⟨Nat.le_of_ble_eq_true rfl, Nat.le_of_ble_eq_true rfl⟩ hl.1 (Nat.le_of_ble_eq_true rfl) dL_law_1086 ⟨Nat.le_of_ble_eq_true rfl, Nat.le_of_ble_eq_true rfl⟩) hP hD hS hA [0, 1] [] rfl rfl (by decide) (by decide) (fun r_4 u_6 H locs h_5 hP hD hS => ?_)
  obtain ⟨rfl, h_5⟩ := h_5
  have hP : va_P G CL [] H := hP
  have hD : va_D A [] := hD
  subst h_5
  refine lv_icmp_eq (tgt := 1808) hx hb dL_law_1089 (by decide) (fun _ => ?_) (fun h9 => absurd (by decide) h9)
  exact law_tail hx hb hr hml hX hbl hlocks hAn hbA hS (lv_sub hl [0, 3] rfl) (Nat.le_of_ble_eq_true rfl) (Nat.le_of_ble_eq_true rfl)
set_option maxHeartbeats 4000000 in
set_option maxRecDepth 100000 in
theorem law_23 {p : Program} {l : Launch} {e : Env} {s : State} {m : MethodId} {below : List Frame} {meth : Method} {c : Code} {b : Nat} {xs : Nat → Int32} {A : Nat → Prop} {G : va_G} {cy : Nat → ClassId} {H : Heap} {locs : List Loc} {ls : Array Slot} (qx : Nat) (qt : Nat) (qk : Nat) (qp : Nat) (qs : Nat) (qa : Nat) (qr : Nat) (qtw : Nat) (qtn : Nat) (qtg : Nat) (qta : Nat) (qtr : Nat) (qtm : Nat) (qtt : Nat) (qts : Nat) (qm : Nat) (qms : Nat) (qmo : Nat) (qmz : Nat) (qmR : Nat) (qmv : Nat) (qmk : Nat) (qmb : Nat) (qmt : Nat) (qmr : Nat) (qmB : Nat) (qmO : Nat) (qmK : Nat) (qm_three : Nat) (qm_unread : Nat) (qm_tryRow : Nat) (qm_bestRow : Nat) (qm_steps : Nat) (hx : p.tables.exec = Jvm.exec) (hb : c.code = code) (hr : meth.sig.returnType = ret) (hml : c.maxLocals = 4) (hown : s.vm.findClass RL = some m.cls) (hts : ∀ w ∈ BIG, w.before #[Value.ref b] s = true) (hX : va_X b 6 xs s s.heap) (hbl : b < s.heap.size) (hlocks : meth.locks = false) (hN : KN G cy s) (hA : ∀ q : Nat, s.heap.size ≤ q → A q) (hAn : ∀ q : Nat, A q → s.heap.size ≤ q) (hbA : ¬ A b) (hP : va_P G CL [(qx, .inr (4, [.ref qt, .ref qk, .ref qp, .ref qs, .ref qa, .ref qr, .int 0, .int 0, .int 0])), (qt, .inr (3, [.int 0, .int 0, .int 0, .int 0, .int 1, .ref qtw, .ref qtn, .ref qtg, .ref qta, .ref qtr, .ref qtm, .ref qtt, .ref qts])), (qm, .inr (5, [.ref qms, .ref qmo, .ref qmz, .ref qmR, .ref qmv, .ref qmk, .ref qmb, .ref qmt, .int 0, .ref qmr, .int 0, .ref qmB, .int 0, .ref qmO, .ref qmK, .int 0, .int 0, .int 1, .null, .null, .int 0, .int 0, .int 0, .long 0, .int 0, .ref qm_three, .int 0, .int 0, .int 0, .null, .ref qm_unread, .ref qm_tryRow, .ref qm_bestRow, .ref qm_steps, .int 0]))] H) (hD : va_D A [(qx, .inr (4, [.ref qt, .ref qk, .ref qp, .ref qs, .ref qa, .ref qr, .int 0, .int 0, .int 0])), (qt, .inr (3, [.int 0, .int 0, .int 0, .int 0, .int 1, .ref qtw, .ref qtn, .ref qtg, .ref qta, .ref qtr, .ref qtm, .ref qtt, .ref qts])), (qm, .inr (5, [.ref qms, .ref qmo, .ref qmz, .ref qmR, .ref qmv, .ref qmk, .ref qmb, .ref qmt, .int 0, .ref qmr, .int 0, .ref qmB, .int 0, .ref qmO, .ref qmK, .int 0, .int 0, .int 1, .null, .null, .int 0, .int 0, .int 0, .long 0, .int 0, .ref qm_three, .int 0, .int 0, .int 0, .null, .ref qm_unread, .ref qm_tryRow, .ref qm_bestRow, .ref qm_steps, .int 0]))]) (hS : va_S A s.heap H locs) (hl : lv_has ls 4 [(3, .int 0), (2, .ref qm), (1, .ref qx), (0, .ref b)]) : W p l e room_1 s m #[Value.ref b] below meth c H locs 105 2176 (lw_Z below #[Value.ref b] s) (F0 m 1094 ls []) := by
  have hK := hN.1
  refine lv_aload_n hx hb dL_law_1094 rfl (lv_at hl 2 rfl) ?_
  refine kRi (rV (As := []) (rest := []) (b := qx) ⟨hx, hb, hml, hown, hts⟩ (p_X5_value l G cy qx qt qk qp qs qa qr qtw qtn qtg qta qtr qtm qtt qts) L_L_115 (preRV (q := (RX5, TX5, 9)) hN hP [0, 1] rfl 0 4 rfl rfl) rfl ⟨Nat.le_of_ble_eq_true rfl, Nat.le_of_ble_eq_true rfl⟩ hl.1 (Nat.le_of_ble_eq_true rfl) dL_law_1095 ⟨Nat.le_of_ble_eq_true rfl, Nat.le_of_ble_eq_true rfl⟩) (fun r_1 h_2 => ?_)
  subst h_2
  refine lv_aload_n hx hb dL_law_1098 rfl (lv_at hl 1 rfl) ?_
  refine kRi (rV (As := []) (rest := [.int 0]) (b := qm) ⟨hx, hb, hml, hown, hts⟩ (p_X6_value l G cy qm qms qmo qmz qmR qmv qmk qmb qmt qmr qmB qmO qmK qm_three qm_unread qm_tryRow qm_bestRow qm_steps) L_L_118 (preRV (q := (RX6, TX6, 35)) hN hP [2] rfl 2 5 rfl rfl) rfl ⟨Nat.le_of_ble_eq_true rfl, Nat.le_of_ble_eq_true rfl⟩ hl.1 (Nat.le_of_ble_eq_true rfl) dL_law_1099 ⟨Nat.le_of_ble_eq_true rfl, Nat.le_of_ble_eq_true rfl⟩) (fun r_3 h_4 => ?_)
  subst h_4
  refine lv_icmp_eq (tgt := 1808) hx hb dL_law_1102 (by decide) (fun _ => ?_) (fun h9 => absurd (by decide) h9)
  exact law_tail hx hb hr hml hX hbl hlocks hAn hbA hS (lv_sub hl [0, 3] rfl) (Nat.le_of_ble_eq_true rfl) (Nat.le_of_ble_eq_true rfl)
set_option maxHeartbeats 4000000 in
set_option maxRecDepth 100000 in
theorem law_24 {p : Program} {l : Launch} {e : Env} {s : State} {m : MethodId} {below : List Frame} {meth : Method} {c : Code} {b : Nat} {xs : Nat → Int32} {A : Nat → Prop} {G : va_G} {cy : Nat → ClassId} {H : Heap} {locs : List Loc} {ls : Array Slot} (qx : Nat) (qt : Nat) (qk : Nat) (qp : Nat) (qs : Nat) (qa : Nat) (qr : Nat) (qtw : Nat) (qtn : Nat) (qtg : Nat) (qta : Nat) (qtr : Nat) (qtm : Nat) (qtt : Nat) (qts : Nat) (qm : Nat) (qms : Nat) (qmo : Nat) (qmz : Nat) (qmR : Nat) (qmv : Nat) (qmk : Nat) (qmb : Nat) (qmt : Nat) (qmr : Nat) (qmB : Nat) (qmO : Nat) (qmK : Nat) (qm_three : Nat) (qm_unread : Nat) (qm_tryRow : Nat) (qm_bestRow : Nat) (qm_steps : Nat) (hx : p.tables.exec = Jvm.exec) (hb : c.code = code) (hr : meth.sig.returnType = ret) (hml : c.maxLocals = 4) (hown : s.vm.findClass RL = some m.cls) (hts : ∀ w ∈ BIG, w.before #[Value.ref b] s = true) (hX : va_X b 6 xs s s.heap) (hbl : b < s.heap.size) (hlocks : meth.locks = false) (hN : KN G cy s) (hA : ∀ q : Nat, s.heap.size ≤ q → A q) (hAn : ∀ q : Nat, A q → s.heap.size ≤ q) (hbA : ¬ A b) (hP : va_P G CL [(qx, .inr (4, [.ref qt, .ref qk, .ref qp, .ref qs, .ref qa, .ref qr, .int 0, .int 0, .int 0])), (qr, .inl (cy 0, 5, .inl (fun _ => 0))), (qt, .inr (3, [.int 0, .int 0, .int 0, .int 0, .int 1, .ref qtw, .ref qtn, .ref qtg, .ref qta, .ref qtr, .ref qtm, .ref qtt, .ref qts])), (qm, .inr (5, [.ref qms, .ref qmo, .ref qmz, .ref qmR, .ref qmv, .ref qmk, .ref qmb, .ref qmt, .int 0, .ref qmr, .int 0, .ref qmB, .int 0, .ref qmO, .ref qmK, .int 0, .int 0, .int 1, .null, .null, .int 0, .int 0, .int 0, .long 0, .int 0, .ref qm_three, .int 0, .int 0, .int 0, .null, .ref qm_unread, .ref qm_tryRow, .ref qm_bestRow, .ref qm_steps, .int 0])), (qmr, .inl (cy 0, 8, .inl (fun _ => 0)))] H) (hD : va_D A [(qx, .inr (4, [.ref qt, .ref qk, .ref qp, .ref qs, .ref qa, .ref qr, .int 0, .int 0, .int 0])), (qr, .inl (cy 0, 5, .inl (fun _ => 0))), (qt, .inr (3, [.int 0, .int 0, .int 0, .int 0, .int 1, .ref qtw, .ref qtn, .ref qtg, .ref qta, .ref qtr, .ref qtm, .ref qtt, .ref qts])), (qm, .inr (5, [.ref qms, .ref qmo, .ref qmz, .ref qmR, .ref qmv, .ref qmk, .ref qmb, .ref qmt, .int 0, .ref qmr, .int 0, .ref qmB, .int 0, .ref qmO, .ref qmK, .int 0, .int 0, .int 1, .null, .null, .int 0, .int 0, .int 0, .long 0, .int 0, .ref qm_three, .int 0, .int 0, .int 0, .null, .ref qm_unread, .ref qm_tryRow, .ref qm_bestRow, .ref qm_steps, .int 0])), (qmr, .inl (cy 0, 8, .inl (fun _ => 0)))]) (hS : va_S A s.heap H locs) (hl : lv_has ls 4 [(3, .int 0), (2, .ref qm), (1, .ref qx), (0, .ref b)]) : W p l e room_1 s m #[Value.ref b] below meth c H locs 105 2176 (lw_Z below #[Value.ref b] s) (F0 m 1107 ls []) := by
  have hK := hN.1
  refine lv_aload_n hx hb dL_law_1107 rfl (lv_at hl 2 rfl) ?_
  refine lv_aload_n hx hb dL_law_1108 rfl (lv_at hl 3 rfl) ?_
  refine lv_iload_n hx hb dL_law_1109 rfl (lv_at hl 0 rfl) ?_
  refine lv_iconst (v := 1) hx hb dL_law_1110 (by decide) ?_
  refine lv_iadd hx hb dL_law_1111 ?_
  refine lv_seti (v := 1) (by decide) ?_
  refine va_sld hx hb hX hbl hbA hS (in_c rfl) dL_law_1112 ?_
  refine lv_seti (v := xs 1) (congrArg xs (by decide)) ?_
  refine kWi (wr := [(qm, .inr (5, [.ref qms, .ref qmo, .ref qmz, .ref qmR, .ref qmv, .ref qmk, .ref qmb, .ref qmt, .int 0, .ref qmr, .int 0, .ref qmB, .int 0, .ref qmO, .ref qmK, .int 0, .int 0, .int 1, .null, .null, .int 0, .int 0, .int 0, .long 0, .int 0, .ref qm_three, .int 0, .int 0, .int 0, .null, .ref qm_unread, .ref qm_tryRow, .ref qm_bestRow, .ref qm_steps, .int 0])), (qmr, .inl (cy 0, 8, .inl (fun _ => 0)))]) (rV (As := [.int (xs 1)]) (rest := []) (b := qx) ⟨hx, hb, hml, hown, hts⟩ (p_X5_reader l G cy (H).size qx qt qk qp qs qa qr qtw qtn qtg qta qtr qtm qtt qts (xs 1)) L_L_119 (preWV (q := (RX5, TX5, 9)) hN hP hD [0, 1, 2] rfl (by decide) 0 4 rfl rfl) rfl ⟨Nat.le_of_ble_eq_true rfl, Nat.le_of_ble_eq_true rfl⟩ hl.1 (Nat.le_of_ble_eq_true rfl) dL_law_1113 ⟨Nat.le_of_ble_eq_true rfl, Nat.le_of_ble_eq_true rfl⟩) hP hD hS hA [0, 1, 2] [3, 4] rfl rfl (by decide) (by decide) (fun r_1 u_3 H locs h_2 hP hD hS => ?_)
  obtain ⟨rfl, h_2⟩ := h_2
  have hP : va_P G CL [(qm, .inr (5, [.ref qms, .ref qmo, .ref qmz, .ref qmR, .ref qmv, .ref qmk, .ref qmb, .ref qmt, .int 0, .ref qmr, .int 0, .ref qmB, .int 0, .ref qmO, .ref qmK, .int 0, .int 0, .int 1, .null, .null, .int 0, .int 0, .int 0, .long 0, .int 0, .ref qm_three, .int 0, .int 0, .int 0, .null, .ref qm_unread, .ref qm_tryRow, .ref qm_bestRow, .ref qm_steps, .int 0])), (qmr, .inl (cy 0, 8, .inl (fun _ => 0)))] H := hP
  have hD : va_D A [(qm, .inr (5, [.ref qms, .ref qmo, .ref qmz, .ref qmR, .ref qmv, .ref qmk, .ref qmb, .ref qmt, .int 0, .ref qmr, .int 0, .ref qmB, .int 0, .ref qmO, .ref qmK, .int 0, .int 0, .int 1, .null, .null, .int 0, .int 0, .int 0, .long 0, .int 0, .ref qm_three, .int 0, .int 0, .int 0, .null, .ref qm_unread, .ref qm_tryRow, .ref qm_bestRow, .ref qm_steps, .int 0])), (qmr, .inl (cy 0, 8, .inl (fun _ => 0)))] := hD
  subst h_2
  refine lv_aload_n hx hb dL_law_1116 rfl (lv_at hl 1 rfl) ?_
  refine lv_aload_n hx hb dL_law_1117 rfl (lv_at hl 3 rfl) ?_
  refine lv_iload_n hx hb dL_law_1118 rfl (lv_at hl 0 rfl) ?_
  refine lv_iconst (v := 1) hx hb dL_law_1119 (by decide) ?_
  refine lv_iadd hx hb dL_law_1120 ?_
  refine lv_seti (v := 1) (by decide) ?_
  refine va_sld hx hb hX hbl hbA hS (in_c rfl) dL_law_1121 ?_
  refine lv_seti (v := xs 1) (congrArg xs (by decide)) ?_
  refine kWi (wr := []) (rV (As := [.int (xs 1)]) (rest := [.int (-2)]) (b := qm) ⟨hx, hb, hml, hown, hts⟩ (p_X6_reader l G cy (H).size qm qms qmo qmz qmR qmv qmk qmb qmt qmr qmB qmO qmK qm_three qm_unread qm_tryRow qm_bestRow qm_steps (xs 1)) L_L_122 (preWV (q := (RX6, TX6, 35)) hN hP hD [0, 1] rfl (by decide) 0 5 rfl rfl) rfl ⟨Nat.le_of_ble_eq_true rfl, Nat.le_of_ble_eq_true rfl⟩ hl.1 (Nat.le_of_ble_eq_true rfl) dL_law_1122 ⟨Nat.le_of_ble_eq_true rfl, Nat.le_of_ble_eq_true rfl⟩) hP hD hS hA [0, 1] [] rfl rfl (by decide) (by decide) (fun r_4 u_6 H locs h_5 hP hD hS => ?_)
  obtain ⟨rfl, h_5⟩ := h_5
  have hP : va_P G CL [] H := hP
  have hD : va_D A [] := hD
  subst h_5
  refine lv_icmp_eq (tgt := 1808) hx hb dL_law_1125 (by decide) (fun _ => ?_) (fun h9 => absurd (by decide) h9)
  exact law_tail hx hb hr hml hX hbl hlocks hAn hbA hS (lv_sub hl [0, 3] rfl) (Nat.le_of_ble_eq_true rfl) (Nat.le_of_ble_eq_true rfl)
set_option maxHeartbeats 4000000 in
set_option maxRecDepth 100000 in
theorem law_25 {p : Program} {l : Launch} {e : Env} {s : State} {m : MethodId} {below : List Frame} {meth : Method} {c : Code} {b : Nat} {xs : Nat → Int32} {A : Nat → Prop} {G : va_G} {cy : Nat → ClassId} {H : Heap} {locs : List Loc} {ls : Array Slot} (qx : Nat) (qt : Nat) (qk : Nat) (qp : Nat) (qs : Nat) (qa : Nat) (qr : Nat) (qsh : Nat) (qss : Nat) (qsa : Nat) (qse : Nat) (fH : Nat → Int32) (qm : Nat) (qms : Nat) (qmo : Nat) (qmz : Nat) (qmR : Nat) (qmv : Nat) (qmk : Nat) (qmb : Nat) (qmt : Nat) (qmr : Nat) (qmB : Nat) (qmO : Nat) (qmK : Nat) (qm_three : Nat) (qm_unread : Nat) (qm_tryRow : Nat) (qm_bestRow : Nat) (qm_steps : Nat) (hx : p.tables.exec = Jvm.exec) (hb : c.code = code) (hr : meth.sig.returnType = ret) (hml : c.maxLocals = 4) (hown : s.vm.findClass RL = some m.cls) (hts : ∀ w ∈ BIG, w.before #[Value.ref b] s = true) (hX : va_X b 6 xs s s.heap) (hbl : b < s.heap.size) (hlocks : meth.locks = false) (hN : KN G cy s) (hA : ∀ q : Nat, s.heap.size ≤ q → A q) (hAn : ∀ q : Nat, A q → s.heap.size ≤ q) (hbA : ¬ A b) (hP : va_P G CL [(qx, .inr (4, [.ref qt, .ref qk, .ref qp, .ref qs, .ref qa, .ref qr, .int 0, .int 0, .int 0])), (qr, .inl (cy 0, 5, .inl (fun _ => 0))), (qs, .inr (1, [.ref qsh, .ref qss, .ref qsa, .ref qse])), (qsh, .inl (cy 0, 8, .inl fH)), (qm, .inr (5, [.ref qms, .ref qmo, .ref qmz, .ref qmR, .ref qmv, .ref qmk, .ref qmb, .ref qmt, .int 0, .ref qmr, .int 0, .ref qmB, .int 0, .ref qmO, .ref qmK, .int 0, .int 0, .int 1, .null, .null, .int 0, .int 0, .int 0, .long 0, .int 0, .ref qm_three, .int 0, .int 0, .int 0, .null, .ref qm_unread, .ref qm_tryRow, .ref qm_bestRow, .ref qm_steps, .int 0])), (qms, .inl (cy 0, 8, .inl (fun _ => 0))), (qmr, .inl (cy 0, 8, .inl (fun _ => 0)))] H) (hD : va_D A [(qx, .inr (4, [.ref qt, .ref qk, .ref qp, .ref qs, .ref qa, .ref qr, .int 0, .int 0, .int 0])), (qr, .inl (cy 0, 5, .inl (fun _ => 0))), (qs, .inr (1, [.ref qsh, .ref qss, .ref qsa, .ref qse])), (qsh, .inl (cy 0, 8, .inl fH)), (qm, .inr (5, [.ref qms, .ref qmo, .ref qmz, .ref qmR, .ref qmv, .ref qmk, .ref qmb, .ref qmt, .int 0, .ref qmr, .int 0, .ref qmB, .int 0, .ref qmO, .ref qmK, .int 0, .int 0, .int 1, .null, .null, .int 0, .int 0, .int 0, .long 0, .int 0, .ref qm_three, .int 0, .int 0, .int 0, .null, .ref qm_unread, .ref qm_tryRow, .ref qm_bestRow, .ref qm_steps, .int 0])), (qms, .inl (cy 0, 8, .inl (fun _ => 0))), (qmr, .inl (cy 0, 8, .inl (fun _ => 0)))]) (hS : va_S A s.heap H locs) (hl : lv_has ls 4 [(3, .int 0), (2, .ref qm), (1, .ref qx), (0, .ref b)]) (hH : ∀ i, i < 8 → fH i = -1) : W p l e room_1 s m #[Value.ref b] below meth c H locs 105 2176 (lw_Z below #[Value.ref b] s) (F0 m 1130 ls []) := by
  have hK := hN.1
  refine lv_aload_n hx hb dL_law_1130 rfl (lv_at hl 2 rfl) ?_
  refine lv_aload_n hx hb dL_law_1131 rfl (lv_at hl 3 rfl) ?_
  refine lv_iload_n hx hb dL_law_1132 rfl (lv_at hl 0 rfl) ?_
  refine lv_iconst (v := 1) hx hb dL_law_1133 (by decide) ?_
  refine lv_iadd hx hb dL_law_1134 ?_
  refine lv_seti (v := 1) (by decide) ?_
  refine va_sld hx hb hX hbl hbA hS (in_c rfl) dL_law_1135 ?_
  refine lv_seti (v := xs 1) (congrArg xs (by decide)) ?_
  refine lv_aload_n hx hb dL_law_1136 rfl (lv_at hl 3 rfl) ?_
  refine lv_iload_n hx hb dL_law_1137 rfl (lv_at hl 0 rfl) ?_
  refine lv_iconst (v := 2) hx hb dL_law_1138 (by decide) ?_
  refine lv_iadd hx hb dL_law_1139 ?_
  refine lv_seti (v := 2) (by decide) ?_
  refine va_sld hx hb hX hbl hbA hS (in_c rfl) dL_law_1140 ?_
  refine lv_seti (v := xs 2) (congrArg xs (by decide)) ?_
  refine lv_aload_n hx hb dL_law_1141 rfl (lv_at hl 3 rfl) ?_
  refine lv_iload_n hx hb dL_law_1142 rfl (lv_at hl 0 rfl) ?_
  refine lv_iconst (v := 3) hx hb dL_law_1143 (by decide) ?_
  refine lv_iadd hx hb dL_law_1144 ?_
  refine lv_seti (v := 3) (by decide) ?_
  refine va_sld hx hb hX hbl hbA hS (in_c rfl) dL_law_1145 ?_
  refine lv_seti (v := xs 3) (congrArg xs (by decide)) ?_
  refine kWi (wr := [(qm, .inr (5, [.ref qms, .ref qmo, .ref qmz, .ref qmR, .ref qmv, .ref qmk, .ref qmb, .ref qmt, .int 0, .ref qmr, .int 0, .ref qmB, .int 0, .ref qmO, .ref qmK, .int 0, .int 0, .int 1, .null, .null, .int 0, .int 0, .int 0, .long 0, .int 0, .ref qm_three, .int 0, .int 0, .int 0, .null, .ref qm_unread, .ref qm_tryRow, .ref qm_bestRow, .ref qm_steps, .int 0])), (qms, .inl (cy 0, 8, .inl (fun _ => 0))), (qmr, .inl (cy 0, 8, .inl (fun _ => 0)))]) (rV (As := [.int (xs 1), .int (xs 2), .int (xs 3)]) (rest := []) (b := qx) ⟨hx, hb, hml, hown, hts⟩ (p_X5_run l G cy (H).size qx qt qk qp qs qa qr qsh qss qsa qse fH (xs 1) (xs 2) (xs 3) hH) L_L_123 (preWV (q := (RX5, TX5, 9)) hN hP hD [0, 1, 2, 3] rfl (by decide) 0 4 rfl rfl) rfl ⟨Nat.le_of_ble_eq_true rfl, Nat.le_of_ble_eq_true rfl⟩ hl.1 (Nat.le_of_ble_eq_true rfl) dL_law_1146 ⟨Nat.le_of_ble_eq_true rfl, Nat.le_of_ble_eq_true rfl⟩) hP hD hS hA [0, 1, 2, 3] [4, 5, 6] rfl rfl (by decide) (by decide) (fun r_1 u_3 H locs h_2 hP hD hS => ?_)
  obtain ⟨rfl, h_2⟩ := h_2
  have hP : va_P G CL [(qm, .inr (5, [.ref qms, .ref qmo, .ref qmz, .ref qmR, .ref qmv, .ref qmk, .ref qmb, .ref qmt, .int 0, .ref qmr, .int 0, .ref qmB, .int 0, .ref qmO, .ref qmK, .int 0, .int 0, .int 1, .null, .null, .int 0, .int 0, .int 0, .long 0, .int 0, .ref qm_three, .int 0, .int 0, .int 0, .null, .ref qm_unread, .ref qm_tryRow, .ref qm_bestRow, .ref qm_steps, .int 0])), (qms, .inl (cy 0, 8, .inl (fun _ => 0))), (qmr, .inl (cy 0, 8, .inl (fun _ => 0)))] H := hP
  have hD : va_D A [(qm, .inr (5, [.ref qms, .ref qmo, .ref qmz, .ref qmR, .ref qmv, .ref qmk, .ref qmb, .ref qmt, .int 0, .ref qmr, .int 0, .ref qmB, .int 0, .ref qmO, .ref qmK, .int 0, .int 0, .int 1, .null, .null, .int 0, .int 0, .int 0, .long 0, .int 0, .ref qm_three, .int 0, .int 0, .int 0, .null, .ref qm_unread, .ref qm_tryRow, .ref qm_bestRow, .ref qm_steps, .int 0])), (qms, .inl (cy 0, 8, .inl (fun _ => 0))), (qmr, .inl (cy 0, 8, .inl (fun _ => 0)))] := hD
  subst h_2
  refine lv_aload_n hx hb dL_law_1149 rfl (lv_at hl 1 rfl) ?_
  refine lv_aload_n hx hb dL_law_1150 rfl (lv_at hl 3 rfl) ?_
  refine lv_iload_n hx hb dL_law_1151 rfl (lv_at hl 0 rfl) ?_
  refine lv_iconst (v := 1) hx hb dL_law_1152 (by decide) ?_
  refine lv_iadd hx hb dL_law_1153 ?_
  refine lv_seti (v := 1) (by decide) ?_
  refine va_sld hx hb hX hbl hbA hS (in_c rfl) dL_law_1154 ?_
  refine lv_seti (v := xs 1) (congrArg xs (by decide)) ?_
  refine lv_aload_n hx hb dL_law_1155 rfl (lv_at hl 3 rfl) ?_
  refine lv_iload_n hx hb dL_law_1156 rfl (lv_at hl 0 rfl) ?_
  refine lv_iconst (v := 2) hx hb dL_law_1157 (by decide) ?_
  refine lv_iadd hx hb dL_law_1158 ?_
  refine lv_seti (v := 2) (by decide) ?_
  refine va_sld hx hb hX hbl hbA hS (in_c rfl) dL_law_1159 ?_
  refine lv_seti (v := xs 2) (congrArg xs (by decide)) ?_
  refine lv_aload_n hx hb dL_law_1160 rfl (lv_at hl 3 rfl) ?_
  refine lv_iload_n hx hb dL_law_1161 rfl (lv_at hl 0 rfl) ?_
  refine lv_iconst (v := 3) hx hb dL_law_1162 (by decide) ?_
  refine lv_iadd hx hb dL_law_1163 ?_
  refine lv_seti (v := 3) (by decide) ?_
  refine va_sld hx hb hX hbl hbA hS (in_c rfl) dL_law_1164 ?_
  refine lv_seti (v := xs 3) (congrArg xs (by decide)) ?_
  refine kWi (wr := []) (rV (As := [.int (xs 1), .int (xs 2), .int (xs 3)]) (rest := [.int (sp_run (xs 1) (xs 2) (xs 3))]) (b := qm) ⟨hx, hb, hml, hown, hts⟩ (p_X6_run l G cy (H).size qm qms qmo qmz qmR qmv qmk qmb qmt qmr qmB qmO qmK qm_three qm_unread qm_tryRow qm_bestRow qm_steps (xs 1) (xs 2) (xs 3)) L_L_126 (preWV (q := (RX6, TX6, 35)) hN hP hD [0, 1, 2] rfl (by decide) 0 5 rfl rfl) rfl ⟨Nat.le_of_ble_eq_true rfl, Nat.le_of_ble_eq_true rfl⟩ hl.1 (Nat.le_of_ble_eq_true rfl) dL_law_1165 ⟨Nat.le_of_ble_eq_true rfl, Nat.le_of_ble_eq_true rfl⟩) hP hD hS hA [0, 1, 2] [] rfl rfl (by decide) (by decide) (fun r_4 u_6 H locs h_5 hP hD hS => ?_)
  obtain ⟨rfl, h_5⟩ := h_5
  have hP : va_P G CL [] H := hP
  have hD : va_D A [] := hD
  subst h_5
  refine lv_icmp_eq (tgt := 1808) hx hb dL_law_1168 (by decide) (fun _ => ?_) (fun h9 => absurd rfl h9)
  exact law_tail hx hb hr hml hX hbl hlocks hAn hbA hS (lv_sub hl [0, 3] rfl) (Nat.le_of_ble_eq_true rfl) (Nat.le_of_ble_eq_true rfl)

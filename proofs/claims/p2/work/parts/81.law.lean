theorem dL_law_674 : decode cL_law 674 = .ok (.aload_n 1, 1) := by decide +kernel
theorem dL_law_675 : decode cL_law 675 = .ok (.aload_n 0, 1) := by decide +kernel
theorem dL_law_676 : decode cL_law 676 = .ok (.iload_n 3, 1) := by decide +kernel
theorem dL_law_677 : decode cL_law 677 = .ok (.iconst 1, 1) := by decide +kernel
theorem dL_law_678 : decode cL_law 678 = .ok (.iadd, 1) := by decide +kernel
theorem dL_law_679 : decode cL_law 679 = .ok (.iaload, 1) := by decide +kernel
theorem dL_law_680 : decode cL_law 680 = .ok (.aload_n 0, 1) := by decide +kernel
theorem dL_law_681 : decode cL_law 681 = .ok (.iload_n 3, 1) := by decide +kernel
theorem dL_law_682 : decode cL_law 682 = .ok (.iconst 2, 1) := by decide +kernel
theorem dL_law_683 : decode cL_law 683 = .ok (.iadd, 1) := by decide +kernel
theorem dL_law_684 : decode cL_law 684 = .ok (.iaload, 1) := by decide +kernel
theorem dL_law_685 : decode cL_law 685 = .ok (.invokevirtual 62, 3) := by decide +kernel
theorem dL_law_688 : decode cL_law 688 = .ok (.pop, 1) := by decide +kernel
theorem dL_law_689 : decode cL_law 689 = .ok (.aload_n 2, 1) := by decide +kernel
theorem dL_law_690 : decode cL_law 690 = .ok (.aload_n 0, 1) := by decide +kernel
theorem dL_law_691 : decode cL_law 691 = .ok (.iload_n 3, 1) := by decide +kernel
theorem dL_law_692 : decode cL_law 692 = .ok (.iconst 1, 1) := by decide +kernel
theorem dL_law_693 : decode cL_law 693 = .ok (.iadd, 1) := by decide +kernel
theorem dL_law_694 : decode cL_law 694 = .ok (.iaload, 1) := by decide +kernel
theorem dL_law_695 : decode cL_law 695 = .ok (.aload_n 0, 1) := by decide +kernel
theorem dL_law_696 : decode cL_law 696 = .ok (.iload_n 3, 1) := by decide +kernel
theorem dL_law_697 : decode cL_law 697 = .ok (.iconst 2, 1) := by decide +kernel
theorem dL_law_698 : decode cL_law 698 = .ok (.iadd, 1) := by decide +kernel
theorem dL_law_699 : decode cL_law 699 = .ok (.iaload, 1) := by decide +kernel
theorem dL_law_700 : decode cL_law 700 = .ok (.invokevirtual 65, 3) := by decide +kernel
theorem dL_law_703 : decode cL_law 703 = .ok (.pop, 1) := by decide +kernel
theorem dL_law_704 : decode cL_law 704 = .ok (.goto 1103, 3) := by decide +kernel
theorem dL_law_707 : decode cL_law 707 = .ok (.aload_n 1, 1) := by decide +kernel
theorem dL_law_708 : decode cL_law 708 = .ok (.invokevirtual 66, 3) := by decide +kernel
theorem dL_law_711 : decode cL_law 711 = .ok (.pop, 1) := by decide +kernel
theorem dL_law_712 : decode cL_law 712 = .ok (.aload_n 2, 1) := by decide +kernel
theorem dL_law_713 : decode cL_law 713 = .ok (.invokevirtual 70, 3) := by decide +kernel
theorem dL_law_716 : decode cL_law 716 = .ok (.pop, 1) := by decide +kernel
theorem dL_law_717 : decode cL_law 717 = .ok (.goto 1090, 3) := by decide +kernel
theorem dL_law_720 : decode cL_law 720 = .ok (.aload_n 1, 1) := by decide +kernel
theorem dL_law_721 : decode cL_law 721 = .ok (.invokevirtual 71, 3) := by decide +kernel
theorem dL_law_724 : decode cL_law 724 = .ok (.pop, 1) := by decide +kernel
theorem dL_law_725 : decode cL_law 725 = .ok (.aload_n 2, 1) := by decide +kernel
theorem dL_law_726 : decode cL_law 726 = .ok (.invokevirtual 74, 3) := by decide +kernel
theorem dL_law_729 : decode cL_law 729 = .ok (.pop, 1) := by decide +kernel
theorem dL_law_730 : decode cL_law 730 = .ok (.goto 1077, 3) := by decide +kernel
theorem dL_law_733 : decode cL_law 733 = .ok (.aload_n 1, 1) := by decide +kernel
theorem dL_law_734 : decode cL_law 734 = .ok (.aload_n 0, 1) := by decide +kernel
theorem dL_law_735 : decode cL_law 735 = .ok (.iload_n 3, 1) := by decide +kernel
theorem dL_law_736 : decode cL_law 736 = .ok (.iconst 1, 1) := by decide +kernel
theorem dL_law_737 : decode cL_law 737 = .ok (.iadd, 1) := by decide +kernel
theorem dL_law_738 : decode cL_law 738 = .ok (.iaload, 1) := by decide +kernel
theorem dL_law_739 : decode cL_law 739 = .ok (.aload_n 0, 1) := by decide +kernel
theorem dL_law_740 : decode cL_law 740 = .ok (.iload_n 3, 1) := by decide +kernel
theorem dL_law_741 : decode cL_law 741 = .ok (.iconst 2, 1) := by decide +kernel
theorem dL_law_742 : decode cL_law 742 = .ok (.iadd, 1) := by decide +kernel
theorem dL_law_743 : decode cL_law 743 = .ok (.iaload, 1) := by decide +kernel
theorem dL_law_744 : decode cL_law 744 = .ok (.invokevirtual 75, 3) := by decide +kernel
theorem dL_law_747 : decode cL_law 747 = .ok (.pop, 1) := by decide +kernel
theorem dL_law_748 : decode cL_law 748 = .ok (.aload_n 2, 1) := by decide +kernel
theorem dL_law_749 : decode cL_law 749 = .ok (.aload_n 0, 1) := by decide +kernel
theorem dL_law_750 : decode cL_law 750 = .ok (.iload_n 3, 1) := by decide +kernel
theorem dL_law_751 : decode cL_law 751 = .ok (.iconst 1, 1) := by decide +kernel
theorem dL_law_752 : decode cL_law 752 = .ok (.iadd, 1) := by decide +kernel
theorem dL_law_753 : decode cL_law 753 = .ok (.iaload, 1) := by decide +kernel
theorem dL_law_754 : decode cL_law 754 = .ok (.aload_n 0, 1) := by decide +kernel
theorem dL_law_755 : decode cL_law 755 = .ok (.iload_n 3, 1) := by decide +kernel
theorem dL_law_756 : decode cL_law 756 = .ok (.iconst 2, 1) := by decide +kernel
theorem dL_law_757 : decode cL_law 757 = .ok (.iadd, 1) := by decide +kernel
theorem dL_law_758 : decode cL_law 758 = .ok (.iaload, 1) := by decide +kernel
theorem dL_law_759 : decode cL_law 759 = .ok (.invokevirtual 78, 3) := by decide +kernel
theorem dL_law_762 : decode cL_law 762 = .ok (.pop, 1) := by decide +kernel
theorem dL_law_763 : decode cL_law 763 = .ok (.goto 1044, 3) := by decide +kernel
theorem dL_law_766 : decode cL_law 766 = .ok (.aload_n 1, 1) := by decide +kernel
theorem dL_law_767 : decode cL_law 767 = .ok (.aload_n 0, 1) := by decide +kernel
theorem dL_law_768 : decode cL_law 768 = .ok (.iload_n 3, 1) := by decide +kernel
theorem dL_law_769 : decode cL_law 769 = .ok (.iconst 1, 1) := by decide +kernel
theorem dL_law_770 : decode cL_law 770 = .ok (.iadd, 1) := by decide +kernel
theorem dL_law_771 : decode cL_law 771 = .ok (.iaload, 1) := by decide +kernel
theorem dL_law_772 : decode cL_law 772 = .ok (.aload_n 0, 1) := by decide +kernel
theorem dL_law_773 : decode cL_law 773 = .ok (.iload_n 3, 1) := by decide +kernel
theorem dL_law_774 : decode cL_law 774 = .ok (.iconst 2, 1) := by decide +kernel
theorem dL_law_775 : decode cL_law 775 = .ok (.iadd, 1) := by decide +kernel
theorem dL_law_776 : decode cL_law 776 = .ok (.iaload, 1) := by decide +kernel
theorem dL_law_777 : decode cL_law 777 = .ok (.invokevirtual 79, 3) := by decide +kernel
theorem dL_law_780 : decode cL_law 780 = .ok (.pop, 1) := by decide +kernel
theorem dL_law_781 : decode cL_law 781 = .ok (.aload_n 2, 1) := by decide +kernel
theorem dL_law_782 : decode cL_law 782 = .ok (.aload_n 0, 1) := by decide +kernel
theorem dL_law_783 : decode cL_law 783 = .ok (.iload_n 3, 1) := by decide +kernel
theorem dL_law_784 : decode cL_law 784 = .ok (.iconst 1, 1) := by decide +kernel
theorem dL_law_785 : decode cL_law 785 = .ok (.iadd, 1) := by decide +kernel
theorem dL_law_786 : decode cL_law 786 = .ok (.iaload, 1) := by decide +kernel
theorem dL_law_787 : decode cL_law 787 = .ok (.aload_n 0, 1) := by decide +kernel
theorem dL_law_788 : decode cL_law 788 = .ok (.iload_n 3, 1) := by decide +kernel
theorem dL_law_789 : decode cL_law 789 = .ok (.iconst 2, 1) := by decide +kernel
theorem dL_law_790 : decode cL_law 790 = .ok (.iadd, 1) := by decide +kernel
theorem dL_law_791 : decode cL_law 791 = .ok (.iaload, 1) := by decide +kernel
theorem dL_law_792 : decode cL_law 792 = .ok (.invokevirtual 82, 3) := by decide +kernel
theorem dL_law_795 : decode cL_law 795 = .ok (.pop, 1) := by decide +kernel
theorem dL_law_796 : decode cL_law 796 = .ok (.goto 1011, 3) := by decide +kernel
theorem dL_law_799 : decode cL_law 799 = .ok (.aload_n 1, 1) := by decide +kernel
theorem dL_law_800 : decode cL_law 800 = .ok (.aload_n 0, 1) := by decide +kernel
theorem dL_law_801 : decode cL_law 801 = .ok (.iload_n 3, 1) := by decide +kernel
theorem dL_law_802 : decode cL_law 802 = .ok (.iconst 1, 1) := by decide +kernel
theorem dL_law_803 : decode cL_law 803 = .ok (.iadd, 1) := by decide +kernel
theorem dL_law_804 : decode cL_law 804 = .ok (.iaload, 1) := by decide +kernel
theorem dL_law_805 : decode cL_law 805 = .ok (.aload_n 0, 1) := by decide +kernel
theorem dL_law_806 : decode cL_law 806 = .ok (.iload_n 3, 1) := by decide +kernel
theorem dL_law_807 : decode cL_law 807 = .ok (.iconst 2, 1) := by decide +kernel
theorem dL_law_808 : decode cL_law 808 = .ok (.iadd, 1) := by decide +kernel
theorem dL_law_809 : decode cL_law 809 = .ok (.iaload, 1) := by decide +kernel
theorem dL_law_810 : decode cL_law 810 = .ok (.invokevirtual 83, 3) := by decide +kernel
theorem dL_law_813 : decode cL_law 813 = .ok (.pop, 1) := by decide +kernel
theorem dL_law_814 : decode cL_law 814 = .ok (.aload_n 2, 1) := by decide +kernel
theorem dL_law_815 : decode cL_law 815 = .ok (.aload_n 0, 1) := by decide +kernel
theorem dL_law_816 : decode cL_law 816 = .ok (.iload_n 3, 1) := by decide +kernel
theorem dL_law_817 : decode cL_law 817 = .ok (.iconst 1, 1) := by decide +kernel
theorem dL_law_818 : decode cL_law 818 = .ok (.iadd, 1) := by decide +kernel
theorem dL_law_819 : decode cL_law 819 = .ok (.iaload, 1) := by decide +kernel
theorem dL_law_820 : decode cL_law 820 = .ok (.aload_n 0, 1) := by decide +kernel
theorem dL_law_821 : decode cL_law 821 = .ok (.iload_n 3, 1) := by decide +kernel
theorem dL_law_822 : decode cL_law 822 = .ok (.iconst 2, 1) := by decide +kernel
theorem dL_law_823 : decode cL_law 823 = .ok (.iadd, 1) := by decide +kernel
theorem dL_law_824 : decode cL_law 824 = .ok (.iaload, 1) := by decide +kernel
theorem dL_law_825 : decode cL_law 825 = .ok (.invokevirtual 86, 3) := by decide +kernel
theorem dL_law_828 : decode cL_law 828 = .ok (.pop, 1) := by decide +kernel
theorem dL_law_829 : decode cL_law 829 = .ok (.goto 978, 3) := by decide +kernel
theorem dL_law_832 : decode cL_law 832 = .ok (.aload_n 1, 1) := by decide +kernel
theorem dL_law_833 : decode cL_law 833 = .ok (.aload_n 0, 1) := by decide +kernel
theorem dL_law_834 : decode cL_law 834 = .ok (.iload_n 3, 1) := by decide +kernel
theorem dL_law_835 : decode cL_law 835 = .ok (.iconst 1, 1) := by decide +kernel
theorem dL_law_836 : decode cL_law 836 = .ok (.iadd, 1) := by decide +kernel
theorem dL_law_837 : decode cL_law 837 = .ok (.iaload, 1) := by decide +kernel
theorem dL_law_838 : decode cL_law 838 = .ok (.aload_n 0, 1) := by decide +kernel
theorem dL_law_839 : decode cL_law 839 = .ok (.iload_n 3, 1) := by decide +kernel
theorem dL_law_840 : decode cL_law 840 = .ok (.iconst 2, 1) := by decide +kernel
theorem dL_law_841 : decode cL_law 841 = .ok (.iadd, 1) := by decide +kernel
theorem dL_law_842 : decode cL_law 842 = .ok (.iaload, 1) := by decide +kernel
theorem dL_law_843 : decode cL_law 843 = .ok (.aload_n 0, 1) := by decide +kernel
theorem dL_law_844 : decode cL_law 844 = .ok (.iload_n 3, 1) := by decide +kernel
theorem dL_law_845 : decode cL_law 845 = .ok (.iconst 3, 1) := by decide +kernel
theorem dL_law_846 : decode cL_law 846 = .ok (.iadd, 1) := by decide +kernel
theorem dL_law_847 : decode cL_law 847 = .ok (.iaload, 1) := by decide +kernel
theorem dL_law_848 : decode cL_law 848 = .ok (.invokevirtual 87, 3) := by decide +kernel
theorem dL_law_851 : decode cL_law 851 = .ok (.pop, 1) := by decide +kernel
theorem dL_law_852 : decode cL_law 852 = .ok (.aload_n 2, 1) := by decide +kernel
theorem dL_law_853 : decode cL_law 853 = .ok (.aload_n 0, 1) := by decide +kernel
theorem dL_law_854 : decode cL_law 854 = .ok (.iload_n 3, 1) := by decide +kernel
theorem dL_law_855 : decode cL_law 855 = .ok (.iconst 1, 1) := by decide +kernel
theorem dL_law_856 : decode cL_law 856 = .ok (.iadd, 1) := by decide +kernel
theorem dL_law_857 : decode cL_law 857 = .ok (.iaload, 1) := by decide +kernel
theorem dL_law_858 : decode cL_law 858 = .ok (.aload_n 0, 1) := by decide +kernel
theorem dL_law_859 : decode cL_law 859 = .ok (.iload_n 3, 1) := by decide +kernel
theorem dL_law_860 : decode cL_law 860 = .ok (.iconst 2, 1) := by decide +kernel
theorem dL_law_861 : decode cL_law 861 = .ok (.iadd, 1) := by decide +kernel
theorem dL_law_862 : decode cL_law 862 = .ok (.iaload, 1) := by decide +kernel
theorem dL_law_863 : decode cL_law 863 = .ok (.aload_n 0, 1) := by decide +kernel
theorem dL_law_864 : decode cL_law 864 = .ok (.iload_n 3, 1) := by decide +kernel
theorem dL_law_865 : decode cL_law 865 = .ok (.iconst 3, 1) := by decide +kernel
theorem dL_law_866 : decode cL_law 866 = .ok (.iadd, 1) := by decide +kernel
theorem dL_law_867 : decode cL_law 867 = .ok (.iaload, 1) := by decide +kernel
theorem dL_law_868 : decode cL_law 868 = .ok (.invokevirtual 90, 3) := by decide +kernel
theorem dL_law_871 : decode cL_law 871 = .ok (.pop, 1) := by decide +kernel
theorem dL_law_872 : decode cL_law 872 = .ok (.goto 935, 3) := by decide +kernel
theorem dL_law_875 : decode cL_law 875 = .ok (.aload_n 1, 1) := by decide +kernel
theorem dL_law_876 : decode cL_law 876 = .ok (.aload_n 0, 1) := by decide +kernel
theorem dL_law_877 : decode cL_law 877 = .ok (.iload_n 3, 1) := by decide +kernel
theorem dL_law_878 : decode cL_law 878 = .ok (.iconst 1, 1) := by decide +kernel
theorem dL_law_879 : decode cL_law 879 = .ok (.iadd, 1) := by decide +kernel
theorem dL_law_880 : decode cL_law 880 = .ok (.iaload, 1) := by decide +kernel
theorem dL_law_881 : decode cL_law 881 = .ok (.aload_n 0, 1) := by decide +kernel
theorem dL_law_882 : decode cL_law 882 = .ok (.iload_n 3, 1) := by decide +kernel
theorem dL_law_883 : decode cL_law 883 = .ok (.iconst 2, 1) := by decide +kernel
theorem dL_law_884 : decode cL_law 884 = .ok (.iadd, 1) := by decide +kernel
theorem dL_law_885 : decode cL_law 885 = .ok (.iaload, 1) := by decide +kernel
theorem dL_law_886 : decode cL_law 886 = .ok (.invokevirtual 91, 3) := by decide +kernel
theorem dL_law_889 : decode cL_law 889 = .ok (.pop, 1) := by decide +kernel
theorem dL_law_890 : decode cL_law 890 = .ok (.aload_n 2, 1) := by decide +kernel
theorem dL_law_891 : decode cL_law 891 = .ok (.aload_n 0, 1) := by decide +kernel
theorem dL_law_892 : decode cL_law 892 = .ok (.iload_n 3, 1) := by decide +kernel
theorem dL_law_893 : decode cL_law 893 = .ok (.iconst 1, 1) := by decide +kernel
theorem dL_law_894 : decode cL_law 894 = .ok (.iadd, 1) := by decide +kernel
theorem dL_law_895 : decode cL_law 895 = .ok (.iaload, 1) := by decide +kernel
theorem dL_law_896 : decode cL_law 896 = .ok (.aload_n 0, 1) := by decide +kernel
theorem dL_law_897 : decode cL_law 897 = .ok (.iload_n 3, 1) := by decide +kernel
theorem dL_law_898 : decode cL_law 898 = .ok (.iconst 2, 1) := by decide +kernel
theorem dL_law_899 : decode cL_law 899 = .ok (.iadd, 1) := by decide +kernel
theorem dL_law_900 : decode cL_law 900 = .ok (.iaload, 1) := by decide +kernel
theorem dL_law_901 : decode cL_law 901 = .ok (.invokevirtual 94, 3) := by decide +kernel
theorem dL_law_904 : decode cL_law 904 = .ok (.pop, 1) := by decide +kernel
theorem dL_law_905 : decode cL_law 905 = .ok (.goto 902, 3) := by decide +kernel
theorem dL_law_908 : decode cL_law 908 = .ok (.aload_n 1, 1) := by decide +kernel
theorem dL_law_909 : decode cL_law 909 = .ok (.aload_n 0, 1) := by decide +kernel
theorem dL_law_910 : decode cL_law 910 = .ok (.iload_n 3, 1) := by decide +kernel
theorem dL_law_911 : decode cL_law 911 = .ok (.iconst 1, 1) := by decide +kernel
theorem dL_law_912 : decode cL_law 912 = .ok (.iadd, 1) := by decide +kernel
theorem dL_law_913 : decode cL_law 913 = .ok (.iaload, 1) := by decide +kernel
theorem dL_law_914 : decode cL_law 914 = .ok (.aload_n 0, 1) := by decide +kernel
theorem dL_law_915 : decode cL_law 915 = .ok (.iload_n 3, 1) := by decide +kernel
theorem dL_law_916 : decode cL_law 916 = .ok (.iconst 2, 1) := by decide +kernel
theorem dL_law_917 : decode cL_law 917 = .ok (.iadd, 1) := by decide +kernel
theorem dL_law_918 : decode cL_law 918 = .ok (.iaload, 1) := by decide +kernel
theorem dL_law_919 : decode cL_law 919 = .ok (.invokevirtual 95, 3) := by decide +kernel
theorem dL_law_922 : decode cL_law 922 = .ok (.pop, 1) := by decide +kernel
theorem dL_law_923 : decode cL_law 923 = .ok (.aload_n 2, 1) := by decide +kernel
theorem dL_law_924 : decode cL_law 924 = .ok (.aload_n 0, 1) := by decide +kernel
theorem dL_law_925 : decode cL_law 925 = .ok (.iload_n 3, 1) := by decide +kernel
theorem dL_law_926 : decode cL_law 926 = .ok (.iconst 1, 1) := by decide +kernel
theorem dL_law_927 : decode cL_law 927 = .ok (.iadd, 1) := by decide +kernel
theorem dL_law_928 : decode cL_law 928 = .ok (.iaload, 1) := by decide +kernel
theorem dL_law_929 : decode cL_law 929 = .ok (.aload_n 0, 1) := by decide +kernel
theorem dL_law_930 : decode cL_law 930 = .ok (.iload_n 3, 1) := by decide +kernel
theorem dL_law_931 : decode cL_law 931 = .ok (.iconst 2, 1) := by decide +kernel
theorem dL_law_932 : decode cL_law 932 = .ok (.iadd, 1) := by decide +kernel
theorem dL_law_933 : decode cL_law 933 = .ok (.iaload, 1) := by decide +kernel
theorem dL_law_934 : decode cL_law 934 = .ok (.invokevirtual 98, 3) := by decide +kernel
theorem dL_law_937 : decode cL_law 937 = .ok (.pop, 1) := by decide +kernel
theorem dL_law_938 : decode cL_law 938 = .ok (.goto 869, 3) := by decide +kernel
theorem dL_law_941 : decode cL_law 941 = .ok (.aload_n 1, 1) := by decide +kernel
theorem dL_law_942 : decode cL_law 942 = .ok (.aload_n 0, 1) := by decide +kernel
theorem dL_law_943 : decode cL_law 943 = .ok (.iload_n 3, 1) := by decide +kernel
theorem dL_law_944 : decode cL_law 944 = .ok (.iconst 1, 1) := by decide +kernel
theorem dL_law_945 : decode cL_law 945 = .ok (.iadd, 1) := by decide +kernel
theorem dL_law_946 : decode cL_law 946 = .ok (.iaload, 1) := by decide +kernel
theorem dL_law_947 : decode cL_law 947 = .ok (.aload_n 0, 1) := by decide +kernel
theorem dL_law_948 : decode cL_law 948 = .ok (.iload_n 3, 1) := by decide +kernel
theorem dL_law_949 : decode cL_law 949 = .ok (.iconst 2, 1) := by decide +kernel
theorem dL_law_950 : decode cL_law 950 = .ok (.iadd, 1) := by decide +kernel
theorem dL_law_951 : decode cL_law 951 = .ok (.iaload, 1) := by decide +kernel
theorem dL_law_952 : decode cL_law 952 = .ok (.invokevirtual 99, 3) := by decide +kernel
theorem dL_law_955 : decode cL_law 955 = .ok (.pop, 1) := by decide +kernel
theorem dL_law_956 : decode cL_law 956 = .ok (.aload_n 2, 1) := by decide +kernel
theorem dL_law_957 : decode cL_law 957 = .ok (.aload_n 0, 1) := by decide +kernel
theorem dL_law_958 : decode cL_law 958 = .ok (.iload_n 3, 1) := by decide +kernel
theorem dL_law_959 : decode cL_law 959 = .ok (.iconst 1, 1) := by decide +kernel
theorem dL_law_960 : decode cL_law 960 = .ok (.iadd, 1) := by decide +kernel
theorem dL_law_961 : decode cL_law 961 = .ok (.iaload, 1) := by decide +kernel
theorem dL_law_962 : decode cL_law 962 = .ok (.aload_n 0, 1) := by decide +kernel
theorem dL_law_963 : decode cL_law 963 = .ok (.iload_n 3, 1) := by decide +kernel
theorem dL_law_964 : decode cL_law 964 = .ok (.iconst 2, 1) := by decide +kernel
theorem dL_law_965 : decode cL_law 965 = .ok (.iadd, 1) := by decide +kernel
theorem dL_law_966 : decode cL_law 966 = .ok (.iaload, 1) := by decide +kernel
theorem dL_law_967 : decode cL_law 967 = .ok (.invokevirtual 102, 3) := by decide +kernel
theorem dL_law_970 : decode cL_law 970 = .ok (.pop, 1) := by decide +kernel
theorem dL_law_971 : decode cL_law 971 = .ok (.goto 836, 3) := by decide +kernel
set_option maxHeartbeats 4000000 in
set_option maxRecDepth 100000 in
theorem law_10 {p : Program} {l : Launch} {e : Env} {s : State} {m : MethodId} {below : List Frame} {meth : Method} {c : Code} {b L : Nat} {xs : Nat → Int32} {A : Nat → Prop} {G : va_G} {cy : Nat → ClassId} {aX aM rR rB rO rK : Nat → Nat} (hx : p.tables.exec = Jvm.exec) (hb : c.code = code) (hr : meth.sig.returnType = ret) (hml : c.maxLocals = 4) (hown : s.vm.findClass RL = some m.cls) (hts : ∀ w ∈ BIG, w.before #[Value.ref b] s = true) (hX : va_X b L xs s s.heap) (hbl : b < s.heap.size) (hlocks : meth.locks = false) (hN : KN G cy s) (hA : ∀ q : Nat, s.heap.size ≤ q → A q) (hAn : ∀ q : Nat, A q → s.heap.size ≤ q) (hbA : ¬ A b) (hSO : SO A s s.heap) {H : Heap} {locs : List Loc} {ls : Array Slot} {kI nC nS : Nat} (hkI : kI + 6 ≤ L) (hL : L ≤ 384) (hnC : nC + 250 ≤ 600000) (hnS : nS + 4440 ≤ 7302250) (hI : LINV G cy A H aX aM rR rB rO rK) (hS : va_S A s.heap H locs) (hl : lv_has ls 4 [(3, .int (nI kI)), (2, .ref (aM 0)), (1, .ref (aX 0)), (0, .ref b)]) (kk : ∀ (H : Heap) (locs : List Loc), LINV G cy A H aX aM rR rB rO rK → va_S A s.heap H locs → W p l e room_1 s m #[Value.ref b] below meth c H locs (nC + 250) (nS + 4440) (lw_Z below #[Value.ref b] s) (F0 m 1807 ls [])) : W p l e room_1 s m #[Value.ref b] below meth c H locs nC nS (lw_Z below #[Value.ref b] s) (F0 m 674 ls []) := by
  obtain ⟨iKp, iYe, iTv, fR, tA, tB, iL, iBs, tU, tV, fH, fS, fA, gE, kZ, iT1, iT2, iT3, iT4, fB, tD, fMh, fMo, fMz, gMv, fMk, fMa, fMt, kY, fMr, fM3, fMu, fMy, fMb, eR, tM, iEn, iTk, uP, uU, kAt, iTo, iFr, JFi, iFa, iSt, iLv, iWs, wL, uS0, uS1, uS2, uS3, uS4, iOm, hP, hD, hsX, hsM, hLR⟩ := hI
  refine lv_aload_n hx hb dL_law_674 rfl (lv_at hl 2 rfl) ?_
  refine lv_aload_n hx hb dL_law_675 rfl (lv_at hl 3 rfl) ?_
  refine lv_iload_n hx hb dL_law_676 rfl (lv_at hl 0 rfl) ?_
  refine lv_iconst (v := 1) hx hb dL_law_677 (by decide) ?_
  refine lv_iadd hx hb dL_law_678 ?_
  refine lv_seti (v := nI (kI + 1)) (nI_add _ _) ?_
  refine va_sld hx hb hX hbl hbA hS (vp_in_nI (by omega) (by omega)) dL_law_679 ?_
  refine lv_seti (v := xs (kI + 1)) (congrArg xs (nI_clamp (by omega))) ?_
  refine lv_aload_n hx hb dL_law_680 rfl (lv_at hl 3 rfl) ?_
  refine lv_iload_n hx hb dL_law_681 rfl (lv_at hl 0 rfl) ?_
  refine lv_iconst (v := 2) hx hb dL_law_682 (by decide) ?_
  refine lv_iadd hx hb dL_law_683 ?_
  refine lv_seti (v := nI (kI + 2)) (nI_add _ _) ?_
  refine va_sld hx hb hX hbl hbA hS (vp_in_nI (by omega) (by omega)) dL_law_684 ?_
  refine lv_seti (v := xs (kI + 2)) (congrArg xs (nI_clamp (by omega))) ?_
  refine cViQ (As := [.int (xs (kI + 1)), .int (xs (kI + 2))]) (rest := []) (b := (aX 0)) (q := (RX5, TX5, 9)) ⟨hx, hb, hml, hown, hts⟩ (p_X5_feed l G cy (H).size (aX 0) (aX 2) (aX 11) (aX 20) (aX 39) (aX 44) (aX 1) iKp iYe iTv fR (aX 45) kZ iT1 iT2 iT3 iT4 (aX 46) fB (xs (kI + 1)) (xs (kI + 2)) hsX.2.2.2.2) L_L_62 hN hP hD hS hA [0, 1, 44, 45] [false, false, true, true, true, true, true, true, true, true, true, true, true, true, true, true, true, true, true, true, true, true, true, true, true, true, true, true, true, true, true, true, true, true, true, true, true, true, true, true, true, true, true, true, false, false, true, true, true, true, true, true, true, true, true] rfl (by decide +kernel) rfl 0 4 rfl rfl rfl ⟨Nat.le_of_ble_eq_true rfl, Nat.le_of_ble_eq_true rfl⟩ hl.1 (Nat.le_of_ble_eq_true rfl) dL_law_685 ⟨by show nC + 0 ≤ 600000; omega, by show nS + 0 ≤ 7302250; omega⟩ (fun r_1 u_3 H locs h_2 => ?_)
  clear hP hD hS
  intro hP hD hS
  obtain ⟨fX_4, kY_5, iX_6, iX_7, iX_8, iX_9, fV_10, rfl, h_11, h_2⟩ := h_2
  replace hP : va_P G CL ((XW cy aX iKp iYe iTv fX_4 tA tB iL iBs tU tV fH fS fA gE kY_5 iX_6 iX_7 iX_8 iX_9 fV_10 tD) ++ ((MK cy aM rR rB rO rK fMh fMo fMz gMv fMk fMa fMt kY fMr fM3 fMu fMy fMb eR tM iEn iTk uP uU kAt iTo iFr JFi iFa iSt iLv iWs wL uS0 uS1 uS2 uS3 uS4 iOm) ++ ((oM cy uU) ++ ((oL cy wL) ++ ((oM cy uP) ++ (oM cy uS0 ++ (oM cy uS1 ++ (oM cy uS2 ++ (oM cy uS3 ++ oM cy uS4))))))))) H := hP.part [51, 52, 0, 1, 2, 3, 4, 5, 6, 7, 8, 9, 10, 11, 12, 13, 14, 15, 16, 17, 18, 19, 20, 21, 22, 23, 24, 25, 26, 27, 28, 29, 30, 31, 32, 33, 34, 35, 36, 37, 38, 39, 40, 41, 53, 54, 42, 43, 44, 45, 46, 47, 48, 49, 50] rfl
  replace hD : va_D A ((XW cy aX iKp iYe iTv fX_4 tA tB iL iBs tU tV fH fS fA gE kY_5 iX_6 iX_7 iX_8 iX_9 fV_10 tD) ++ ((MK cy aM rR rB rO rK fMh fMo fMz gMv fMk fMa fMt kY fMr fM3 fMu fMy fMb eR tM iEn iTk uP uU kAt iTo iFr JFi iFa iSt iLv iWs wL uS0 uS1 uS2 uS3 uS4 iOm) ++ ((oM cy uU) ++ ((oL cy wL) ++ ((oM cy uP) ++ (oM cy uS0 ++ (oM cy uS1 ++ (oM cy uS2 ++ (oM cy uS3 ++ oM cy uS4))))))))) := hD.part [51, 52, 0, 1, 2, 3, 4, 5, 6, 7, 8, 9, 10, 11, 12, 13, 14, 15, 16, 17, 18, 19, 20, 21, 22, 23, 24, 25, 26, 27, 28, 29, 30, 31, 32, 33, 34, 35, 36, 37, 38, 39, 40, 41, 53, 54, 42, 43, 44, 45, 46, 47, 48, 49, 50] (by decide +kernel) rfl
  refine lv_pop hx hb dL_law_688 rfl ?_
  refine lv_aload_n hx hb dL_law_689 rfl (lv_at hl 1 rfl) ?_
  refine lv_aload_n hx hb dL_law_690 rfl (lv_at hl 3 rfl) ?_
  refine lv_iload_n hx hb dL_law_691 rfl (lv_at hl 0 rfl) ?_
  refine lv_iconst (v := 1) hx hb dL_law_692 (by decide) ?_
  refine lv_iadd hx hb dL_law_693 ?_
  refine lv_seti (v := nI (kI + 1)) (nI_add _ _) ?_
  refine va_sld hx hb hX hbl hbA hS (vp_in_nI (by omega) (by omega)) dL_law_694 ?_
  refine lv_seti (v := xs (kI + 1)) (congrArg xs (nI_clamp (by omega))) ?_
  refine lv_aload_n hx hb dL_law_695 rfl (lv_at hl 3 rfl) ?_
  refine lv_iload_n hx hb dL_law_696 rfl (lv_at hl 0 rfl) ?_
  refine lv_iconst (v := 2) hx hb dL_law_697 (by decide) ?_
  refine lv_iadd hx hb dL_law_698 ?_
  refine lv_seti (v := nI (kI + 2)) (nI_add _ _) ?_
  refine va_sld hx hb hX hbl hbA hS (vp_in_nI (by omega) (by omega)) dL_law_699 ?_
  refine lv_seti (v := xs (kI + 2)) (congrArg xs (nI_clamp (by omega))) ?_
  replace hP : va_P G CL ((MK cy aM rR rB rO rK fMh fMo fMz gMv fMk fMa fMt kY fMr fM3 fMu fMy fMb eR tM iEn iTk uP uU kAt iTo iFr JFi iFa iSt iLv iWs wL uS0 uS1 uS2 uS3 uS4 iOm) ++ (((oM cy uU) ++ ((oL cy wL) ++ ((oM cy uP) ++ (oM cy uS0 ++ (oM cy uS1 ++ (oM cy uS2 ++ (oM cy uS3 ++ oM cy uS4))))))) ++ (XW cy aX iKp iYe iTv fX_4 tA tB iL iBs tU tV fH fS fA gE kY_5 iX_6 iX_7 iX_8 iX_9 fV_10 tD))) H := toNP hP
  replace hD : va_D A ((MK cy aM rR rB rO rK fMh fMo fMz gMv fMk fMa fMt kY fMr fM3 fMu fMy fMb eR tM iEn iTk uP uU kAt iTo iFr JFi iFa iSt iLv iWs wL uS0 uS1 uS2 uS3 uS4 iOm) ++ (((oM cy uU) ++ ((oL cy wL) ++ ((oM cy uP) ++ (oM cy uS0 ++ (oM cy uS1 ++ (oM cy uS2 ++ (oM cy uS3 ++ oM cy uS4))))))) ++ (XW cy aX iKp iYe iTv fX_4 tA tB iL iBs tU tV fH fS fA gE kY_5 iX_6 iX_7 iX_8 iX_9 fV_10 tD))) := toND hD
  refine cViQ (As := [.int (xs (kI + 1)), .int (xs (kI + 2))]) (rest := []) (b := (aM 0)) (q := (RX6, TX6, 35)) ⟨hx, hb, hml, hown, hts⟩ (p_X6_feed l G cy (H).size (aM 0) (aM 1) (aM 2) (aM 3) (aM 14) (aM 4) (aM 5) (aM 6) (aM 7) kY (aM 8) tM (aM 15) (aM 16) (aM 17) iEn iTk uP uU kAt iTo iFr JFi iFa (aM 9) iSt iLv iWs (ovL wL) (aM 10) (aM 11) (aM 12) (aM 13) iOm fMt fMr (xs (kI + 1)) (xs (kI + 2)) hsM.2.2.2.2) L_L_65 hN hP hD hS hA [0, 7, 8] [false, true, true, true, true, true, true, false, false, true, true, true, true, true, true, true, true, true, true, true, true, true, true, true, true, true, true, true, true, true, true, true, true, true, true, true, true, true, true, true, true, true, true, true, true, true, true, true, true, true] rfl (by decide +kernel) rfl 0 5 rfl rfl rfl ⟨Nat.le_of_ble_eq_true rfl, Nat.le_of_ble_eq_true rfl⟩ hl.1 (Nat.le_of_ble_eq_true rfl) dL_law_700 ⟨by show nC + 0 + 0 ≤ 600000; omega, by show nS + 0 + 0 ≤ 7302250; omega⟩ (fun r_12 u_14 H locs h_13 => ?_)
  clear hP hD hS
  intro hP hD hS
  obtain ⟨kNz_15, fNt_16, fNr_17, rfl, h_18, h_13⟩ := h_13
  replace hP : va_P G CL ((MK cy aM rR rB rO rK fMh fMo fMz gMv fMk fMa fNt_16 kNz_15 fNr_17 fM3 fMu fMy fMb eR tM iEn iTk uP uU kAt iTo iFr JFi iFa iSt iLv iWs wL uS0 uS1 uS2 uS3 uS4 iOm) ++ (((oM cy uU) ++ ((oL cy wL) ++ ((oM cy uP) ++ (oM cy uS0 ++ (oM cy uS1 ++ (oM cy uS2 ++ (oM cy uS3 ++ oM cy uS4))))))) ++ (XW cy aX iKp iYe iTv fX_4 tA tB iL iBs tU tV fH fS fA gE kY_5 iX_6 iX_7 iX_8 iX_9 fV_10 tD))) H := hP.part [47, 0, 1, 2, 3, 4, 5, 48, 49, 6, 7, 8, 9, 10, 11, 12, 13, 14, 15, 16, 17, 18, 19, 20, 21, 22, 23, 24, 25, 26, 27, 28, 29, 30, 31, 32, 33, 34, 35, 36, 37, 38, 39, 40, 41, 42, 43, 44, 45, 46] rfl
  replace hD : va_D A ((MK cy aM rR rB rO rK fMh fMo fMz gMv fMk fMa fNt_16 kNz_15 fNr_17 fM3 fMu fMy fMb eR tM iEn iTk uP uU kAt iTo iFr JFi iFa iSt iLv iWs wL uS0 uS1 uS2 uS3 uS4 iOm) ++ (((oM cy uU) ++ ((oL cy wL) ++ ((oM cy uP) ++ (oM cy uS0 ++ (oM cy uS1 ++ (oM cy uS2 ++ (oM cy uS3 ++ oM cy uS4))))))) ++ (XW cy aX iKp iYe iTv fX_4 tA tB iL iBs tU tV fH fS fA gE kY_5 iX_6 iX_7 iX_8 iX_9 fV_10 tD))) := hD.part [47, 0, 1, 2, 3, 4, 5, 48, 49, 6, 7, 8, 9, 10, 11, 12, 13, 14, 15, 16, 17, 18, 19, 20, 21, 22, 23, 24, 25, 26, 27, 28, 29, 30, 31, 32, 33, 34, 35, 36, 37, 38, 39, 40, 41, 42, 43, 44, 45, 46] (by decide +kernel) rfl
  replace hP : va_P G CL ((XW cy aX iKp iYe iTv fX_4 tA tB iL iBs tU tV fH fS fA gE kY_5 iX_6 iX_7 iX_8 iX_9 fV_10 tD) ++ ((MK cy aM rR rB rO rK fMh fMo fMz gMv fMk fMa fNt_16 kNz_15 fNr_17 fM3 fMu fMy fMb eR tM iEn iTk uP uU kAt iTo iFr JFi iFa iSt iLv iWs wL uS0 uS1 uS2 uS3 uS4 iOm) ++ ((oM cy uU) ++ ((oL cy wL) ++ ((oM cy uP) ++ (oM cy uS0 ++ (oM cy uS1 ++ (oM cy uS2 ++ (oM cy uS3 ++ oM cy uS4))))))))) H := ofNP hP
  replace hD : va_D A ((XW cy aX iKp iYe iTv fX_4 tA tB iL iBs tU tV fH fS fA gE kY_5 iX_6 iX_7 iX_8 iX_9 fV_10 tD) ++ ((MK cy aM rR rB rO rK fMh fMo fMz gMv fMk fMa fNt_16 kNz_15 fNr_17 fM3 fMu fMy fMb eR tM iEn iTk uP uU kAt iTo iFr JFi iFa iSt iLv iWs wL uS0 uS1 uS2 uS3 uS4 iOm) ++ ((oM cy uU) ++ ((oL cy wL) ++ ((oM cy uP) ++ (oM cy uS0 ++ (oM cy uS1 ++ (oM cy uS2 ++ (oM cy uS3 ++ oM cy uS4))))))))) := ofND hD
  refine lv_pop hx hb dL_law_703 rfl ?_
  refine lv_goto (tgt := 1807) hx hb dL_law_704 (by decide) ?_
  refine W.widen (k := nC + 250) (n := nS + 4440) (by omega) (by omega) ?_
  exact kk _ _ ⟨iKp, iYe, iTv, fX_4, tA, tB, iL, iBs, tU, tV, fH, fS, fA, gE, kY_5, iX_6, iX_7, iX_8, iX_9, fV_10, tD, fMh, fMo, fMz, gMv, fMk, fMa, fNt_16, kNz_15, fNr_17, fM3, fMu, fMy, fMb, eR, tM, iEn, iTk, uP, uU, kAt, iTo, iFr, JFi, iFa, iSt, iLv, iWs, wL, uS0, uS1, uS2, uS3, uS4, iOm, hP, hD, sx_z hsX (fd_le hsX.2.2.2.2 h_11), sm_z hsM (fd_le hsM.2.2.2.2 h_18), trivial⟩ hS
set_option maxHeartbeats 4000000 in
set_option maxRecDepth 100000 in
theorem law_11 {p : Program} {l : Launch} {e : Env} {s : State} {m : MethodId} {below : List Frame} {meth : Method} {c : Code} {b L : Nat} {xs : Nat → Int32} {A : Nat → Prop} {G : va_G} {cy : Nat → ClassId} {aX aM rR rB rO rK : Nat → Nat} (hx : p.tables.exec = Jvm.exec) (hb : c.code = code) (hr : meth.sig.returnType = ret) (hml : c.maxLocals = 4) (hown : s.vm.findClass RL = some m.cls) (hts : ∀ w ∈ BIG, w.before #[Value.ref b] s = true) (hX : va_X b L xs s s.heap) (hbl : b < s.heap.size) (hlocks : meth.locks = false) (hN : KN G cy s) (hA : ∀ q : Nat, s.heap.size ≤ q → A q) (hAn : ∀ q : Nat, A q → s.heap.size ≤ q) (hbA : ¬ A b) (hSO : SO A s s.heap) {H : Heap} {locs : List Loc} {ls : Array Slot} {kI nC nS : Nat} (hkI : kI + 6 ≤ L) (hL : L ≤ 384) (hnC : nC + 250 ≤ 600000) (hnS : nS + 4440 ≤ 7302250) (hI : LINV G cy A H aX aM rR rB rO rK) (hS : va_S A s.heap H locs) (hl : lv_has ls 4 [(3, .int (nI kI)), (2, .ref (aM 0)), (1, .ref (aX 0)), (0, .ref b)]) (kk : ∀ (H : Heap) (locs : List Loc), LINV G cy A H aX aM rR rB rO rK → va_S A s.heap H locs → W p l e room_1 s m #[Value.ref b] below meth c H locs (nC + 250) (nS + 4440) (lw_Z below #[Value.ref b] s) (F0 m 1807 ls [])) : W p l e room_1 s m #[Value.ref b] below meth c H locs nC nS (lw_Z below #[Value.ref b] s) (F0 m 707 ls []) := by
  obtain ⟨iKp, iYe, iTv, fR, tA, tB, iL, iBs, tU, tV, fH, fS, fA, gE, kZ, iT1, iT2, iT3, iT4, fB, tD, fMh, fMo, fMz, gMv, fMk, fMa, fMt, kY, fMr, fM3, fMu, fMy, fMb, eR, tM, iEn, iTk, uP, uU, kAt, iTo, iFr, JFi, iFa, iSt, iLv, iWs, wL, uS0, uS1, uS2, uS3, uS4, iOm, hP, hD, hsX, hsM, hLR⟩ := hI
  refine lv_aload_n hx hb dL_law_707 rfl (lv_at hl 2 rfl) ?_
  refine cViQ (As := []) (rest := []) (b := (aX 0)) (q := (RX5, TX5, 9)) ⟨hx, hb, hml, hown, hts⟩ (p_X5_wipe l G cy (H).size (aX 0) (aX 2) (aX 11) (aX 20) (aX 39) (aX 44) (aX 1) iKp iYe iTv (aX 45) kZ iT1 iT2 iT3 iT4 (aX 46) hsX.2.2.2.2) L_L_66 hN hP hD hS hA [0, 44] [false, true, true, true, true, true, true, true, true, true, true, true, true, true, true, true, true, true, true, true, true, true, true, true, true, true, true, true, true, true, true, true, true, true, true, true, true, true, true, true, true, true, true, true, false, true, true, true, true, true, true, true, true, true, true] rfl (by decide +kernel) rfl 0 4 rfl rfl rfl ⟨Nat.le_of_ble_eq_true rfl, Nat.le_of_ble_eq_true rfl⟩ hl.1 (Nat.le_of_ble_eq_true rfl) dL_law_708 ⟨by show nC + 0 ≤ 600000; omega, by show nS + 0 ≤ 7302250; omega⟩ (fun r_1 u_3 H locs h_2 => ?_)
  clear hP hD hS
  intro hP hD hS
  obtain ⟨kY_4, iX_5, iX_6, iX_7, iX_8, rfl, h_9, h_2⟩ := h_2
  replace hP : va_P G CL ((XW cy aX iKp iYe iTv fR tA tB iL iBs tU tV fH fS fA gE kY_4 iX_5 iX_6 iX_7 iX_8 fB tD) ++ ((MK cy aM rR rB rO rK fMh fMo fMz gMv fMk fMa fMt kY fMr fM3 fMu fMy fMb eR tM iEn iTk uP uU kAt iTo iFr JFi iFa iSt iLv iWs wL uS0 uS1 uS2 uS3 uS4 iOm) ++ ((oM cy uU) ++ ((oL cy wL) ++ ((oM cy uP) ++ (oM cy uS0 ++ (oM cy uS1 ++ (oM cy uS2 ++ (oM cy uS3 ++ oM cy uS4))))))))) H := hP.part [53, 0, 1, 2, 3, 4, 5, 6, 7, 8, 9, 10, 11, 12, 13, 14, 15, 16, 17, 18, 19, 20, 21, 22, 23, 24, 25, 26, 27, 28, 29, 30, 31, 32, 33, 34, 35, 36, 37, 38, 39, 40, 41, 42, 54, 43, 44, 45, 46, 47, 48, 49, 50, 51, 52] rfl
  replace hD : va_D A ((XW cy aX iKp iYe iTv fR tA tB iL iBs tU tV fH fS fA gE kY_4 iX_5 iX_6 iX_7 iX_8 fB tD) ++ ((MK cy aM rR rB rO rK fMh fMo fMz gMv fMk fMa fMt kY fMr fM3 fMu fMy fMb eR tM iEn iTk uP uU kAt iTo iFr JFi iFa iSt iLv iWs wL uS0 uS1 uS2 uS3 uS4 iOm) ++ ((oM cy uU) ++ ((oL cy wL) ++ ((oM cy uP) ++ (oM cy uS0 ++ (oM cy uS1 ++ (oM cy uS2 ++ (oM cy uS3 ++ oM cy uS4))))))))) := hD.part [53, 0, 1, 2, 3, 4, 5, 6, 7, 8, 9, 10, 11, 12, 13, 14, 15, 16, 17, 18, 19, 20, 21, 22, 23, 24, 25, 26, 27, 28, 29, 30, 31, 32, 33, 34, 35, 36, 37, 38, 39, 40, 41, 42, 54, 43, 44, 45, 46, 47, 48, 49, 50, 51, 52] (by decide +kernel) rfl
  refine lv_pop hx hb dL_law_711 rfl ?_
  refine lv_aload_n hx hb dL_law_712 rfl (lv_at hl 1 rfl) ?_
  replace hP : va_P G CL ((MK cy aM rR rB rO rK fMh fMo fMz gMv fMk fMa fMt kY fMr fM3 fMu fMy fMb eR tM iEn iTk uP uU kAt iTo iFr JFi iFa iSt iLv iWs wL uS0 uS1 uS2 uS3 uS4 iOm) ++ (((oM cy uU) ++ ((oL cy wL) ++ ((oM cy uP) ++ (oM cy uS0 ++ (oM cy uS1 ++ (oM cy uS2 ++ (oM cy uS3 ++ oM cy uS4))))))) ++ (XW cy aX iKp iYe iTv fR tA tB iL iBs tU tV fH fS fA gE kY_4 iX_5 iX_6 iX_7 iX_8 fB tD))) H := toNP hP
  replace hD : va_D A ((MK cy aM rR rB rO rK fMh fMo fMz gMv fMk fMa fMt kY fMr fM3 fMu fMy fMb eR tM iEn iTk uP uU kAt iTo iFr JFi iFa iSt iLv iWs wL uS0 uS1 uS2 uS3 uS4 iOm) ++ (((oM cy uU) ++ ((oL cy wL) ++ ((oM cy uP) ++ (oM cy uS0 ++ (oM cy uS1 ++ (oM cy uS2 ++ (oM cy uS3 ++ oM cy uS4))))))) ++ (XW cy aX iKp iYe iTv fR tA tB iL iBs tU tV fH fS fA gE kY_4 iX_5 iX_6 iX_7 iX_8 fB tD))) := toND hD
  refine cViQ (As := []) (rest := []) (b := (aM 0)) (q := (RX6, TX6, 35)) ⟨hx, hb, hml, hown, hts⟩ (p_X6_wipe l G cy (H).size (aM 0) (aM 1) (aM 2) (aM 3) (aM 14) (aM 4) (aM 5) (aM 6) (aM 7) kY (aM 8) tM (aM 15) (aM 16) (aM 17) iEn iTk uP uU kAt iTo iFr JFi iFa (aM 9) iSt iLv iWs (ovL wL) (aM 10) (aM 11) (aM 12) (aM 13) iOm) L_L_70 hN hP hD hS hA [0] [false, true, true, true, true, true, true, true, true, true, true, true, true, true, true, true, true, true, true, true, true, true, true, true, true, true, true, true, true, true, true, true, true, true, true, true, true, true, true, true, true, true, true, true, true, true, true, true, true, true] rfl (by decide +kernel) rfl 0 5 rfl rfl rfl ⟨Nat.le_of_ble_eq_true rfl, Nat.le_of_ble_eq_true rfl⟩ hl.1 (Nat.le_of_ble_eq_true rfl) dL_law_713 ⟨by show nC + 0 + 0 ≤ 600000; omega, by show nS + 0 + 0 ≤ 7302250; omega⟩ (fun r_10 u_12 H locs h_11 => ?_)
  clear hP hD hS
  intro hP hD hS
  obtain ⟨kNz_13, rfl, h_14, h_11⟩ := h_11
  replace hP : va_P G CL ((MK cy aM rR rB rO rK fMh fMo fMz gMv fMk fMa fMt kNz_13 fMr fM3 fMu fMy fMb eR tM iEn iTk uP uU kAt iTo iFr JFi iFa iSt iLv iWs wL uS0 uS1 uS2 uS3 uS4 iOm) ++ (((oM cy uU) ++ ((oL cy wL) ++ ((oM cy uP) ++ (oM cy uS0 ++ (oM cy uS1 ++ (oM cy uS2 ++ (oM cy uS3 ++ oM cy uS4))))))) ++ (XW cy aX iKp iYe iTv fR tA tB iL iBs tU tV fH fS fA gE kY_4 iX_5 iX_6 iX_7 iX_8 fB tD))) H := hP.part [49, 0, 1, 2, 3, 4, 5, 6, 7, 8, 9, 10, 11, 12, 13, 14, 15, 16, 17, 18, 19, 20, 21, 22, 23, 24, 25, 26, 27, 28, 29, 30, 31, 32, 33, 34, 35, 36, 37, 38, 39, 40, 41, 42, 43, 44, 45, 46, 47, 48] rfl
  replace hD : va_D A ((MK cy aM rR rB rO rK fMh fMo fMz gMv fMk fMa fMt kNz_13 fMr fM3 fMu fMy fMb eR tM iEn iTk uP uU kAt iTo iFr JFi iFa iSt iLv iWs wL uS0 uS1 uS2 uS3 uS4 iOm) ++ (((oM cy uU) ++ ((oL cy wL) ++ ((oM cy uP) ++ (oM cy uS0 ++ (oM cy uS1 ++ (oM cy uS2 ++ (oM cy uS3 ++ oM cy uS4))))))) ++ (XW cy aX iKp iYe iTv fR tA tB iL iBs tU tV fH fS fA gE kY_4 iX_5 iX_6 iX_7 iX_8 fB tD))) := hD.part [49, 0, 1, 2, 3, 4, 5, 6, 7, 8, 9, 10, 11, 12, 13, 14, 15, 16, 17, 18, 19, 20, 21, 22, 23, 24, 25, 26, 27, 28, 29, 30, 31, 32, 33, 34, 35, 36, 37, 38, 39, 40, 41, 42, 43, 44, 45, 46, 47, 48] (by decide +kernel) rfl
  replace hP : va_P G CL ((XW cy aX iKp iYe iTv fR tA tB iL iBs tU tV fH fS fA gE kY_4 iX_5 iX_6 iX_7 iX_8 fB tD) ++ ((MK cy aM rR rB rO rK fMh fMo fMz gMv fMk fMa fMt kNz_13 fMr fM3 fMu fMy fMb eR tM iEn iTk uP uU kAt iTo iFr JFi iFa iSt iLv iWs wL uS0 uS1 uS2 uS3 uS4 iOm) ++ ((oM cy uU) ++ ((oL cy wL) ++ ((oM cy uP) ++ (oM cy uS0 ++ (oM cy uS1 ++ (oM cy uS2 ++ (oM cy uS3 ++ oM cy uS4))))))))) H := ofNP hP
  replace hD : va_D A ((XW cy aX iKp iYe iTv fR tA tB iL iBs tU tV fH fS fA gE kY_4 iX_5 iX_6 iX_7 iX_8 fB tD) ++ ((MK cy aM rR rB rO rK fMh fMo fMz gMv fMk fMa fMt kNz_13 fMr fM3 fMu fMy fMb eR tM iEn iTk uP uU kAt iTo iFr JFi iFa iSt iLv iWs wL uS0 uS1 uS2 uS3 uS4 iOm) ++ ((oM cy uU) ++ ((oL cy wL) ++ ((oM cy uP) ++ (oM cy uS0 ++ (oM cy uS1 ++ (oM cy uS2 ++ (oM cy uS3 ++ oM cy uS4))))))))) := ofND hD
  refine lv_pop hx hb dL_law_716 rfl ?_
  refine lv_goto (tgt := 1807) hx hb dL_law_717 (by decide) ?_
  refine W.widen (k := nC + 250) (n := nS + 4440) (by omega) (by omega) ?_
  exact kk _ _ ⟨iKp, iYe, iTv, fR, tA, tB, iL, iBs, tU, tV, fH, fS, fA, gE, kY_4, iX_5, iX_6, iX_7, iX_8, fB, tD, fMh, fMo, fMz, gMv, fMk, fMa, fMt, kNz_13, fMr, fM3, fMu, fMy, fMb, eR, tM, iEn, iTk, uP, uU, kAt, iTo, iFr, JFi, iFa, iSt, iLv, iWs, wL, uS0, uS1, uS2, uS3, uS4, iOm, hP, hD, sx_z hsX (by rw [h_9.2]; omega), sm_z hsM (by rw [h_14.2]; omega), trivial⟩ hS
set_option maxHeartbeats 4000000 in
set_option maxRecDepth 100000 in
theorem law_12 {p : Program} {l : Launch} {e : Env} {s : State} {m : MethodId} {below : List Frame} {meth : Method} {c : Code} {b L : Nat} {xs : Nat → Int32} {A : Nat → Prop} {G : va_G} {cy : Nat → ClassId} {aX aM rR rB rO rK : Nat → Nat} (hx : p.tables.exec = Jvm.exec) (hb : c.code = code) (hr : meth.sig.returnType = ret) (hml : c.maxLocals = 4) (hown : s.vm.findClass RL = some m.cls) (hts : ∀ w ∈ BIG, w.before #[Value.ref b] s = true) (hX : va_X b L xs s s.heap) (hbl : b < s.heap.size) (hlocks : meth.locks = false) (hN : KN G cy s) (hA : ∀ q : Nat, s.heap.size ≤ q → A q) (hAn : ∀ q : Nat, A q → s.heap.size ≤ q) (hbA : ¬ A b) (hSO : SO A s s.heap) {H : Heap} {locs : List Loc} {ls : Array Slot} {kI nC nS : Nat} (hkI : kI + 6 ≤ L) (hL : L ≤ 384) (hnC : nC + 250 ≤ 600000) (hnS : nS + 4440 ≤ 7302250) (hI : LINV G cy A H aX aM rR rB rO rK) (hS : va_S A s.heap H locs) (hl : lv_has ls 4 [(3, .int (nI kI)), (2, .ref (aM 0)), (1, .ref (aX 0)), (0, .ref b)]) (kk : ∀ (H : Heap) (locs : List Loc), LINV G cy A H aX aM rR rB rO rK → va_S A s.heap H locs → W p l e room_1 s m #[Value.ref b] below meth c H locs (nC + 250) (nS + 4440) (lw_Z below #[Value.ref b] s) (F0 m 1807 ls [])) : W p l e room_1 s m #[Value.ref b] below meth c H locs nC nS (lw_Z below #[Value.ref b] s) (F0 m 720 ls []) := by
  obtain ⟨iKp, iYe, iTv, fR, tA, tB, iL, iBs, tU, tV, fH, fS, fA, gE, kZ, iT1, iT2, iT3, iT4, fB, tD, fMh, fMo, fMz, gMv, fMk, fMa, fMt, kY, fMr, fM3, fMu, fMy, fMb, eR, tM, iEn, iTk, uP, uU, kAt, iTo, iFr, JFi, iFa, iSt, iLv, iWs, wL, uS0, uS1, uS2, uS3, uS4, iOm, hP, hD, hsX, hsM, hLR⟩ := hI
  refine lv_aload_n hx hb dL_law_720 rfl (lv_at hl 2 rfl) ?_
  refine cVXiQ (As := []) (rest := []) (b := (aX 0)) (q := (RX5, TX5, 9)) ⟨hx, hb, hml, hown, hts⟩ (p_X5_town l G cy (H).size (aX 0) (aX 2) (aX 11) (aX 20) (aX 39) (aX 44) (aX 1) iKp iYe iTv fR tA (aX 3) (aX 4) (aX 5) (aX 6) (aX 7) (aX 8) (aX 9) (aX 10) (aX 45) kZ iT1 iT2 iT3 iT4 (aX 46) fB tD (aX 47) (aX 48) (aX 49) (aX 50) (aX 51) (aX 52) (aX 53) (aX 54) hsX.2.2.1 hsX.1.1 hsX.1.2 hsX.2.2.2.2) L_L_71 hN hP hD hS hA [0, 1, 2, 3, 4, 5, 6, 7, 8, 9, 10, 44, 45, 46, 47, 48, 49, 50, 51, 52, 53, 54] [false, false, false, false, false, false, false, false, false, false, false, true, true, true, true, true, true, true, true, true, true, true, true, true, true, true, true, true, true, true, true, true, true, true, true, true, true, true, true, true, true, true, true, true, false, false, false, false, false, false, false, false, false, false, false] rfl (by decide +kernel) rfl 0 4 rfl rfl SO_ok hSO rfl ⟨Nat.le_of_ble_eq_true rfl, Nat.le_of_ble_eq_true rfl⟩ hl.1 (Nat.le_of_ble_eq_true rfl) dL_law_721 ⟨by show nC + 0 ≤ 600000; omega, by show nS + 0 ≤ 7302250; omega⟩ (fun r_1 u_3 H locs h_2 => ?_)
  clear hP hD hS
  intro hP hD hS
  obtain ⟨fX_4, tN_5, kY_6, iX_7, iX_8, iX_9, iX_10, tO_11, rfl, h_12, h_2⟩ := h_2
  replace hP : va_P G CL ((XW cy aX iKp iYe iTv fX_4 tN_5 tB iL iBs tU tV fH fS fA gE kY_6 iX_7 iX_8 iX_9 iX_10 fB tO_11) ++ ((MK cy aM rR rB rO rK fMh fMo fMz gMv fMk fMa fMt kY fMr fM3 fMu fMy fMb eR tM iEn iTk uP uU kAt iTo iFr JFi iFa iSt iLv iWs wL uS0 uS1 uS2 uS3 uS4 iOm) ++ ((oM cy uU) ++ ((oL cy wL) ++ ((oM cy uP) ++ (oM cy uS0 ++ (oM cy uS1 ++ (oM cy uS2 ++ (oM cy uS3 ++ oM cy uS4))))))))) H := hP.part [33, 34, 35, 36, 37, 38, 39, 40, 41, 42, 43, 0, 1, 2, 3, 4, 5, 6, 7, 8, 9, 10, 11, 12, 13, 14, 15, 16, 17, 18, 19, 20, 21, 22, 23, 24, 25, 26, 27, 28, 29, 30, 31, 32, 44, 45, 46, 47, 48, 49, 50, 51, 52, 53, 54] rfl
  replace hD : va_D A ((XW cy aX iKp iYe iTv fX_4 tN_5 tB iL iBs tU tV fH fS fA gE kY_6 iX_7 iX_8 iX_9 iX_10 fB tO_11) ++ ((MK cy aM rR rB rO rK fMh fMo fMz gMv fMk fMa fMt kY fMr fM3 fMu fMy fMb eR tM iEn iTk uP uU kAt iTo iFr JFi iFa iSt iLv iWs wL uS0 uS1 uS2 uS3 uS4 iOm) ++ ((oM cy uU) ++ ((oL cy wL) ++ ((oM cy uP) ++ (oM cy uS0 ++ (oM cy uS1 ++ (oM cy uS2 ++ (oM cy uS3 ++ oM cy uS4))))))))) := hD.part [33, 34, 35, 36, 37, 38, 39, 40, 41, 42, 43, 0, 1, 2, 3, 4, 5, 6, 7, 8, 9, 10, 11, 12, 13, 14, 15, 16, 17, 18, 19, 20, 21, 22, 23, 24, 25, 26, 27, 28, 29, 30, 31, 32, 44, 45, 46, 47, 48, 49, 50, 51, 52, 53, 54] (by decide +kernel) rfl
  refine lv_pop hx hb dL_law_724 rfl ?_
  refine lv_aload_n hx hb dL_law_725 rfl (lv_at hl 1 rfl) ?_
  replace hP : va_P G CL (((MK cy aM rR rB rO rK fMh fMo fMz gMv fMk fMa fMt kY fMr fM3 fMu fMy fMb eR tM iEn iTk uP uU kAt iTo iFr JFi iFa iSt iLv iWs wL uS0 uS1 uS2 uS3 uS4 iOm) ++ (oM cy uU)) ++ (((oL cy wL) ++ ((oM cy uP) ++ (oM cy uS0 ++ (oM cy uS1 ++ (oM cy uS2 ++ (oM cy uS3 ++ oM cy uS4)))))) ++ (XW cy aX iKp iYe iTv fX_4 tN_5 tB iL iBs tU tV fH fS fA gE kY_6 iX_7 iX_8 iX_9 iX_10 fB tO_11))) H := toUP hP
  replace hD : va_D A (((MK cy aM rR rB rO rK fMh fMo fMz gMv fMk fMa fMt kY fMr fM3 fMu fMy fMb eR tM iEn iTk uP uU kAt iTo iFr JFi iFa iSt iLv iWs wL uS0 uS1 uS2 uS3 uS4 iOm) ++ (oM cy uU)) ++ (((oL cy wL) ++ ((oM cy uP) ++ (oM cy uS0 ++ (oM cy uS1 ++ (oM cy uS2 ++ (oM cy uS3 ++ oM cy uS4)))))) ++ (XW cy aX iKp iYe iTv fX_4 tN_5 tB iL iBs tU tV fH fS fA gE kY_6 iX_7 iX_8 iX_9 iX_10 fB tO_11))) := toUD hD
  refine cVXiPQ (As := []) (rest := []) (b := (aM 0)) (q := (RX6, TX6, 35)) ⟨hx, hb, hml, hown, hts⟩ (p_X6_town l G cy (H).size (aM 0) (aM 1) (aM 2) (aM 3) (aM 14) (aM 4) (aM 5) (aM 6) (aM 7) kY (aM 8) tM (aM 15) (aM 16) (aM 17) iEn iTk uP uU kAt iTo iFr JFi iFa (aM 9) iSt iLv iWs (ovL wL) (aM 10) (aM 11) (aM 12) (aM 13) iOm fMt fM3 fMr rB rO rK hsM.1.1.1 hsM.1.1.2 hsM.1 hsM.2.2.2.2) L_L_74 hN hP hD hS hA [0, 7, 9, 8, 23, 24, 25, 26, 27, 28, 29, 30, 31, 32, 33, 34, 35, 36, 37, 38, 39, 40, 41, 42, 43, 44, 45, 46, 47, 48, 49] [false, true, true, true, true, true, true, false, false, false, true, true, true, true, true, true, true, true, true, true, true, true, true, false, false, false, false, false, false, false, false, false, false, false, false, false, false, false, false, false, false, false, false, false, false, false, false, false, false, false] rfl (by decide +kernel) rfl 0 5 rfl rfl SO_ok hSO rfl ⟨Nat.le_of_ble_eq_true rfl, Nat.le_of_ble_eq_true rfl⟩ hl.1 (Nat.le_of_ble_eq_true rfl) dL_law_726 ⟨by show nC + 0 + 50 ≤ 600000; omega, by show nS + 0 + 888 ≤ 7302250; omega⟩ (fun r_13 u_15 H locs h_14 => ?_)
  clear hP hD hS
  intro hP hD hS
  obtain ⟨kNz_16, iNe_17, iNt_18, kNa_19, iNo_20, iNf_21, JN_22, iNq_23, iNs_24, fN_25, fNr_26, tN_27, uN_28, rfl, h_29, h_14⟩ := h_14
  replace hP := as1P hP
  replace hD := as1D hD
  replace hP : va_P G CL ((MK cy aM rR rB rO rK fMh fMo fMz gMv fMk fMa fMt kNz_16 fNr_26 fN_25 fMu fMy fMb eR tN_27 iNe_17 iNt_18 uP uN_28 kNa_19 iNo_20 iNf_21 JN_22 iNq_23 iNs_24 iLv iWs wL uS0 uS1 uS2 uS3 uS4 iOm) ++ ((oM cy uN_28) ++ (((oL cy wL) ++ ((oM cy uP) ++ (oM cy uS0 ++ (oM cy uS1 ++ (oM cy uS2 ++ (oM cy uS3 ++ oM cy uS4)))))) ++ (XW cy aX iKp iYe iTv fX_4 tN_5 tB iL iBs tU tV fH fS fA gE kY_6 iX_7 iX_8 iX_9 iX_10 fB tO_11)))) H := hP.part [19, 0, 1, 2, 3, 4, 5, 20, 22, 21, 6, 7, 8, 9, 10, 11, 12, 13, 14, 15, 16, 17, 18, 23, 24, 25, 26, 27, 28, 29, 30, 31, 32, 33, 34, 35, 36, 37, 38, 39, 40, 41, 42, 43, 44, 45, 46, 47, 48, 49] rfl
  replace hD : va_D A ((MK cy aM rR rB rO rK fMh fMo fMz gMv fMk fMa fMt kNz_16 fNr_26 fN_25 fMu fMy fMb eR tN_27 iNe_17 iNt_18 uP uN_28 kNa_19 iNo_20 iNf_21 JN_22 iNq_23 iNs_24 iLv iWs wL uS0 uS1 uS2 uS3 uS4 iOm) ++ ((oM cy uN_28) ++ (((oL cy wL) ++ ((oM cy uP) ++ (oM cy uS0 ++ (oM cy uS1 ++ (oM cy uS2 ++ (oM cy uS3 ++ oM cy uS4)))))) ++ (XW cy aX iKp iYe iTv fX_4 tN_5 tB iL iBs tU tV fH fS fA gE kY_6 iX_7 iX_8 iX_9 iX_10 fB tO_11)))) := hD.part [19, 0, 1, 2, 3, 4, 5, 20, 22, 21, 6, 7, 8, 9, 10, 11, 12, 13, 14, 15, 16, 17, 18, 23, 24, 25, 26, 27, 28, 29, 30, 31, 32, 33, 34, 35, 36, 37, 38, 39, 40, 41, 42, 43, 44, 45, 46, 47, 48, 49] (by decide +kernel) rfl
  replace hP : va_P G CL ((XW cy aX iKp iYe iTv fX_4 tN_5 tB iL iBs tU tV fH fS fA gE kY_6 iX_7 iX_8 iX_9 iX_10 fB tO_11) ++ ((MK cy aM rR rB rO rK fMh fMo fMz gMv fMk fMa fMt kNz_16 fNr_26 fN_25 fMu fMy fMb eR tN_27 iNe_17 iNt_18 uP uN_28 kNa_19 iNo_20 iNf_21 JN_22 iNq_23 iNs_24 iLv iWs wL uS0 uS1 uS2 uS3 uS4 iOm) ++ ((oM cy uN_28) ++ ((oL cy wL) ++ ((oM cy uP) ++ (oM cy uS0 ++ (oM cy uS1 ++ (oM cy uS2 ++ (oM cy uS3 ++ oM cy uS4))))))))) H := ofUP hP
  replace hD : va_D A ((XW cy aX iKp iYe iTv fX_4 tN_5 tB iL iBs tU tV fH fS fA gE kY_6 iX_7 iX_8 iX_9 iX_10 fB tO_11) ++ ((MK cy aM rR rB rO rK fMh fMo fMz gMv fMk fMa fMt kNz_16 fNr_26 fN_25 fMu fMy fMb eR tN_27 iNe_17 iNt_18 uP uN_28 kNa_19 iNo_20 iNf_21 JN_22 iNq_23 iNs_24 iLv iWs wL uS0 uS1 uS2 uS3 uS4 iOm) ++ ((oM cy uN_28) ++ ((oL cy wL) ++ ((oM cy uP) ++ (oM cy uS0 ++ (oM cy uS1 ++ (oM cy uS2 ++ (oM cy uS3 ++ oM cy uS4))))))))) := ofUD hD
  refine lv_pop hx hb dL_law_729 rfl ?_
  refine lv_goto (tgt := 1807) hx hb dL_law_730 (by decide) ?_
  refine W.widen (k := nC + 250) (n := nS + 4440) (by omega) (by omega) ?_
  exact kk _ _ ⟨iKp, iYe, iTv, fX_4, tN_5, tB, iL, iBs, tU, tV, fH, fS, fA, gE, kY_6, iX_7, iX_8, iX_9, iX_10, fB, tO_11, fMh, fMo, fMz, gMv, fMk, fMa, fMt, kNz_16, fNr_26, fN_25, fMu, fMy, fMb, eR, tN_27, iNe_17, iNt_18, uP, uN_28, kNa_19, iNo_20, iNf_21, JN_22, iNq_23, iNs_24, iLv, iWs, wL, uS0, uS1, uS2, uS3, uS4, iOm, hP, hD, sx_town hsX h_12, sm_town hsM h_29, trivial⟩ hS
set_option maxHeartbeats 4000000 in
set_option maxRecDepth 100000 in
theorem law_13 {p : Program} {l : Launch} {e : Env} {s : State} {m : MethodId} {below : List Frame} {meth : Method} {c : Code} {b L : Nat} {xs : Nat → Int32} {A : Nat → Prop} {G : va_G} {cy : Nat → ClassId} {aX aM rR rB rO rK : Nat → Nat} (hx : p.tables.exec = Jvm.exec) (hb : c.code = code) (hr : meth.sig.returnType = ret) (hml : c.maxLocals = 4) (hown : s.vm.findClass RL = some m.cls) (hts : ∀ w ∈ BIG, w.before #[Value.ref b] s = true) (hX : va_X b L xs s s.heap) (hbl : b < s.heap.size) (hlocks : meth.locks = false) (hN : KN G cy s) (hA : ∀ q : Nat, s.heap.size ≤ q → A q) (hAn : ∀ q : Nat, A q → s.heap.size ≤ q) (hbA : ¬ A b) (hSO : SO A s s.heap) {H : Heap} {locs : List Loc} {ls : Array Slot} {kI nC nS : Nat} (hkI : kI + 6 ≤ L) (hL : L ≤ 384) (hnC : nC + 250 ≤ 600000) (hnS : nS + 4440 ≤ 7302250) (hI : LINV G cy A H aX aM rR rB rO rK) (hS : va_S A s.heap H locs) (hl : lv_has ls 4 [(3, .int (nI kI)), (2, .ref (aM 0)), (1, .ref (aX 0)), (0, .ref b)]) (kk : ∀ (H : Heap) (locs : List Loc), LINV G cy A H aX aM rR rB rO rK → va_S A s.heap H locs → W p l e room_1 s m #[Value.ref b] below meth c H locs (nC + 250) (nS + 4440) (lw_Z below #[Value.ref b] s) (F0 m 1807 ls [])) : W p l e room_1 s m #[Value.ref b] below meth c H locs nC nS (lw_Z below #[Value.ref b] s) (F0 m 733 ls []) := by
  obtain ⟨iKp, iYe, iTv, fR, tA, tB, iL, iBs, tU, tV, fH, fS, fA, gE, kZ, iT1, iT2, iT3, iT4, fB, tD, fMh, fMo, fMz, gMv, fMk, fMa, fMt, kY, fMr, fM3, fMu, fMy, fMb, eR, tM, iEn, iTk, uP, uU, kAt, iTo, iFr, JFi, iFa, iSt, iLv, iWs, wL, uS0, uS1, uS2, uS3, uS4, iOm, hP, hD, hsX, hsM, hLR⟩ := hI
  refine lv_aload_n hx hb dL_law_733 rfl (lv_at hl 2 rfl) ?_
  refine lv_aload_n hx hb dL_law_734 rfl (lv_at hl 3 rfl) ?_
  refine lv_iload_n hx hb dL_law_735 rfl (lv_at hl 0 rfl) ?_
  refine lv_iconst (v := 1) hx hb dL_law_736 (by decide) ?_
  refine lv_iadd hx hb dL_law_737 ?_
  refine lv_seti (v := nI (kI + 1)) (nI_add _ _) ?_
  refine va_sld hx hb hX hbl hbA hS (vp_in_nI (by omega) (by omega)) dL_law_738 ?_
  refine lv_seti (v := xs (kI + 1)) (congrArg xs (nI_clamp (by omega))) ?_
  refine lv_aload_n hx hb dL_law_739 rfl (lv_at hl 3 rfl) ?_
  refine lv_iload_n hx hb dL_law_740 rfl (lv_at hl 0 rfl) ?_
  refine lv_iconst (v := 2) hx hb dL_law_741 (by decide) ?_
  refine lv_iadd hx hb dL_law_742 ?_
  refine lv_seti (v := nI (kI + 2)) (nI_add _ _) ?_
  refine va_sld hx hb hX hbl hbA hS (vp_in_nI (by omega) (by omega)) dL_law_743 ?_
  refine lv_seti (v := xs (kI + 2)) (congrArg xs (nI_clamp (by omega))) ?_
  refine cViQ (As := [.int (xs (kI + 1)), .int (xs (kI + 2))]) (rest := []) (b := (aX 0)) (q := (RX5, TX5, 9)) ⟨hx, hb, hml, hown, hts⟩ (p_X5_bookOf l G cy (H).size (aX 0) (aX 2) (aX 11) (aX 20) (aX 39) (aX 44) (aX 1) iKp iYe iTv fR tA (aX 3) (aX 4) (aX 5) (aX 6) (aX 7) (aX 8) (aX 9) (aX 10) (xs (kI + 1)) (xs (kI + 2)) hsX.1.1 hsX.1.2) L_L_75 hN hP hD hS hA [0, 1, 2, 3, 4, 5, 6, 7, 8, 9, 10] [false, false, false, false, false, false, false, false, false, false, false, true, true, true, true, true, true, true, true, true, true, true, true, true, true, true, true, true, true, true, true, true, true, true, true, true, true, true, true, true, true, true, true, true, true, true, true, true, true, true, true, true, true, true, true] rfl (by decide +kernel) rfl 0 4 rfl rfl rfl ⟨Nat.le_of_ble_eq_true rfl, Nat.le_of_ble_eq_true rfl⟩ hl.1 (Nat.le_of_ble_eq_true rfl) dL_law_744 ⟨by show nC + 0 ≤ 600000; omega, by show nS + 0 ≤ 7302250; omega⟩ (fun r_1 u_3 H locs h_2 => ?_)
  clear hP hD hS
  intro hP hD hS
  obtain ⟨fX_4, rfl, h_2⟩ := h_2
  replace hP : va_P G CL ((XW cy aX iKp iYe iTv fX_4 tA tB iL iBs tU tV fH fS fA gE kZ iT1 iT2 iT3 iT4 fB tD) ++ ((MK cy aM rR rB rO rK fMh fMo fMz gMv fMk fMa fMt kY fMr fM3 fMu fMy fMb eR tM iEn iTk uP uU kAt iTo iFr JFi iFa iSt iLv iWs wL uS0 uS1 uS2 uS3 uS4 iOm) ++ ((oM cy uU) ++ ((oL cy wL) ++ ((oM cy uP) ++ (oM cy uS0 ++ (oM cy uS1 ++ (oM cy uS2 ++ (oM cy uS3 ++ oM cy uS4))))))))) H := hP.part [44, 45, 46, 47, 48, 49, 50, 51, 52, 53, 54, 0, 1, 2, 3, 4, 5, 6, 7, 8, 9, 10, 11, 12, 13, 14, 15, 16, 17, 18, 19, 20, 21, 22, 23, 24, 25, 26, 27, 28, 29, 30, 31, 32, 33, 34, 35, 36, 37, 38, 39, 40, 41, 42, 43] rfl
  replace hD : va_D A ((XW cy aX iKp iYe iTv fX_4 tA tB iL iBs tU tV fH fS fA gE kZ iT1 iT2 iT3 iT4 fB tD) ++ ((MK cy aM rR rB rO rK fMh fMo fMz gMv fMk fMa fMt kY fMr fM3 fMu fMy fMb eR tM iEn iTk uP uU kAt iTo iFr JFi iFa iSt iLv iWs wL uS0 uS1 uS2 uS3 uS4 iOm) ++ ((oM cy uU) ++ ((oL cy wL) ++ ((oM cy uP) ++ (oM cy uS0 ++ (oM cy uS1 ++ (oM cy uS2 ++ (oM cy uS3 ++ oM cy uS4))))))))) := hD.part [44, 45, 46, 47, 48, 49, 50, 51, 52, 53, 54, 0, 1, 2, 3, 4, 5, 6, 7, 8, 9, 10, 11, 12, 13, 14, 15, 16, 17, 18, 19, 20, 21, 22, 23, 24, 25, 26, 27, 28, 29, 30, 31, 32, 33, 34, 35, 36, 37, 38, 39, 40, 41, 42, 43] (by decide +kernel) rfl
  refine lv_pop hx hb dL_law_747 rfl ?_
  refine lv_aload_n hx hb dL_law_748 rfl (lv_at hl 1 rfl) ?_
  refine lv_aload_n hx hb dL_law_749 rfl (lv_at hl 3 rfl) ?_
  refine lv_iload_n hx hb dL_law_750 rfl (lv_at hl 0 rfl) ?_
  refine lv_iconst (v := 1) hx hb dL_law_751 (by decide) ?_
  refine lv_iadd hx hb dL_law_752 ?_
  refine lv_seti (v := nI (kI + 1)) (nI_add _ _) ?_
  refine va_sld hx hb hX hbl hbA hS (vp_in_nI (by omega) (by omega)) dL_law_753 ?_
  refine lv_seti (v := xs (kI + 1)) (congrArg xs (nI_clamp (by omega))) ?_
  refine lv_aload_n hx hb dL_law_754 rfl (lv_at hl 3 rfl) ?_
  refine lv_iload_n hx hb dL_law_755 rfl (lv_at hl 0 rfl) ?_
  refine lv_iconst (v := 2) hx hb dL_law_756 (by decide) ?_
  refine lv_iadd hx hb dL_law_757 ?_
  refine lv_seti (v := nI (kI + 2)) (nI_add _ _) ?_
  refine va_sld hx hb hX hbl hbA hS (vp_in_nI (by omega) (by omega)) dL_law_758 ?_
  refine lv_seti (v := xs (kI + 2)) (congrArg xs (nI_clamp (by omega))) ?_
  replace hP : va_P G CL ((MK cy aM rR rB rO rK fMh fMo fMz gMv fMk fMa fMt kY fMr fM3 fMu fMy fMb eR tM iEn iTk uP uU kAt iTo iFr JFi iFa iSt iLv iWs wL uS0 uS1 uS2 uS3 uS4 iOm) ++ (((oM cy uU) ++ ((oL cy wL) ++ ((oM cy uP) ++ (oM cy uS0 ++ (oM cy uS1 ++ (oM cy uS2 ++ (oM cy uS3 ++ oM cy uS4))))))) ++ (XW cy aX iKp iYe iTv fX_4 tA tB iL iBs tU tV fH fS fA gE kZ iT1 iT2 iT3 iT4 fB tD))) H := toNP hP
  replace hD : va_D A ((MK cy aM rR rB rO rK fMh fMo fMz gMv fMk fMa fMt kY fMr fM3 fMu fMy fMb eR tM iEn iTk uP uU kAt iTo iFr JFi iFa iSt iLv iWs wL uS0 uS1 uS2 uS3 uS4 iOm) ++ (((oM cy uU) ++ ((oL cy wL) ++ ((oM cy uP) ++ (oM cy uS0 ++ (oM cy uS1 ++ (oM cy uS2 ++ (oM cy uS3 ++ oM cy uS4))))))) ++ (XW cy aX iKp iYe iTv fX_4 tA tB iL iBs tU tV fH fS fA gE kZ iT1 iT2 iT3 iT4 fB tD))) := toND hD
  refine cViQ (As := [.int (xs (kI + 1)), .int (xs (kI + 2))]) (rest := []) (b := (aM 0)) (q := (RX6, TX6, 35)) ⟨hx, hb, hml, hown, hts⟩ (p_X6_bookOf l G cy (H).size (aM 0) (aM 1) (aM 2) (aM 3) (aM 14) (aM 4) (aM 5) (aM 6) (aM 7) kY (aM 8) tM (aM 15) (aM 16) (aM 17) iEn iTk uP uU kAt iTo iFr JFi iFa (aM 9) iSt iLv iWs (ovL wL) (aM 10) (aM 11) (aM 12) (aM 13) iOm rB rO rK fMr (xs (kI + 1)) (xs (kI + 2)) hsM.1.1.1 hsM.1.1.2 hsM.1) L_L_78 hN hP hD hS hA [0, 23, 24, 25, 26, 27, 28, 29, 30, 31, 32, 33, 34, 35, 36, 37, 38, 39, 40, 41, 42, 43, 44, 45, 46, 47, 48, 49, 8] [false, true, true, true, true, true, true, true, false, true, true, true, true, true, true, true, true, true, true, true, true, true, true, false, false, false, false, false, false, false, false, false, false, false, false, false, false, false, false, false, false, false, false, false, false, false, false, false, false, false] rfl (by decide +kernel) rfl 0 5 rfl rfl rfl ⟨Nat.le_of_ble_eq_true rfl, Nat.le_of_ble_eq_true rfl⟩ hl.1 (Nat.le_of_ble_eq_true rfl) dL_law_759 ⟨by show nC + 0 + 0 ≤ 600000; omega, by show nS + 0 + 0 ≤ 7302250; omega⟩ (fun r_5 u_7 H locs h_6 => ?_)
  clear hP hD hS
  intro hP hD hS
  obtain ⟨fNr_8, rfl, h_6⟩ := h_6
  replace hP : va_P G CL ((MK cy aM rR rB rO rK fMh fMo fMz gMv fMk fMa fMt kY fNr_8 fM3 fMu fMy fMb eR tM iEn iTk uP uU kAt iTo iFr JFi iFa iSt iLv iWs wL uS0 uS1 uS2 uS3 uS4 iOm) ++ (((oM cy uU) ++ ((oL cy wL) ++ ((oM cy uP) ++ (oM cy uS0 ++ (oM cy uS1 ++ (oM cy uS2 ++ (oM cy uS3 ++ oM cy uS4))))))) ++ (XW cy aX iKp iYe iTv fX_4 tA tB iL iBs tU tV fH fS fA gE kZ iT1 iT2 iT3 iT4 fB tD))) H := hP.part [21, 0, 1, 2, 3, 4, 5, 6, 49, 7, 8, 9, 10, 11, 12, 13, 14, 15, 16, 17, 18, 19, 20, 22, 23, 24, 25, 26, 27, 28, 29, 30, 31, 32, 33, 34, 35, 36, 37, 38, 39, 40, 41, 42, 43, 44, 45, 46, 47, 48] rfl
  replace hD : va_D A ((MK cy aM rR rB rO rK fMh fMo fMz gMv fMk fMa fMt kY fNr_8 fM3 fMu fMy fMb eR tM iEn iTk uP uU kAt iTo iFr JFi iFa iSt iLv iWs wL uS0 uS1 uS2 uS3 uS4 iOm) ++ (((oM cy uU) ++ ((oL cy wL) ++ ((oM cy uP) ++ (oM cy uS0 ++ (oM cy uS1 ++ (oM cy uS2 ++ (oM cy uS3 ++ oM cy uS4))))))) ++ (XW cy aX iKp iYe iTv fX_4 tA tB iL iBs tU tV fH fS fA gE kZ iT1 iT2 iT3 iT4 fB tD))) := hD.part [21, 0, 1, 2, 3, 4, 5, 6, 49, 7, 8, 9, 10, 11, 12, 13, 14, 15, 16, 17, 18, 19, 20, 22, 23, 24, 25, 26, 27, 28, 29, 30, 31, 32, 33, 34, 35, 36, 37, 38, 39, 40, 41, 42, 43, 44, 45, 46, 47, 48] (by decide +kernel) rfl
  replace hP : va_P G CL ((XW cy aX iKp iYe iTv fX_4 tA tB iL iBs tU tV fH fS fA gE kZ iT1 iT2 iT3 iT4 fB tD) ++ ((MK cy aM rR rB rO rK fMh fMo fMz gMv fMk fMa fMt kY fNr_8 fM3 fMu fMy fMb eR tM iEn iTk uP uU kAt iTo iFr JFi iFa iSt iLv iWs wL uS0 uS1 uS2 uS3 uS4 iOm) ++ ((oM cy uU) ++ ((oL cy wL) ++ ((oM cy uP) ++ (oM cy uS0 ++ (oM cy uS1 ++ (oM cy uS2 ++ (oM cy uS3 ++ oM cy uS4))))))))) H := ofNP hP
  replace hD : va_D A ((XW cy aX iKp iYe iTv fX_4 tA tB iL iBs tU tV fH fS fA gE kZ iT1 iT2 iT3 iT4 fB tD) ++ ((MK cy aM rR rB rO rK fMh fMo fMz gMv fMk fMa fMt kY fNr_8 fM3 fMu fMy fMb eR tM iEn iTk uP uU kAt iTo iFr JFi iFa iSt iLv iWs wL uS0 uS1 uS2 uS3 uS4 iOm) ++ ((oM cy uU) ++ ((oL cy wL) ++ ((oM cy uP) ++ (oM cy uS0 ++ (oM cy uS1 ++ (oM cy uS2 ++ (oM cy uS3 ++ oM cy uS4))))))))) := ofND hD
  refine lv_pop hx hb dL_law_762 rfl ?_
  refine lv_goto (tgt := 1807) hx hb dL_law_763 (by decide) ?_
  refine W.widen (k := nC + 250) (n := nS + 4440) (by omega) (by omega) ?_
  exact kk _ _ ⟨iKp, iYe, iTv, fX_4, tA, tB, iL, iBs, tU, tV, fH, fS, fA, gE, kZ, iT1, iT2, iT3, iT4, fB, tD, fMh, fMo, fMz, gMv, fMk, fMa, fMt, kY, fNr_8, fM3, fMu, fMy, fMb, eR, tM, iEn, iTk, uP, uU, kAt, iTo, iFr, JFi, iFa, iSt, iLv, iWs, wL, uS0, uS1, uS2, uS3, uS4, iOm, hP, hD, hsX, hsM, trivial⟩ hS
set_option maxHeartbeats 4000000 in
set_option maxRecDepth 100000 in
theorem law_14 {p : Program} {l : Launch} {e : Env} {s : State} {m : MethodId} {below : List Frame} {meth : Method} {c : Code} {b L : Nat} {xs : Nat → Int32} {A : Nat → Prop} {G : va_G} {cy : Nat → ClassId} {aX aM rR rB rO rK : Nat → Nat} (hx : p.tables.exec = Jvm.exec) (hb : c.code = code) (hr : meth.sig.returnType = ret) (hml : c.maxLocals = 4) (hown : s.vm.findClass RL = some m.cls) (hts : ∀ w ∈ BIG, w.before #[Value.ref b] s = true) (hX : va_X b L xs s s.heap) (hbl : b < s.heap.size) (hlocks : meth.locks = false) (hN : KN G cy s) (hA : ∀ q : Nat, s.heap.size ≤ q → A q) (hAn : ∀ q : Nat, A q → s.heap.size ≤ q) (hbA : ¬ A b) (hSO : SO A s s.heap) {H : Heap} {locs : List Loc} {ls : Array Slot} {kI nC nS : Nat} (hkI : kI + 6 ≤ L) (hL : L ≤ 384) (hnC : nC + 250 ≤ 600000) (hnS : nS + 4440 ≤ 7302250) (hI : LINV G cy A H aX aM rR rB rO rK) (hS : va_S A s.heap H locs) (hl : lv_has ls 4 [(3, .int (nI kI)), (2, .ref (aM 0)), (1, .ref (aX 0)), (0, .ref b)]) (kk : ∀ (H : Heap) (locs : List Loc), LINV G cy A H aX aM rR rB rO rK → va_S A s.heap H locs → W p l e room_1 s m #[Value.ref b] below meth c H locs (nC + 250) (nS + 4440) (lw_Z below #[Value.ref b] s) (F0 m 1807 ls [])) : W p l e room_1 s m #[Value.ref b] below meth c H locs nC nS (lw_Z below #[Value.ref b] s) (F0 m 766 ls []) := by
  obtain ⟨iKp, iYe, iTv, fR, tA, tB, iL, iBs, tU, tV, fH, fS, fA, gE, kZ, iT1, iT2, iT3, iT4, fB, tD, fMh, fMo, fMz, gMv, fMk, fMa, fMt, kY, fMr, fM3, fMu, fMy, fMb, eR, tM, iEn, iTk, uP, uU, kAt, iTo, iFr, JFi, iFa, iSt, iLv, iWs, wL, uS0, uS1, uS2, uS3, uS4, iOm, hP, hD, hsX, hsM, hLR⟩ := hI
  refine lv_aload_n hx hb dL_law_766 rfl (lv_at hl 2 rfl) ?_
  refine lv_aload_n hx hb dL_law_767 rfl (lv_at hl 3 rfl) ?_
  refine lv_iload_n hx hb dL_law_768 rfl (lv_at hl 0 rfl) ?_
  refine lv_iconst (v := 1) hx hb dL_law_769 (by decide) ?_
  refine lv_iadd hx hb dL_law_770 ?_
  refine lv_seti (v := nI (kI + 1)) (nI_add _ _) ?_
  refine va_sld hx hb hX hbl hbA hS (vp_in_nI (by omega) (by omega)) dL_law_771 ?_
  refine lv_seti (v := xs (kI + 1)) (congrArg xs (nI_clamp (by omega))) ?_
  refine lv_aload_n hx hb dL_law_772 rfl (lv_at hl 3 rfl) ?_
  refine lv_iload_n hx hb dL_law_773 rfl (lv_at hl 0 rfl) ?_
  refine lv_iconst (v := 2) hx hb dL_law_774 (by decide) ?_
  refine lv_iadd hx hb dL_law_775 ?_
  refine lv_seti (v := nI (kI + 2)) (nI_add _ _) ?_
  refine va_sld hx hb hX hbl hbA hS (vp_in_nI (by omega) (by omega)) dL_law_776 ?_
  refine lv_seti (v := xs (kI + 2)) (congrArg xs (nI_clamp (by omega))) ?_
  refine cViQ (As := [.int (xs (kI + 1)), .int (xs (kI + 2))]) (rest := []) (b := (aX 0)) (q := (RX5, TX5, 9)) ⟨hx, hb, hml, hown, hts⟩ (p_X5_oneOf l G cy (H).size (aX 0) (aX 2) (aX 11) (aX 20) (aX 39) (aX 44) (aX 1) iKp iYe iTv fR tA (aX 3) (aX 4) (aX 5) (aX 6) (aX 7) (aX 8) (aX 9) (aX 10) (xs (kI + 1)) (xs (kI + 2)) hsX.1.1 hsX.1.2) L_L_79 hN hP hD hS hA [0, 1, 2, 3, 4, 5, 6, 7, 8, 9, 10] [false, false, false, false, false, false, false, false, false, false, false, true, true, true, true, true, true, true, true, true, true, true, true, true, true, true, true, true, true, true, true, true, true, true, true, true, true, true, true, true, true, true, true, true, true, true, true, true, true, true, true, true, true, true, true] rfl (by decide +kernel) rfl 0 4 rfl rfl rfl ⟨Nat.le_of_ble_eq_true rfl, Nat.le_of_ble_eq_true rfl⟩ hl.1 (Nat.le_of_ble_eq_true rfl) dL_law_777 ⟨by show nC + 0 ≤ 600000; omega, by show nS + 0 ≤ 7302250; omega⟩ (fun r_1 u_3 H locs h_2 => ?_)
  clear hP hD hS
  intro hP hD hS
  obtain ⟨fX_4, rfl, h_2⟩ := h_2
  replace hP : va_P G CL ((XW cy aX iKp iYe iTv fX_4 tA tB iL iBs tU tV fH fS fA gE kZ iT1 iT2 iT3 iT4 fB tD) ++ ((MK cy aM rR rB rO rK fMh fMo fMz gMv fMk fMa fMt kY fMr fM3 fMu fMy fMb eR tM iEn iTk uP uU kAt iTo iFr JFi iFa iSt iLv iWs wL uS0 uS1 uS2 uS3 uS4 iOm) ++ ((oM cy uU) ++ ((oL cy wL) ++ ((oM cy uP) ++ (oM cy uS0 ++ (oM cy uS1 ++ (oM cy uS2 ++ (oM cy uS3 ++ oM cy uS4))))))))) H := hP.part [44, 45, 46, 47, 48, 49, 50, 51, 52, 53, 54, 0, 1, 2, 3, 4, 5, 6, 7, 8, 9, 10, 11, 12, 13, 14, 15, 16, 17, 18, 19, 20, 21, 22, 23, 24, 25, 26, 27, 28, 29, 30, 31, 32, 33, 34, 35, 36, 37, 38, 39, 40, 41, 42, 43] rfl
  replace hD : va_D A ((XW cy aX iKp iYe iTv fX_4 tA tB iL iBs tU tV fH fS fA gE kZ iT1 iT2 iT3 iT4 fB tD) ++ ((MK cy aM rR rB rO rK fMh fMo fMz gMv fMk fMa fMt kY fMr fM3 fMu fMy fMb eR tM iEn iTk uP uU kAt iTo iFr JFi iFa iSt iLv iWs wL uS0 uS1 uS2 uS3 uS4 iOm) ++ ((oM cy uU) ++ ((oL cy wL) ++ ((oM cy uP) ++ (oM cy uS0 ++ (oM cy uS1 ++ (oM cy uS2 ++ (oM cy uS3 ++ oM cy uS4))))))))) := hD.part [44, 45, 46, 47, 48, 49, 50, 51, 52, 53, 54, 0, 1, 2, 3, 4, 5, 6, 7, 8, 9, 10, 11, 12, 13, 14, 15, 16, 17, 18, 19, 20, 21, 22, 23, 24, 25, 26, 27, 28, 29, 30, 31, 32, 33, 34, 35, 36, 37, 38, 39, 40, 41, 42, 43] (by decide +kernel) rfl
  refine lv_pop hx hb dL_law_780 rfl ?_
  refine lv_aload_n hx hb dL_law_781 rfl (lv_at hl 1 rfl) ?_
  refine lv_aload_n hx hb dL_law_782 rfl (lv_at hl 3 rfl) ?_
  refine lv_iload_n hx hb dL_law_783 rfl (lv_at hl 0 rfl) ?_
  refine lv_iconst (v := 1) hx hb dL_law_784 (by decide) ?_
  refine lv_iadd hx hb dL_law_785 ?_
  refine lv_seti (v := nI (kI + 1)) (nI_add _ _) ?_
  refine va_sld hx hb hX hbl hbA hS (vp_in_nI (by omega) (by omega)) dL_law_786 ?_
  refine lv_seti (v := xs (kI + 1)) (congrArg xs (nI_clamp (by omega))) ?_
  refine lv_aload_n hx hb dL_law_787 rfl (lv_at hl 3 rfl) ?_
  refine lv_iload_n hx hb dL_law_788 rfl (lv_at hl 0 rfl) ?_
  refine lv_iconst (v := 2) hx hb dL_law_789 (by decide) ?_
  refine lv_iadd hx hb dL_law_790 ?_
  refine lv_seti (v := nI (kI + 2)) (nI_add _ _) ?_
  refine va_sld hx hb hX hbl hbA hS (vp_in_nI (by omega) (by omega)) dL_law_791 ?_
  refine lv_seti (v := xs (kI + 2)) (congrArg xs (nI_clamp (by omega))) ?_
  replace hP : va_P G CL ((MK cy aM rR rB rO rK fMh fMo fMz gMv fMk fMa fMt kY fMr fM3 fMu fMy fMb eR tM iEn iTk uP uU kAt iTo iFr JFi iFa iSt iLv iWs wL uS0 uS1 uS2 uS3 uS4 iOm) ++ (((oM cy uU) ++ ((oL cy wL) ++ ((oM cy uP) ++ (oM cy uS0 ++ (oM cy uS1 ++ (oM cy uS2 ++ (oM cy uS3 ++ oM cy uS4))))))) ++ (XW cy aX iKp iYe iTv fX_4 tA tB iL iBs tU tV fH fS fA gE kZ iT1 iT2 iT3 iT4 fB tD))) H := toNP hP
  replace hD : va_D A ((MK cy aM rR rB rO rK fMh fMo fMz gMv fMk fMa fMt kY fMr fM3 fMu fMy fMb eR tM iEn iTk uP uU kAt iTo iFr JFi iFa iSt iLv iWs wL uS0 uS1 uS2 uS3 uS4 iOm) ++ (((oM cy uU) ++ ((oL cy wL) ++ ((oM cy uP) ++ (oM cy uS0 ++ (oM cy uS1 ++ (oM cy uS2 ++ (oM cy uS3 ++ oM cy uS4))))))) ++ (XW cy aX iKp iYe iTv fX_4 tA tB iL iBs tU tV fH fS fA gE kZ iT1 iT2 iT3 iT4 fB tD))) := toND hD
  refine cViQ (As := [.int (xs (kI + 1)), .int (xs (kI + 2))]) (rest := []) (b := (aM 0)) (q := (RX6, TX6, 35)) ⟨hx, hb, hml, hown, hts⟩ (p_X6_oneOf l G cy (H).size (aM 0) (aM 1) (aM 2) (aM 3) (aM 14) (aM 4) (aM 5) (aM 6) (aM 7) kY (aM 8) tM (aM 15) (aM 16) (aM 17) iEn iTk uP uU kAt iTo iFr JFi iFa (aM 9) iSt iLv iWs (ovL wL) (aM 10) (aM 11) (aM 12) (aM 13) iOm rB rO rK fMr (xs (kI + 1)) (xs (kI + 2)) hsM.1.1.1 hsM.1.1.2 hsM.1) L_L_82 hN hP hD hS hA [0, 23, 24, 25, 26, 27, 28, 29, 30, 31, 32, 33, 34, 35, 36, 37, 38, 39, 40, 41, 42, 43, 44, 45, 46, 47, 48, 49, 8] [false, true, true, true, true, true, true, true, false, true, true, true, true, true, true, true, true, true, true, true, true, true, true, false, false, false, false, false, false, false, false, false, false, false, false, false, false, false, false, false, false, false, false, false, false, false, false, false, false, false] rfl (by decide +kernel) rfl 0 5 rfl rfl rfl ⟨Nat.le_of_ble_eq_true rfl, Nat.le_of_ble_eq_true rfl⟩ hl.1 (Nat.le_of_ble_eq_true rfl) dL_law_792 ⟨by show nC + 0 + 0 ≤ 600000; omega, by show nS + 0 + 0 ≤ 7302250; omega⟩ (fun r_5 u_7 H locs h_6 => ?_)
  clear hP hD hS
  intro hP hD hS
  obtain ⟨fNr_8, rfl, h_6⟩ := h_6
  replace hP : va_P G CL ((MK cy aM rR rB rO rK fMh fMo fMz gMv fMk fMa fMt kY fNr_8 fM3 fMu fMy fMb eR tM iEn iTk uP uU kAt iTo iFr JFi iFa iSt iLv iWs wL uS0 uS1 uS2 uS3 uS4 iOm) ++ (((oM cy uU) ++ ((oL cy wL) ++ ((oM cy uP) ++ (oM cy uS0 ++ (oM cy uS1 ++ (oM cy uS2 ++ (oM cy uS3 ++ oM cy uS4))))))) ++ (XW cy aX iKp iYe iTv fX_4 tA tB iL iBs tU tV fH fS fA gE kZ iT1 iT2 iT3 iT4 fB tD))) H := hP.part [21, 0, 1, 2, 3, 4, 5, 6, 49, 7, 8, 9, 10, 11, 12, 13, 14, 15, 16, 17, 18, 19, 20, 22, 23, 24, 25, 26, 27, 28, 29, 30, 31, 32, 33, 34, 35, 36, 37, 38, 39, 40, 41, 42, 43, 44, 45, 46, 47, 48] rfl
  replace hD : va_D A ((MK cy aM rR rB rO rK fMh fMo fMz gMv fMk fMa fMt kY fNr_8 fM3 fMu fMy fMb eR tM iEn iTk uP uU kAt iTo iFr JFi iFa iSt iLv iWs wL uS0 uS1 uS2 uS3 uS4 iOm) ++ (((oM cy uU) ++ ((oL cy wL) ++ ((oM cy uP) ++ (oM cy uS0 ++ (oM cy uS1 ++ (oM cy uS2 ++ (oM cy uS3 ++ oM cy uS4))))))) ++ (XW cy aX iKp iYe iTv fX_4 tA tB iL iBs tU tV fH fS fA gE kZ iT1 iT2 iT3 iT4 fB tD))) := hD.part [21, 0, 1, 2, 3, 4, 5, 6, 49, 7, 8, 9, 10, 11, 12, 13, 14, 15, 16, 17, 18, 19, 20, 22, 23, 24, 25, 26, 27, 28, 29, 30, 31, 32, 33, 34, 35, 36, 37, 38, 39, 40, 41, 42, 43, 44, 45, 46, 47, 48] (by decide +kernel) rfl
  replace hP : va_P G CL ((XW cy aX iKp iYe iTv fX_4 tA tB iL iBs tU tV fH fS fA gE kZ iT1 iT2 iT3 iT4 fB tD) ++ ((MK cy aM rR rB rO rK fMh fMo fMz gMv fMk fMa fMt kY fNr_8 fM3 fMu fMy fMb eR tM iEn iTk uP uU kAt iTo iFr JFi iFa iSt iLv iWs wL uS0 uS1 uS2 uS3 uS4 iOm) ++ ((oM cy uU) ++ ((oL cy wL) ++ ((oM cy uP) ++ (oM cy uS0 ++ (oM cy uS1 ++ (oM cy uS2 ++ (oM cy uS3 ++ oM cy uS4))))))))) H := ofNP hP
  replace hD : va_D A ((XW cy aX iKp iYe iTv fX_4 tA tB iL iBs tU tV fH fS fA gE kZ iT1 iT2 iT3 iT4 fB tD) ++ ((MK cy aM rR rB rO rK fMh fMo fMz gMv fMk fMa fMt kY fNr_8 fM3 fMu fMy fMb eR tM iEn iTk uP uU kAt iTo iFr JFi iFa iSt iLv iWs wL uS0 uS1 uS2 uS3 uS4 iOm) ++ ((oM cy uU) ++ ((oL cy wL) ++ ((oM cy uP) ++ (oM cy uS0 ++ (oM cy uS1 ++ (oM cy uS2 ++ (oM cy uS3 ++ oM cy uS4))))))))) := ofND hD
  refine lv_pop hx hb dL_law_795 rfl ?_
  refine lv_goto (tgt := 1807) hx hb dL_law_796 (by decide) ?_
  refine W.widen (k := nC + 250) (n := nS + 4440) (by omega) (by omega) ?_
  exact kk _ _ ⟨iKp, iYe, iTv, fX_4, tA, tB, iL, iBs, tU, tV, fH, fS, fA, gE, kZ, iT1, iT2, iT3, iT4, fB, tD, fMh, fMo, fMz, gMv, fMk, fMa, fMt, kY, fNr_8, fM3, fMu, fMy, fMb, eR, tM, iEn, iTk, uP, uU, kAt, iTo, iFr, JFi, iFa, iSt, iLv, iWs, wL, uS0, uS1, uS2, uS3, uS4, iOm, hP, hD, hsX, hsM, trivial⟩ hS
set_option maxHeartbeats 4000000 in
set_option maxRecDepth 100000 in
theorem law_15 {p : Program} {l : Launch} {e : Env} {s : State} {m : MethodId} {below : List Frame} {meth : Method} {c : Code} {b L : Nat} {xs : Nat → Int32} {A : Nat → Prop} {G : va_G} {cy : Nat → ClassId} {aX aM rR rB rO rK : Nat → Nat} (hx : p.tables.exec = Jvm.exec) (hb : c.code = code) (hr : meth.sig.returnType = ret) (hml : c.maxLocals = 4) (hown : s.vm.findClass RL = some m.cls) (hts : ∀ w ∈ BIG, w.before #[Value.ref b] s = true) (hX : va_X b L xs s s.heap) (hbl : b < s.heap.size) (hlocks : meth.locks = false) (hN : KN G cy s) (hA : ∀ q : Nat, s.heap.size ≤ q → A q) (hAn : ∀ q : Nat, A q → s.heap.size ≤ q) (hbA : ¬ A b) (hSO : SO A s s.heap) {H : Heap} {locs : List Loc} {ls : Array Slot} {kI nC nS : Nat} (hkI : kI + 6 ≤ L) (hL : L ≤ 384) (hnC : nC + 250 ≤ 600000) (hnS : nS + 4440 ≤ 7302250) (hI : LINV G cy A H aX aM rR rB rO rK) (hS : va_S A s.heap H locs) (hl : lv_has ls 4 [(3, .int (nI kI)), (2, .ref (aM 0)), (1, .ref (aX 0)), (0, .ref b)]) (kk : ∀ (H : Heap) (locs : List Loc), LINV G cy A H aX aM rR rB rO rK → va_S A s.heap H locs → W p l e room_1 s m #[Value.ref b] below meth c H locs (nC + 250) (nS + 4440) (lw_Z below #[Value.ref b] s) (F0 m 1807 ls [])) : W p l e room_1 s m #[Value.ref b] below meth c H locs nC nS (lw_Z below #[Value.ref b] s) (F0 m 799 ls []) := by
  obtain ⟨iKp, iYe, iTv, fR, tA, tB, iL, iBs, tU, tV, fH, fS, fA, gE, kZ, iT1, iT2, iT3, iT4, fB, tD, fMh, fMo, fMz, gMv, fMk, fMa, fMt, kY, fMr, fM3, fMu, fMy, fMb, eR, tM, iEn, iTk, uP, uU, kAt, iTo, iFr, JFi, iFa, iSt, iLv, iWs, wL, uS0, uS1, uS2, uS3, uS4, iOm, hP, hD, hsX, hsM, hLR⟩ := hI
  refine lv_aload_n hx hb dL_law_799 rfl (lv_at hl 2 rfl) ?_
  refine lv_aload_n hx hb dL_law_800 rfl (lv_at hl 3 rfl) ?_
  refine lv_iload_n hx hb dL_law_801 rfl (lv_at hl 0 rfl) ?_
  refine lv_iconst (v := 1) hx hb dL_law_802 (by decide) ?_
  refine lv_iadd hx hb dL_law_803 ?_
  refine lv_seti (v := nI (kI + 1)) (nI_add _ _) ?_
  refine va_sld hx hb hX hbl hbA hS (vp_in_nI (by omega) (by omega)) dL_law_804 ?_
  refine lv_seti (v := xs (kI + 1)) (congrArg xs (nI_clamp (by omega))) ?_
  refine lv_aload_n hx hb dL_law_805 rfl (lv_at hl 3 rfl) ?_
  refine lv_iload_n hx hb dL_law_806 rfl (lv_at hl 0 rfl) ?_
  refine lv_iconst (v := 2) hx hb dL_law_807 (by decide) ?_
  refine lv_iadd hx hb dL_law_808 ?_
  refine lv_seti (v := nI (kI + 2)) (nI_add _ _) ?_
  refine va_sld hx hb hX hbl hbA hS (vp_in_nI (by omega) (by omega)) dL_law_809 ?_
  refine lv_seti (v := xs (kI + 2)) (congrArg xs (nI_clamp (by omega))) ?_
  refine cViQ (As := [.int (xs (kI + 1)), .int (xs (kI + 2))]) (rest := []) (b := (aX 0)) (q := (RX5, TX5, 9)) ⟨hx, hb, hml, hown, hts⟩ (p_X5_known l G cy (H).size (aX 0) (aX 2) (aX 11) (aX 20) (aX 39) (aX 44) (aX 1) iKp iYe iTv fR tA (aX 3) (aX 4) (aX 5) (aX 6) (aX 7) (aX 8) (aX 9) (aX 10) (xs (kI + 1)) (xs (kI + 2)) hsX.1.1 hsX.1.2) L_L_83 hN hP hD hS hA [0, 1, 2, 3, 4, 5, 6, 7, 8, 9, 10] [false, false, false, false, false, false, false, false, false, false, false, true, true, true, true, true, true, true, true, true, true, true, true, true, true, true, true, true, true, true, true, true, true, true, true, true, true, true, true, true, true, true, true, true, true, true, true, true, true, true, true, true, true, true, true] rfl (by decide +kernel) rfl 0 4 rfl rfl rfl ⟨Nat.le_of_ble_eq_true rfl, Nat.le_of_ble_eq_true rfl⟩ hl.1 (Nat.le_of_ble_eq_true rfl) dL_law_810 ⟨by show nC + 0 ≤ 600000; omega, by show nS + 0 ≤ 7302250; omega⟩ (fun r_1 u_3 H locs h_2 => ?_)
  clear hP hD hS
  intro hP hD hS
  obtain ⟨fX_4, rfl, h_2⟩ := h_2
  replace hP : va_P G CL ((XW cy aX iKp iYe iTv fX_4 tA tB iL iBs tU tV fH fS fA gE kZ iT1 iT2 iT3 iT4 fB tD) ++ ((MK cy aM rR rB rO rK fMh fMo fMz gMv fMk fMa fMt kY fMr fM3 fMu fMy fMb eR tM iEn iTk uP uU kAt iTo iFr JFi iFa iSt iLv iWs wL uS0 uS1 uS2 uS3 uS4 iOm) ++ ((oM cy uU) ++ ((oL cy wL) ++ ((oM cy uP) ++ (oM cy uS0 ++ (oM cy uS1 ++ (oM cy uS2 ++ (oM cy uS3 ++ oM cy uS4))))))))) H := hP.part [44, 45, 46, 47, 48, 49, 50, 51, 52, 53, 54, 0, 1, 2, 3, 4, 5, 6, 7, 8, 9, 10, 11, 12, 13, 14, 15, 16, 17, 18, 19, 20, 21, 22, 23, 24, 25, 26, 27, 28, 29, 30, 31, 32, 33, 34, 35, 36, 37, 38, 39, 40, 41, 42, 43] rfl
  replace hD : va_D A ((XW cy aX iKp iYe iTv fX_4 tA tB iL iBs tU tV fH fS fA gE kZ iT1 iT2 iT3 iT4 fB tD) ++ ((MK cy aM rR rB rO rK fMh fMo fMz gMv fMk fMa fMt kY fMr fM3 fMu fMy fMb eR tM iEn iTk uP uU kAt iTo iFr JFi iFa iSt iLv iWs wL uS0 uS1 uS2 uS3 uS4 iOm) ++ ((oM cy uU) ++ ((oL cy wL) ++ ((oM cy uP) ++ (oM cy uS0 ++ (oM cy uS1 ++ (oM cy uS2 ++ (oM cy uS3 ++ oM cy uS4))))))))) := hD.part [44, 45, 46, 47, 48, 49, 50, 51, 52, 53, 54, 0, 1, 2, 3, 4, 5, 6, 7, 8, 9, 10, 11, 12, 13, 14, 15, 16, 17, 18, 19, 20, 21, 22, 23, 24, 25, 26, 27, 28, 29, 30, 31, 32, 33, 34, 35, 36, 37, 38, 39, 40, 41, 42, 43] (by decide +kernel) rfl
  refine lv_pop hx hb dL_law_813 rfl ?_
  refine lv_aload_n hx hb dL_law_814 rfl (lv_at hl 1 rfl) ?_
  refine lv_aload_n hx hb dL_law_815 rfl (lv_at hl 3 rfl) ?_
  refine lv_iload_n hx hb dL_law_816 rfl (lv_at hl 0 rfl) ?_
  refine lv_iconst (v := 1) hx hb dL_law_817 (by decide) ?_
  refine lv_iadd hx hb dL_law_818 ?_
  refine lv_seti (v := nI (kI + 1)) (nI_add _ _) ?_
  refine va_sld hx hb hX hbl hbA hS (vp_in_nI (by omega) (by omega)) dL_law_819 ?_
  refine lv_seti (v := xs (kI + 1)) (congrArg xs (nI_clamp (by omega))) ?_
  refine lv_aload_n hx hb dL_law_820 rfl (lv_at hl 3 rfl) ?_
  refine lv_iload_n hx hb dL_law_821 rfl (lv_at hl 0 rfl) ?_
  refine lv_iconst (v := 2) hx hb dL_law_822 (by decide) ?_
  refine lv_iadd hx hb dL_law_823 ?_
  refine lv_seti (v := nI (kI + 2)) (nI_add _ _) ?_
  refine va_sld hx hb hX hbl hbA hS (vp_in_nI (by omega) (by omega)) dL_law_824 ?_
  refine lv_seti (v := xs (kI + 2)) (congrArg xs (nI_clamp (by omega))) ?_
  replace hP : va_P G CL ((MK cy aM rR rB rO rK fMh fMo fMz gMv fMk fMa fMt kY fMr fM3 fMu fMy fMb eR tM iEn iTk uP uU kAt iTo iFr JFi iFa iSt iLv iWs wL uS0 uS1 uS2 uS3 uS4 iOm) ++ (((oM cy uU) ++ ((oL cy wL) ++ ((oM cy uP) ++ (oM cy uS0 ++ (oM cy uS1 ++ (oM cy uS2 ++ (oM cy uS3 ++ oM cy uS4))))))) ++ (XW cy aX iKp iYe iTv fX_4 tA tB iL iBs tU tV fH fS fA gE kZ iT1 iT2 iT3 iT4 fB tD))) H := toNP hP
  replace hD : va_D A ((MK cy aM rR rB rO rK fMh fMo fMz gMv fMk fMa fMt kY fMr fM3 fMu fMy fMb eR tM iEn iTk uP uU kAt iTo iFr JFi iFa iSt iLv iWs wL uS0 uS1 uS2 uS3 uS4 iOm) ++ (((oM cy uU) ++ ((oL cy wL) ++ ((oM cy uP) ++ (oM cy uS0 ++ (oM cy uS1 ++ (oM cy uS2 ++ (oM cy uS3 ++ oM cy uS4))))))) ++ (XW cy aX iKp iYe iTv fX_4 tA tB iL iBs tU tV fH fS fA gE kZ iT1 iT2 iT3 iT4 fB tD))) := toND hD
  refine cViQ (As := [.int (xs (kI + 1)), .int (xs (kI + 2))]) (rest := []) (b := (aM 0)) (q := (RX6, TX6, 35)) ⟨hx, hb, hml, hown, hts⟩ (p_X6_known l G cy (H).size (aM 0) (aM 1) (aM 2) (aM 3) (aM 14) (aM 4) (aM 5) (aM 6) (aM 7) kY (aM 8) tM (aM 15) (aM 16) (aM 17) iEn iTk uP uU kAt iTo iFr JFi iFa (aM 9) iSt iLv iWs (ovL wL) (aM 10) (aM 11) (aM 12) (aM 13) iOm rB rO rK fMr (xs (kI + 1)) (xs (kI + 2)) hsM.1.1.1 hsM.1.1.2 hsM.1) L_L_86 hN hP hD hS hA [0, 23, 24, 25, 26, 27, 28, 29, 30, 31, 32, 33, 34, 35, 36, 37, 38, 39, 40, 41, 42, 43, 44, 45, 46, 47, 48, 49, 8] [false, true, true, true, true, true, true, true, false, true, true, true, true, true, true, true, true, true, true, true, true, true, true, false, false, false, false, false, false, false, false, false, false, false, false, false, false, false, false, false, false, false, false, false, false, false, false, false, false, false] rfl (by decide +kernel) rfl 0 5 rfl rfl rfl ⟨Nat.le_of_ble_eq_true rfl, Nat.le_of_ble_eq_true rfl⟩ hl.1 (Nat.le_of_ble_eq_true rfl) dL_law_825 ⟨by show nC + 0 + 0 ≤ 600000; omega, by show nS + 0 + 0 ≤ 7302250; omega⟩ (fun r_5 u_7 H locs h_6 => ?_)
  clear hP hD hS
  intro hP hD hS
  obtain ⟨fNr_8, rfl, h_6⟩ := h_6
  replace hP : va_P G CL ((MK cy aM rR rB rO rK fMh fMo fMz gMv fMk fMa fMt kY fNr_8 fM3 fMu fMy fMb eR tM iEn iTk uP uU kAt iTo iFr JFi iFa iSt iLv iWs wL uS0 uS1 uS2 uS3 uS4 iOm) ++ (((oM cy uU) ++ ((oL cy wL) ++ ((oM cy uP) ++ (oM cy uS0 ++ (oM cy uS1 ++ (oM cy uS2 ++ (oM cy uS3 ++ oM cy uS4))))))) ++ (XW cy aX iKp iYe iTv fX_4 tA tB iL iBs tU tV fH fS fA gE kZ iT1 iT2 iT3 iT4 fB tD))) H := hP.part [21, 0, 1, 2, 3, 4, 5, 6, 49, 7, 8, 9, 10, 11, 12, 13, 14, 15, 16, 17, 18, 19, 20, 22, 23, 24, 25, 26, 27, 28, 29, 30, 31, 32, 33, 34, 35, 36, 37, 38, 39, 40, 41, 42, 43, 44, 45, 46, 47, 48] rfl
  replace hD : va_D A ((MK cy aM rR rB rO rK fMh fMo fMz gMv fMk fMa fMt kY fNr_8 fM3 fMu fMy fMb eR tM iEn iTk uP uU kAt iTo iFr JFi iFa iSt iLv iWs wL uS0 uS1 uS2 uS3 uS4 iOm) ++ (((oM cy uU) ++ ((oL cy wL) ++ ((oM cy uP) ++ (oM cy uS0 ++ (oM cy uS1 ++ (oM cy uS2 ++ (oM cy uS3 ++ oM cy uS4))))))) ++ (XW cy aX iKp iYe iTv fX_4 tA tB iL iBs tU tV fH fS fA gE kZ iT1 iT2 iT3 iT4 fB tD))) := hD.part [21, 0, 1, 2, 3, 4, 5, 6, 49, 7, 8, 9, 10, 11, 12, 13, 14, 15, 16, 17, 18, 19, 20, 22, 23, 24, 25, 26, 27, 28, 29, 30, 31, 32, 33, 34, 35, 36, 37, 38, 39, 40, 41, 42, 43, 44, 45, 46, 47, 48] (by decide +kernel) rfl
  replace hP : va_P G CL ((XW cy aX iKp iYe iTv fX_4 tA tB iL iBs tU tV fH fS fA gE kZ iT1 iT2 iT3 iT4 fB tD) ++ ((MK cy aM rR rB rO rK fMh fMo fMz gMv fMk fMa fMt kY fNr_8 fM3 fMu fMy fMb eR tM iEn iTk uP uU kAt iTo iFr JFi iFa iSt iLv iWs wL uS0 uS1 uS2 uS3 uS4 iOm) ++ ((oM cy uU) ++ ((oL cy wL) ++ ((oM cy uP) ++ (oM cy uS0 ++ (oM cy uS1 ++ (oM cy uS2 ++ (oM cy uS3 ++ oM cy uS4))))))))) H := ofNP hP
  replace hD : va_D A ((XW cy aX iKp iYe iTv fX_4 tA tB iL iBs tU tV fH fS fA gE kZ iT1 iT2 iT3 iT4 fB tD) ++ ((MK cy aM rR rB rO rK fMh fMo fMz gMv fMk fMa fMt kY fNr_8 fM3 fMu fMy fMb eR tM iEn iTk uP uU kAt iTo iFr JFi iFa iSt iLv iWs wL uS0 uS1 uS2 uS3 uS4 iOm) ++ ((oM cy uU) ++ ((oL cy wL) ++ ((oM cy uP) ++ (oM cy uS0 ++ (oM cy uS1 ++ (oM cy uS2 ++ (oM cy uS3 ++ oM cy uS4))))))))) := ofND hD
  refine lv_pop hx hb dL_law_828 rfl ?_
  refine lv_goto (tgt := 1807) hx hb dL_law_829 (by decide) ?_
  refine W.widen (k := nC + 250) (n := nS + 4440) (by omega) (by omega) ?_
  exact kk _ _ ⟨iKp, iYe, iTv, fX_4, tA, tB, iL, iBs, tU, tV, fH, fS, fA, gE, kZ, iT1, iT2, iT3, iT4, fB, tD, fMh, fMo, fMz, gMv, fMk, fMa, fMt, kY, fNr_8, fM3, fMu, fMy, fMb, eR, tM, iEn, iTk, uP, uU, kAt, iTo, iFr, JFi, iFa, iSt, iLv, iWs, wL, uS0, uS1, uS2, uS3, uS4, iOm, hP, hD, hsX, hsM, trivial⟩ hS
set_option maxHeartbeats 4000000 in
set_option maxRecDepth 100000 in
theorem law_16 {p : Program} {l : Launch} {e : Env} {s : State} {m : MethodId} {below : List Frame} {meth : Method} {c : Code} {b L : Nat} {xs : Nat → Int32} {A : Nat → Prop} {G : va_G} {cy : Nat → ClassId} {aX aM rR rB rO rK : Nat → Nat} (hx : p.tables.exec = Jvm.exec) (hb : c.code = code) (hr : meth.sig.returnType = ret) (hml : c.maxLocals = 4) (hown : s.vm.findClass RL = some m.cls) (hts : ∀ w ∈ BIG, w.before #[Value.ref b] s = true) (hX : va_X b L xs s s.heap) (hbl : b < s.heap.size) (hlocks : meth.locks = false) (hN : KN G cy s) (hA : ∀ q : Nat, s.heap.size ≤ q → A q) (hAn : ∀ q : Nat, A q → s.heap.size ≤ q) (hbA : ¬ A b) (hSO : SO A s s.heap) {H : Heap} {locs : List Loc} {ls : Array Slot} {kI nC nS : Nat} (hkI : kI + 6 ≤ L) (hL : L ≤ 384) (hnC : nC + 250 ≤ 600000) (hnS : nS + 4440 ≤ 7302250) (hI : LINV G cy A H aX aM rR rB rO rK) (hS : va_S A s.heap H locs) (hl : lv_has ls 4 [(3, .int (nI kI)), (2, .ref (aM 0)), (1, .ref (aX 0)), (0, .ref b)]) (kk : ∀ (H : Heap) (locs : List Loc), LINV G cy A H aX aM rR rB rO rK → va_S A s.heap H locs → W p l e room_1 s m #[Value.ref b] below meth c H locs (nC + 250) (nS + 4440) (lw_Z below #[Value.ref b] s) (F0 m 1807 ls [])) : W p l e room_1 s m #[Value.ref b] below meth c H locs nC nS (lw_Z below #[Value.ref b] s) (F0 m 832 ls []) := by
  obtain ⟨iKp, iYe, iTv, fR, tA, tB, iL, iBs, tU, tV, fH, fS, fA, gE, kZ, iT1, iT2, iT3, iT4, fB, tD, fMh, fMo, fMz, gMv, fMk, fMa, fMt, kY, fMr, fM3, fMu, fMy, fMb, eR, tM, iEn, iTk, uP, uU, kAt, iTo, iFr, JFi, iFa, iSt, iLv, iWs, wL, uS0, uS1, uS2, uS3, uS4, iOm, hP, hD, hsX, hsM, hLR⟩ := hI
  refine lv_aload_n hx hb dL_law_832 rfl (lv_at hl 2 rfl) ?_
  refine lv_aload_n hx hb dL_law_833 rfl (lv_at hl 3 rfl) ?_
  refine lv_iload_n hx hb dL_law_834 rfl (lv_at hl 0 rfl) ?_
  refine lv_iconst (v := 1) hx hb dL_law_835 (by decide) ?_
  refine lv_iadd hx hb dL_law_836 ?_
  refine lv_seti (v := nI (kI + 1)) (nI_add _ _) ?_
  refine va_sld hx hb hX hbl hbA hS (vp_in_nI (by omega) (by omega)) dL_law_837 ?_
  refine lv_seti (v := xs (kI + 1)) (congrArg xs (nI_clamp (by omega))) ?_
  refine lv_aload_n hx hb dL_law_838 rfl (lv_at hl 3 rfl) ?_
  refine lv_iload_n hx hb dL_law_839 rfl (lv_at hl 0 rfl) ?_
  refine lv_iconst (v := 2) hx hb dL_law_840 (by decide) ?_
  refine lv_iadd hx hb dL_law_841 ?_
  refine lv_seti (v := nI (kI + 2)) (nI_add _ _) ?_
  refine va_sld hx hb hX hbl hbA hS (vp_in_nI (by omega) (by omega)) dL_law_842 ?_
  refine lv_seti (v := xs (kI + 2)) (congrArg xs (nI_clamp (by omega))) ?_
  refine lv_aload_n hx hb dL_law_843 rfl (lv_at hl 3 rfl) ?_
  refine lv_iload_n hx hb dL_law_844 rfl (lv_at hl 0 rfl) ?_
  refine lv_iconst (v := 3) hx hb dL_law_845 (by decide) ?_
  refine lv_iadd hx hb dL_law_846 ?_
  refine lv_seti (v := nI (kI + 3)) (nI_add _ _) ?_
  refine va_sld hx hb hX hbl hbA hS (vp_in_nI (by omega) (by omega)) dL_law_847 ?_
  refine lv_seti (v := xs (kI + 3)) (congrArg xs (nI_clamp (by omega))) ?_
  refine cViQ (As := [.int (xs (kI + 1)), .int (xs (kI + 2)), .int (xs (kI + 3))]) (rest := []) (b := (aX 0)) (q := (RX5, TX5, 9)) ⟨hx, hb, hml, hown, hts⟩ (p_X5_alter l G cy (H).size (aX 0) (aX 2) (aX 11) (aX 20) (aX 39) (aX 44) (aX 1) iKp iYe iTv fR tA (aX 3) (aX 4) (aX 5) (aX 6) (aX 7) (aX 8) (aX 9) (aX 10) (xs (kI + 1)) (xs (kI + 2)) (xs (kI + 3)) hsX.1.1 hsX.1.2) L_L_87 hN hP hD hS hA [0, 1, 2, 3, 4, 5, 6, 7, 8, 9, 10] [false, false, false, false, false, false, false, false, false, false, false, true, true, true, true, true, true, true, true, true, true, true, true, true, true, true, true, true, true, true, true, true, true, true, true, true, true, true, true, true, true, true, true, true, true, true, true, true, true, true, true, true, true, true, true] rfl (by decide +kernel) rfl 0 4 rfl rfl rfl ⟨Nat.le_of_ble_eq_true rfl, Nat.le_of_ble_eq_true rfl⟩ hl.1 (Nat.le_of_ble_eq_true rfl) dL_law_848 ⟨by show nC + 0 ≤ 600000; omega, by show nS + 0 ≤ 7302250; omega⟩ (fun r_1 u_3 H locs h_2 => ?_)
  clear hP hD hS
  intro hP hD hS
  obtain ⟨fX_4, tN_5, rfl, h_6, h_2⟩ := h_2
  replace hP : va_P G CL ((XW cy aX iKp iYe iTv fX_4 tN_5 tB iL iBs tU tV fH fS fA gE kZ iT1 iT2 iT3 iT4 fB tD) ++ ((MK cy aM rR rB rO rK fMh fMo fMz gMv fMk fMa fMt kY fMr fM3 fMu fMy fMb eR tM iEn iTk uP uU kAt iTo iFr JFi iFa iSt iLv iWs wL uS0 uS1 uS2 uS3 uS4 iOm) ++ ((oM cy uU) ++ ((oL cy wL) ++ ((oM cy uP) ++ (oM cy uS0 ++ (oM cy uS1 ++ (oM cy uS2 ++ (oM cy uS3 ++ oM cy uS4))))))))) H := hP.part [44, 45, 46, 47, 48, 49, 50, 51, 52, 53, 54, 0, 1, 2, 3, 4, 5, 6, 7, 8, 9, 10, 11, 12, 13, 14, 15, 16, 17, 18, 19, 20, 21, 22, 23, 24, 25, 26, 27, 28, 29, 30, 31, 32, 33, 34, 35, 36, 37, 38, 39, 40, 41, 42, 43] rfl
  replace hD : va_D A ((XW cy aX iKp iYe iTv fX_4 tN_5 tB iL iBs tU tV fH fS fA gE kZ iT1 iT2 iT3 iT4 fB tD) ++ ((MK cy aM rR rB rO rK fMh fMo fMz gMv fMk fMa fMt kY fMr fM3 fMu fMy fMb eR tM iEn iTk uP uU kAt iTo iFr JFi iFa iSt iLv iWs wL uS0 uS1 uS2 uS3 uS4 iOm) ++ ((oM cy uU) ++ ((oL cy wL) ++ ((oM cy uP) ++ (oM cy uS0 ++ (oM cy uS1 ++ (oM cy uS2 ++ (oM cy uS3 ++ oM cy uS4))))))))) := hD.part [44, 45, 46, 47, 48, 49, 50, 51, 52, 53, 54, 0, 1, 2, 3, 4, 5, 6, 7, 8, 9, 10, 11, 12, 13, 14, 15, 16, 17, 18, 19, 20, 21, 22, 23, 24, 25, 26, 27, 28, 29, 30, 31, 32, 33, 34, 35, 36, 37, 38, 39, 40, 41, 42, 43] (by decide +kernel) rfl
  refine lv_pop hx hb dL_law_851 rfl ?_
  refine lv_aload_n hx hb dL_law_852 rfl (lv_at hl 1 rfl) ?_
  refine lv_aload_n hx hb dL_law_853 rfl (lv_at hl 3 rfl) ?_
  refine lv_iload_n hx hb dL_law_854 rfl (lv_at hl 0 rfl) ?_
  refine lv_iconst (v := 1) hx hb dL_law_855 (by decide) ?_
  refine lv_iadd hx hb dL_law_856 ?_
  refine lv_seti (v := nI (kI + 1)) (nI_add _ _) ?_
  refine va_sld hx hb hX hbl hbA hS (vp_in_nI (by omega) (by omega)) dL_law_857 ?_
  refine lv_seti (v := xs (kI + 1)) (congrArg xs (nI_clamp (by omega))) ?_
  refine lv_aload_n hx hb dL_law_858 rfl (lv_at hl 3 rfl) ?_
  refine lv_iload_n hx hb dL_law_859 rfl (lv_at hl 0 rfl) ?_
  refine lv_iconst (v := 2) hx hb dL_law_860 (by decide) ?_
  refine lv_iadd hx hb dL_law_861 ?_
  refine lv_seti (v := nI (kI + 2)) (nI_add _ _) ?_
  refine va_sld hx hb hX hbl hbA hS (vp_in_nI (by omega) (by omega)) dL_law_862 ?_
  refine lv_seti (v := xs (kI + 2)) (congrArg xs (nI_clamp (by omega))) ?_
  refine lv_aload_n hx hb dL_law_863 rfl (lv_at hl 3 rfl) ?_
  refine lv_iload_n hx hb dL_law_864 rfl (lv_at hl 0 rfl) ?_
  refine lv_iconst (v := 3) hx hb dL_law_865 (by decide) ?_
  refine lv_iadd hx hb dL_law_866 ?_
  refine lv_seti (v := nI (kI + 3)) (nI_add _ _) ?_
  refine va_sld hx hb hX hbl hbA hS (vp_in_nI (by omega) (by omega)) dL_law_867 ?_
  refine lv_seti (v := xs (kI + 3)) (congrArg xs (nI_clamp (by omega))) ?_
  replace hP : va_P G CL ((MK cy aM rR rB rO rK fMh fMo fMz gMv fMk fMa fMt kY fMr fM3 fMu fMy fMb eR tM iEn iTk uP uU kAt iTo iFr JFi iFa iSt iLv iWs wL uS0 uS1 uS2 uS3 uS4 iOm) ++ (((oM cy uU) ++ ((oL cy wL) ++ ((oM cy uP) ++ (oM cy uS0 ++ (oM cy uS1 ++ (oM cy uS2 ++ (oM cy uS3 ++ oM cy uS4))))))) ++ (XW cy aX iKp iYe iTv fX_4 tN_5 tB iL iBs tU tV fH fS fA gE kZ iT1 iT2 iT3 iT4 fB tD))) H := toNP hP
  replace hD : va_D A ((MK cy aM rR rB rO rK fMh fMo fMz gMv fMk fMa fMt kY fMr fM3 fMu fMy fMb eR tM iEn iTk uP uU kAt iTo iFr JFi iFa iSt iLv iWs wL uS0 uS1 uS2 uS3 uS4 iOm) ++ (((oM cy uU) ++ ((oL cy wL) ++ ((oM cy uP) ++ (oM cy uS0 ++ (oM cy uS1 ++ (oM cy uS2 ++ (oM cy uS3 ++ oM cy uS4))))))) ++ (XW cy aX iKp iYe iTv fX_4 tN_5 tB iL iBs tU tV fH fS fA gE kZ iT1 iT2 iT3 iT4 fB tD))) := toND hD
  refine cViQ (As := [.int (xs (kI + 1)), .int (xs (kI + 2)), .int (xs (kI + 3))]) (rest := []) (b := (aM 0)) (q := (RX6, TX6, 35)) ⟨hx, hb, hml, hown, hts⟩ (p_X6_alter l G cy (H).size (aM 0) (aM 1) (aM 2) (aM 3) (aM 14) (aM 4) (aM 5) (aM 6) (aM 7) kY (aM 8) tM (aM 15) (aM 16) (aM 17) iEn iTk uP uU kAt iTo iFr JFi iFa (aM 9) iSt iLv iWs (ovL wL) (aM 10) (aM 11) (aM 12) (aM 13) iOm rB rO rK fMr (xs (kI + 1)) (xs (kI + 2)) (xs (kI + 3)) hsM.1.1.1 hsM.1.1.2 hsM.1) L_L_90 hN hP hD hS hA [0, 23, 24, 25, 26, 27, 28, 29, 30, 31, 32, 33, 34, 35, 36, 37, 38, 39, 40, 41, 42, 43, 44, 45, 46, 47, 48, 49, 8] [false, true, true, true, true, true, true, true, false, true, true, true, true, true, true, true, true, true, true, true, true, true, true, false, false, false, false, false, false, false, false, false, false, false, false, false, false, false, false, false, false, false, false, false, false, false, false, false, false, false] rfl (by decide +kernel) rfl 0 5 rfl rfl rfl ⟨Nat.le_of_ble_eq_true rfl, Nat.le_of_ble_eq_true rfl⟩ hl.1 (Nat.le_of_ble_eq_true rfl) dL_law_868 ⟨by show nC + 0 + 0 ≤ 600000; omega, by show nS + 0 + 0 ≤ 7302250; omega⟩ (fun r_7 u_9 H locs h_8 => ?_)
  clear hP hD hS
  intro hP hD hS
  obtain ⟨tN_10, fNr_11, rfl, h_12, h_8⟩ := h_8
  replace hP : va_P G CL ((MK cy aM rR rB rO rK fMh fMo fMz gMv fMk fMa fMt kY fNr_11 fM3 fMu fMy fMb eR tN_10 iEn iTk uP uU kAt iTo iFr JFi iFa iSt iLv iWs wL uS0 uS1 uS2 uS3 uS4 iOm) ++ (((oM cy uU) ++ ((oL cy wL) ++ ((oM cy uP) ++ (oM cy uS0 ++ (oM cy uS1 ++ (oM cy uS2 ++ (oM cy uS3 ++ oM cy uS4))))))) ++ (XW cy aX iKp iYe iTv fX_4 tN_5 tB iL iBs tU tV fH fS fA gE kZ iT1 iT2 iT3 iT4 fB tD))) H := hP.part [21, 0, 1, 2, 3, 4, 5, 6, 49, 7, 8, 9, 10, 11, 12, 13, 14, 15, 16, 17, 18, 19, 20, 22, 23, 24, 25, 26, 27, 28, 29, 30, 31, 32, 33, 34, 35, 36, 37, 38, 39, 40, 41, 42, 43, 44, 45, 46, 47, 48] rfl
  replace hD : va_D A ((MK cy aM rR rB rO rK fMh fMo fMz gMv fMk fMa fMt kY fNr_11 fM3 fMu fMy fMb eR tN_10 iEn iTk uP uU kAt iTo iFr JFi iFa iSt iLv iWs wL uS0 uS1 uS2 uS3 uS4 iOm) ++ (((oM cy uU) ++ ((oL cy wL) ++ ((oM cy uP) ++ (oM cy uS0 ++ (oM cy uS1 ++ (oM cy uS2 ++ (oM cy uS3 ++ oM cy uS4))))))) ++ (XW cy aX iKp iYe iTv fX_4 tN_5 tB iL iBs tU tV fH fS fA gE kZ iT1 iT2 iT3 iT4 fB tD))) := hD.part [21, 0, 1, 2, 3, 4, 5, 6, 49, 7, 8, 9, 10, 11, 12, 13, 14, 15, 16, 17, 18, 19, 20, 22, 23, 24, 25, 26, 27, 28, 29, 30, 31, 32, 33, 34, 35, 36, 37, 38, 39, 40, 41, 42, 43, 44, 45, 46, 47, 48] (by decide +kernel) rfl
  replace hP : va_P G CL ((XW cy aX iKp iYe iTv fX_4 tN_5 tB iL iBs tU tV fH fS fA gE kZ iT1 iT2 iT3 iT4 fB tD) ++ ((MK cy aM rR rB rO rK fMh fMo fMz gMv fMk fMa fMt kY fNr_11 fM3 fMu fMy fMb eR tN_10 iEn iTk uP uU kAt iTo iFr JFi iFa iSt iLv iWs wL uS0 uS1 uS2 uS3 uS4 iOm) ++ ((oM cy uU) ++ ((oL cy wL) ++ ((oM cy uP) ++ (oM cy uS0 ++ (oM cy uS1 ++ (oM cy uS2 ++ (oM cy uS3 ++ oM cy uS4))))))))) H := ofNP hP
  replace hD : va_D A ((XW cy aX iKp iYe iTv fX_4 tN_5 tB iL iBs tU tV fH fS fA gE kZ iT1 iT2 iT3 iT4 fB tD) ++ ((MK cy aM rR rB rO rK fMh fMo fMz gMv fMk fMa fMt kY fNr_11 fM3 fMu fMy fMb eR tN_10 iEn iTk uP uU kAt iTo iFr JFi iFa iSt iLv iWs wL uS0 uS1 uS2 uS3 uS4 iOm) ++ ((oM cy uU) ++ ((oL cy wL) ++ ((oM cy uP) ++ (oM cy uS0 ++ (oM cy uS1 ++ (oM cy uS2 ++ (oM cy uS3 ++ oM cy uS4))))))))) := ofND hD
  refine lv_pop hx hb dL_law_871 rfl ?_
  refine lv_goto (tgt := 1807) hx hb dL_law_872 (by decide) ?_
  refine W.widen (k := nC + 250) (n := nS + 4440) (by omega) (by omega) ?_
  exact kk _ _ ⟨iKp, iYe, iTv, fX_4, tN_5, tB, iL, iBs, tU, tV, fH, fS, fA, gE, kZ, iT1, iT2, iT3, iT4, fB, tD, fMh, fMo, fMz, gMv, fMk, fMa, fMt, kY, fNr_11, fM3, fMu, fMy, fMb, eR, tN_10, iEn, iTk, uP, uU, kAt, iTo, iFr, JFi, iFa, iSt, iLv, iWs, wL, uS0, uS1, uS2, uS3, uS4, iOm, hP, hD, sx_t hsX (nb_alter hsX.1 h_6), sm_t hsM h_12, trivial⟩ hS
set_option maxHeartbeats 4000000 in
set_option maxRecDepth 100000 in
theorem law_17 {p : Program} {l : Launch} {e : Env} {s : State} {m : MethodId} {below : List Frame} {meth : Method} {c : Code} {b L : Nat} {xs : Nat → Int32} {A : Nat → Prop} {G : va_G} {cy : Nat → ClassId} {aX aM rR rB rO rK : Nat → Nat} (hx : p.tables.exec = Jvm.exec) (hb : c.code = code) (hr : meth.sig.returnType = ret) (hml : c.maxLocals = 4) (hown : s.vm.findClass RL = some m.cls) (hts : ∀ w ∈ BIG, w.before #[Value.ref b] s = true) (hX : va_X b L xs s s.heap) (hbl : b < s.heap.size) (hlocks : meth.locks = false) (hN : KN G cy s) (hA : ∀ q : Nat, s.heap.size ≤ q → A q) (hAn : ∀ q : Nat, A q → s.heap.size ≤ q) (hbA : ¬ A b) (hSO : SO A s s.heap) {H : Heap} {locs : List Loc} {ls : Array Slot} {kI nC nS : Nat} (hkI : kI + 6 ≤ L) (hL : L ≤ 384) (hnC : nC + 250 ≤ 600000) (hnS : nS + 4440 ≤ 7302250) (hI : LINV G cy A H aX aM rR rB rO rK) (hS : va_S A s.heap H locs) (hl : lv_has ls 4 [(3, .int (nI kI)), (2, .ref (aM 0)), (1, .ref (aX 0)), (0, .ref b)]) (kk : ∀ (H : Heap) (locs : List Loc), LINV G cy A H aX aM rR rB rO rK → va_S A s.heap H locs → W p l e room_1 s m #[Value.ref b] below meth c H locs (nC + 250) (nS + 4440) (lw_Z below #[Value.ref b] s) (F0 m 1807 ls [])) : W p l e room_1 s m #[Value.ref b] below meth c H locs nC nS (lw_Z below #[Value.ref b] s) (F0 m 875 ls []) := by
  obtain ⟨iKp, iYe, iTv, fR, tA, tB, iL, iBs, tU, tV, fH, fS, fA, gE, kZ, iT1, iT2, iT3, iT4, fB, tD, fMh, fMo, fMz, gMv, fMk, fMa, fMt, kY, fMr, fM3, fMu, fMy, fMb, eR, tM, iEn, iTk, uP, uU, kAt, iTo, iFr, JFi, iFa, iSt, iLv, iWs, wL, uS0, uS1, uS2, uS3, uS4, iOm, hP, hD, hsX, hsM, hLR⟩ := hI
  refine lv_aload_n hx hb dL_law_875 rfl (lv_at hl 2 rfl) ?_
  refine lv_aload_n hx hb dL_law_876 rfl (lv_at hl 3 rfl) ?_
  refine lv_iload_n hx hb dL_law_877 rfl (lv_at hl 0 rfl) ?_
  refine lv_iconst (v := 1) hx hb dL_law_878 (by decide) ?_
  refine lv_iadd hx hb dL_law_879 ?_
  refine lv_seti (v := nI (kI + 1)) (nI_add _ _) ?_
  refine va_sld hx hb hX hbl hbA hS (vp_in_nI (by omega) (by omega)) dL_law_880 ?_
  refine lv_seti (v := xs (kI + 1)) (congrArg xs (nI_clamp (by omega))) ?_
  refine lv_aload_n hx hb dL_law_881 rfl (lv_at hl 3 rfl) ?_
  refine lv_iload_n hx hb dL_law_882 rfl (lv_at hl 0 rfl) ?_
  refine lv_iconst (v := 2) hx hb dL_law_883 (by decide) ?_
  refine lv_iadd hx hb dL_law_884 ?_
  refine lv_seti (v := nI (kI + 2)) (nI_add _ _) ?_
  refine va_sld hx hb hX hbl hbA hS (vp_in_nI (by omega) (by omega)) dL_law_885 ?_
  refine lv_seti (v := xs (kI + 2)) (congrArg xs (nI_clamp (by omega))) ?_
  refine cViQ (As := [.int (xs (kI + 1)), .int (xs (kI + 2))]) (rest := []) (b := (aX 0)) (q := (RX5, TX5, 9)) ⟨hx, hb, hml, hown, hts⟩ (p_X5_ground l G cy (H).size (aX 0) (aX 2) (aX 11) (aX 20) (aX 39) (aX 44) (aX 1) iKp iYe iTv fR tA (aX 3) (aX 4) (aX 5) (aX 6) (aX 7) (aX 8) (aX 9) (aX 10) (xs (kI + 1)) (xs (kI + 2)) hsX.1.1 hsX.1.2) L_L_91 hN hP hD hS hA [0, 1, 2, 3, 4, 5, 6, 7, 8, 9, 10] [false, false, false, false, false, false, false, false, false, false, false, true, true, true, true, true, true, true, true, true, true, true, true, true, true, true, true, true, true, true, true, true, true, true, true, true, true, true, true, true, true, true, true, true, true, true, true, true, true, true, true, true, true, true, true] rfl (by decide +kernel) rfl 0 4 rfl rfl rfl ⟨Nat.le_of_ble_eq_true rfl, Nat.le_of_ble_eq_true rfl⟩ hl.1 (Nat.le_of_ble_eq_true rfl) dL_law_886 ⟨by show nC + 0 ≤ 600000; omega, by show nS + 0 ≤ 7302250; omega⟩ (fun r_1 u_3 H locs h_2 => ?_)
  clear hP hD hS
  intro hP hD hS
  obtain ⟨fX_4, rfl, h_2⟩ := h_2
  replace hP : va_P G CL ((XW cy aX iKp iYe iTv fX_4 tA tB iL iBs tU tV fH fS fA gE kZ iT1 iT2 iT3 iT4 fB tD) ++ ((MK cy aM rR rB rO rK fMh fMo fMz gMv fMk fMa fMt kY fMr fM3 fMu fMy fMb eR tM iEn iTk uP uU kAt iTo iFr JFi iFa iSt iLv iWs wL uS0 uS1 uS2 uS3 uS4 iOm) ++ ((oM cy uU) ++ ((oL cy wL) ++ ((oM cy uP) ++ (oM cy uS0 ++ (oM cy uS1 ++ (oM cy uS2 ++ (oM cy uS3 ++ oM cy uS4))))))))) H := hP.part [44, 45, 46, 47, 48, 49, 50, 51, 52, 53, 54, 0, 1, 2, 3, 4, 5, 6, 7, 8, 9, 10, 11, 12, 13, 14, 15, 16, 17, 18, 19, 20, 21, 22, 23, 24, 25, 26, 27, 28, 29, 30, 31, 32, 33, 34, 35, 36, 37, 38, 39, 40, 41, 42, 43] rfl
  replace hD : va_D A ((XW cy aX iKp iYe iTv fX_4 tA tB iL iBs tU tV fH fS fA gE kZ iT1 iT2 iT3 iT4 fB tD) ++ ((MK cy aM rR rB rO rK fMh fMo fMz gMv fMk fMa fMt kY fMr fM3 fMu fMy fMb eR tM iEn iTk uP uU kAt iTo iFr JFi iFa iSt iLv iWs wL uS0 uS1 uS2 uS3 uS4 iOm) ++ ((oM cy uU) ++ ((oL cy wL) ++ ((oM cy uP) ++ (oM cy uS0 ++ (oM cy uS1 ++ (oM cy uS2 ++ (oM cy uS3 ++ oM cy uS4))))))))) := hD.part [44, 45, 46, 47, 48, 49, 50, 51, 52, 53, 54, 0, 1, 2, 3, 4, 5, 6, 7, 8, 9, 10, 11, 12, 13, 14, 15, 16, 17, 18, 19, 20, 21, 22, 23, 24, 25, 26, 27, 28, 29, 30, 31, 32, 33, 34, 35, 36, 37, 38, 39, 40, 41, 42, 43] (by decide +kernel) rfl
  refine lv_pop hx hb dL_law_889 rfl ?_
  refine lv_aload_n hx hb dL_law_890 rfl (lv_at hl 1 rfl) ?_
  refine lv_aload_n hx hb dL_law_891 rfl (lv_at hl 3 rfl) ?_
  refine lv_iload_n hx hb dL_law_892 rfl (lv_at hl 0 rfl) ?_
  refine lv_iconst (v := 1) hx hb dL_law_893 (by decide) ?_
  refine lv_iadd hx hb dL_law_894 ?_
  refine lv_seti (v := nI (kI + 1)) (nI_add _ _) ?_
  refine va_sld hx hb hX hbl hbA hS (vp_in_nI (by omega) (by omega)) dL_law_895 ?_
  refine lv_seti (v := xs (kI + 1)) (congrArg xs (nI_clamp (by omega))) ?_
  refine lv_aload_n hx hb dL_law_896 rfl (lv_at hl 3 rfl) ?_
  refine lv_iload_n hx hb dL_law_897 rfl (lv_at hl 0 rfl) ?_
  refine lv_iconst (v := 2) hx hb dL_law_898 (by decide) ?_
  refine lv_iadd hx hb dL_law_899 ?_
  refine lv_seti (v := nI (kI + 2)) (nI_add _ _) ?_
  refine va_sld hx hb hX hbl hbA hS (vp_in_nI (by omega) (by omega)) dL_law_900 ?_
  refine lv_seti (v := xs (kI + 2)) (congrArg xs (nI_clamp (by omega))) ?_
  replace hP : va_P G CL ((MK cy aM rR rB rO rK fMh fMo fMz gMv fMk fMa fMt kY fMr fM3 fMu fMy fMb eR tM iEn iTk uP uU kAt iTo iFr JFi iFa iSt iLv iWs wL uS0 uS1 uS2 uS3 uS4 iOm) ++ (((oM cy uU) ++ ((oL cy wL) ++ ((oM cy uP) ++ (oM cy uS0 ++ (oM cy uS1 ++ (oM cy uS2 ++ (oM cy uS3 ++ oM cy uS4))))))) ++ (XW cy aX iKp iYe iTv fX_4 tA tB iL iBs tU tV fH fS fA gE kZ iT1 iT2 iT3 iT4 fB tD))) H := toNP hP
  replace hD : va_D A ((MK cy aM rR rB rO rK fMh fMo fMz gMv fMk fMa fMt kY fMr fM3 fMu fMy fMb eR tM iEn iTk uP uU kAt iTo iFr JFi iFa iSt iLv iWs wL uS0 uS1 uS2 uS3 uS4 iOm) ++ (((oM cy uU) ++ ((oL cy wL) ++ ((oM cy uP) ++ (oM cy uS0 ++ (oM cy uS1 ++ (oM cy uS2 ++ (oM cy uS3 ++ oM cy uS4))))))) ++ (XW cy aX iKp iYe iTv fX_4 tA tB iL iBs tU tV fH fS fA gE kZ iT1 iT2 iT3 iT4 fB tD))) := toND hD
  refine cViQ (As := [.int (xs (kI + 1)), .int (xs (kI + 2))]) (rest := []) (b := (aM 0)) (q := (RX6, TX6, 35)) ⟨hx, hb, hml, hown, hts⟩ (p_X6_ground l G cy (H).size (aM 0) (aM 1) (aM 2) (aM 3) (aM 14) (aM 4) (aM 5) (aM 6) (aM 7) kY (aM 8) tM (aM 15) (aM 16) (aM 17) iEn iTk uP uU kAt iTo iFr JFi iFa (aM 9) iSt iLv iWs (ovL wL) (aM 10) (aM 11) (aM 12) (aM 13) iOm rB rO rK fMr (xs (kI + 1)) (xs (kI + 2)) hsM.1.1.1 hsM.1.1.2 hsM.1) L_L_94 hN hP hD hS hA [0, 23, 24, 25, 26, 27, 28, 29, 30, 31, 32, 33, 34, 35, 36, 37, 38, 39, 40, 41, 42, 43, 44, 45, 46, 47, 48, 49, 8] [false, true, true, true, true, true, true, true, false, true, true, true, true, true, true, true, true, true, true, true, true, true, true, false, false, false, false, false, false, false, false, false, false, false, false, false, false, false, false, false, false, false, false, false, false, false, false, false, false, false] rfl (by decide +kernel) rfl 0 5 rfl rfl rfl ⟨Nat.le_of_ble_eq_true rfl, Nat.le_of_ble_eq_true rfl⟩ hl.1 (Nat.le_of_ble_eq_true rfl) dL_law_901 ⟨by show nC + 0 + 0 ≤ 600000; omega, by show nS + 0 + 0 ≤ 7302250; omega⟩ (fun r_5 u_7 H locs h_6 => ?_)
  clear hP hD hS
  intro hP hD hS
  obtain ⟨fNr_8, rfl, h_6⟩ := h_6
  replace hP : va_P G CL ((MK cy aM rR rB rO rK fMh fMo fMz gMv fMk fMa fMt kY fNr_8 fM3 fMu fMy fMb eR tM iEn iTk uP uU kAt iTo iFr JFi iFa iSt iLv iWs wL uS0 uS1 uS2 uS3 uS4 iOm) ++ (((oM cy uU) ++ ((oL cy wL) ++ ((oM cy uP) ++ (oM cy uS0 ++ (oM cy uS1 ++ (oM cy uS2 ++ (oM cy uS3 ++ oM cy uS4))))))) ++ (XW cy aX iKp iYe iTv fX_4 tA tB iL iBs tU tV fH fS fA gE kZ iT1 iT2 iT3 iT4 fB tD))) H := hP.part [21, 0, 1, 2, 3, 4, 5, 6, 49, 7, 8, 9, 10, 11, 12, 13, 14, 15, 16, 17, 18, 19, 20, 22, 23, 24, 25, 26, 27, 28, 29, 30, 31, 32, 33, 34, 35, 36, 37, 38, 39, 40, 41, 42, 43, 44, 45, 46, 47, 48] rfl
  replace hD : va_D A ((MK cy aM rR rB rO rK fMh fMo fMz gMv fMk fMa fMt kY fNr_8 fM3 fMu fMy fMb eR tM iEn iTk uP uU kAt iTo iFr JFi iFa iSt iLv iWs wL uS0 uS1 uS2 uS3 uS4 iOm) ++ (((oM cy uU) ++ ((oL cy wL) ++ ((oM cy uP) ++ (oM cy uS0 ++ (oM cy uS1 ++ (oM cy uS2 ++ (oM cy uS3 ++ oM cy uS4))))))) ++ (XW cy aX iKp iYe iTv fX_4 tA tB iL iBs tU tV fH fS fA gE kZ iT1 iT2 iT3 iT4 fB tD))) := hD.part [21, 0, 1, 2, 3, 4, 5, 6, 49, 7, 8, 9, 10, 11, 12, 13, 14, 15, 16, 17, 18, 19, 20, 22, 23, 24, 25, 26, 27, 28, 29, 30, 31, 32, 33, 34, 35, 36, 37, 38, 39, 40, 41, 42, 43, 44, 45, 46, 47, 48] (by decide +kernel) rfl
  replace hP : va_P G CL ((XW cy aX iKp iYe iTv fX_4 tA tB iL iBs tU tV fH fS fA gE kZ iT1 iT2 iT3 iT4 fB tD) ++ ((MK cy aM rR rB rO rK fMh fMo fMz gMv fMk fMa fMt kY fNr_8 fM3 fMu fMy fMb eR tM iEn iTk uP uU kAt iTo iFr JFi iFa iSt iLv iWs wL uS0 uS1 uS2 uS3 uS4 iOm) ++ ((oM cy uU) ++ ((oL cy wL) ++ ((oM cy uP) ++ (oM cy uS0 ++ (oM cy uS1 ++ (oM cy uS2 ++ (oM cy uS3 ++ oM cy uS4))))))))) H := ofNP hP
  replace hD : va_D A ((XW cy aX iKp iYe iTv fX_4 tA tB iL iBs tU tV fH fS fA gE kZ iT1 iT2 iT3 iT4 fB tD) ++ ((MK cy aM rR rB rO rK fMh fMo fMz gMv fMk fMa fMt kY fNr_8 fM3 fMu fMy fMb eR tM iEn iTk uP uU kAt iTo iFr JFi iFa iSt iLv iWs wL uS0 uS1 uS2 uS3 uS4 iOm) ++ ((oM cy uU) ++ ((oL cy wL) ++ ((oM cy uP) ++ (oM cy uS0 ++ (oM cy uS1 ++ (oM cy uS2 ++ (oM cy uS3 ++ oM cy uS4))))))))) := ofND hD
  refine lv_pop hx hb dL_law_904 rfl ?_
  refine lv_goto (tgt := 1807) hx hb dL_law_905 (by decide) ?_
  refine W.widen (k := nC + 250) (n := nS + 4440) (by omega) (by omega) ?_
  exact kk _ _ ⟨iKp, iYe, iTv, fX_4, tA, tB, iL, iBs, tU, tV, fH, fS, fA, gE, kZ, iT1, iT2, iT3, iT4, fB, tD, fMh, fMo, fMz, gMv, fMk, fMa, fMt, kY, fNr_8, fM3, fMu, fMy, fMb, eR, tM, iEn, iTk, uP, uU, kAt, iTo, iFr, JFi, iFa, iSt, iLv, iWs, wL, uS0, uS1, uS2, uS3, uS4, iOm, hP, hD, hsX, hsM, trivial⟩ hS
set_option maxHeartbeats 4000000 in
set_option maxRecDepth 100000 in
theorem law_18 {p : Program} {l : Launch} {e : Env} {s : State} {m : MethodId} {below : List Frame} {meth : Method} {c : Code} {b L : Nat} {xs : Nat → Int32} {A : Nat → Prop} {G : va_G} {cy : Nat → ClassId} {aX aM rR rB rO rK : Nat → Nat} (hx : p.tables.exec = Jvm.exec) (hb : c.code = code) (hr : meth.sig.returnType = ret) (hml : c.maxLocals = 4) (hown : s.vm.findClass RL = some m.cls) (hts : ∀ w ∈ BIG, w.before #[Value.ref b] s = true) (hX : va_X b L xs s s.heap) (hbl : b < s.heap.size) (hlocks : meth.locks = false) (hN : KN G cy s) (hA : ∀ q : Nat, s.heap.size ≤ q → A q) (hAn : ∀ q : Nat, A q → s.heap.size ≤ q) (hbA : ¬ A b) (hSO : SO A s s.heap) {H : Heap} {locs : List Loc} {ls : Array Slot} {kI nC nS : Nat} (hkI : kI + 6 ≤ L) (hL : L ≤ 384) (hnC : nC + 250 ≤ 600000) (hnS : nS + 4440 ≤ 7302250) (hI : LINV G cy A H aX aM rR rB rO rK) (hS : va_S A s.heap H locs) (hl : lv_has ls 4 [(3, .int (nI kI)), (2, .ref (aM 0)), (1, .ref (aX 0)), (0, .ref b)]) (kk : ∀ (H : Heap) (locs : List Loc), LINV G cy A H aX aM rR rB rO rK → va_S A s.heap H locs → W p l e room_1 s m #[Value.ref b] below meth c H locs (nC + 250) (nS + 4440) (lw_Z below #[Value.ref b] s) (F0 m 1807 ls [])) : W p l e room_1 s m #[Value.ref b] below meth c H locs nC nS (lw_Z below #[Value.ref b] s) (F0 m 908 ls []) := by
  obtain ⟨iKp, iYe, iTv, fR, tA, tB, iL, iBs, tU, tV, fH, fS, fA, gE, kZ, iT1, iT2, iT3, iT4, fB, tD, fMh, fMo, fMz, gMv, fMk, fMa, fMt, kY, fMr, fM3, fMu, fMy, fMb, eR, tM, iEn, iTk, uP, uU, kAt, iTo, iFr, JFi, iFa, iSt, iLv, iWs, wL, uS0, uS1, uS2, uS3, uS4, iOm, hP, hD, hsX, hsM, hLR⟩ := hI
  refine lv_aload_n hx hb dL_law_908 rfl (lv_at hl 2 rfl) ?_
  refine lv_aload_n hx hb dL_law_909 rfl (lv_at hl 3 rfl) ?_
  refine lv_iload_n hx hb dL_law_910 rfl (lv_at hl 0 rfl) ?_
  refine lv_iconst (v := 1) hx hb dL_law_911 (by decide) ?_
  refine lv_iadd hx hb dL_law_912 ?_
  refine lv_seti (v := nI (kI + 1)) (nI_add _ _) ?_
  refine va_sld hx hb hX hbl hbA hS (vp_in_nI (by omega) (by omega)) dL_law_913 ?_
  refine lv_seti (v := xs (kI + 1)) (congrArg xs (nI_clamp (by omega))) ?_
  refine lv_aload_n hx hb dL_law_914 rfl (lv_at hl 3 rfl) ?_
  refine lv_iload_n hx hb dL_law_915 rfl (lv_at hl 0 rfl) ?_
  refine lv_iconst (v := 2) hx hb dL_law_916 (by decide) ?_
  refine lv_iadd hx hb dL_law_917 ?_
  refine lv_seti (v := nI (kI + 2)) (nI_add _ _) ?_
  refine va_sld hx hb hX hbl hbA hS (vp_in_nI (by omega) (by omega)) dL_law_918 ?_
  refine lv_seti (v := xs (kI + 2)) (congrArg xs (nI_clamp (by omega))) ?_
  refine cViQ (As := [.int (xs (kI + 1)), .int (xs (kI + 2))]) (rest := []) (b := (aX 0)) (q := (RX5, TX5, 9)) ⟨hx, hb, hml, hown, hts⟩ (p_X5_would l G cy (H).size (aX 0) (aX 2) (aX 11) (aX 20) (aX 39) (aX 44) (aX 1) iKp iYe iTv fR tA (aX 3) (aX 4) (aX 5) (aX 6) (aX 7) (aX 8) (aX 9) (aX 10) (xs (kI + 1)) (xs (kI + 2)) hsX.1.1 hsX.1.2) L_L_95 hN hP hD hS hA [0, 1, 2, 3, 4, 5, 6, 7, 8, 9, 10] [false, false, false, false, false, false, false, false, false, false, false, true, true, true, true, true, true, true, true, true, true, true, true, true, true, true, true, true, true, true, true, true, true, true, true, true, true, true, true, true, true, true, true, true, true, true, true, true, true, true, true, true, true, true, true] rfl (by decide +kernel) rfl 0 4 rfl rfl rfl ⟨Nat.le_of_ble_eq_true rfl, Nat.le_of_ble_eq_true rfl⟩ hl.1 (Nat.le_of_ble_eq_true rfl) dL_law_919 ⟨by show nC + 0 ≤ 600000; omega, by show nS + 0 ≤ 7302250; omega⟩ (fun r_1 u_3 H locs h_2 => ?_)
  clear hP hD hS
  intro hP hD hS
  obtain ⟨fX_4, rfl, h_2⟩ := h_2
  replace hP : va_P G CL ((XW cy aX iKp iYe iTv fX_4 tA tB iL iBs tU tV fH fS fA gE kZ iT1 iT2 iT3 iT4 fB tD) ++ ((MK cy aM rR rB rO rK fMh fMo fMz gMv fMk fMa fMt kY fMr fM3 fMu fMy fMb eR tM iEn iTk uP uU kAt iTo iFr JFi iFa iSt iLv iWs wL uS0 uS1 uS2 uS3 uS4 iOm) ++ ((oM cy uU) ++ ((oL cy wL) ++ ((oM cy uP) ++ (oM cy uS0 ++ (oM cy uS1 ++ (oM cy uS2 ++ (oM cy uS3 ++ oM cy uS4))))))))) H := hP.part [44, 45, 46, 47, 48, 49, 50, 51, 52, 53, 54, 0, 1, 2, 3, 4, 5, 6, 7, 8, 9, 10, 11, 12, 13, 14, 15, 16, 17, 18, 19, 20, 21, 22, 23, 24, 25, 26, 27, 28, 29, 30, 31, 32, 33, 34, 35, 36, 37, 38, 39, 40, 41, 42, 43] rfl
  replace hD : va_D A ((XW cy aX iKp iYe iTv fX_4 tA tB iL iBs tU tV fH fS fA gE kZ iT1 iT2 iT3 iT4 fB tD) ++ ((MK cy aM rR rB rO rK fMh fMo fMz gMv fMk fMa fMt kY fMr fM3 fMu fMy fMb eR tM iEn iTk uP uU kAt iTo iFr JFi iFa iSt iLv iWs wL uS0 uS1 uS2 uS3 uS4 iOm) ++ ((oM cy uU) ++ ((oL cy wL) ++ ((oM cy uP) ++ (oM cy uS0 ++ (oM cy uS1 ++ (oM cy uS2 ++ (oM cy uS3 ++ oM cy uS4))))))))) := hD.part [44, 45, 46, 47, 48, 49, 50, 51, 52, 53, 54, 0, 1, 2, 3, 4, 5, 6, 7, 8, 9, 10, 11, 12, 13, 14, 15, 16, 17, 18, 19, 20, 21, 22, 23, 24, 25, 26, 27, 28, 29, 30, 31, 32, 33, 34, 35, 36, 37, 38, 39, 40, 41, 42, 43] (by decide +kernel) rfl
  refine lv_pop hx hb dL_law_922 rfl ?_
  refine lv_aload_n hx hb dL_law_923 rfl (lv_at hl 1 rfl) ?_
  refine lv_aload_n hx hb dL_law_924 rfl (lv_at hl 3 rfl) ?_
  refine lv_iload_n hx hb dL_law_925 rfl (lv_at hl 0 rfl) ?_
  refine lv_iconst (v := 1) hx hb dL_law_926 (by decide) ?_
  refine lv_iadd hx hb dL_law_927 ?_
  refine lv_seti (v := nI (kI + 1)) (nI_add _ _) ?_
  refine va_sld hx hb hX hbl hbA hS (vp_in_nI (by omega) (by omega)) dL_law_928 ?_
  refine lv_seti (v := xs (kI + 1)) (congrArg xs (nI_clamp (by omega))) ?_
  refine lv_aload_n hx hb dL_law_929 rfl (lv_at hl 3 rfl) ?_
  refine lv_iload_n hx hb dL_law_930 rfl (lv_at hl 0 rfl) ?_
  refine lv_iconst (v := 2) hx hb dL_law_931 (by decide) ?_
  refine lv_iadd hx hb dL_law_932 ?_
  refine lv_seti (v := nI (kI + 2)) (nI_add _ _) ?_
  refine va_sld hx hb hX hbl hbA hS (vp_in_nI (by omega) (by omega)) dL_law_933 ?_
  refine lv_seti (v := xs (kI + 2)) (congrArg xs (nI_clamp (by omega))) ?_
  replace hP : va_P G CL ((MK cy aM rR rB rO rK fMh fMo fMz gMv fMk fMa fMt kY fMr fM3 fMu fMy fMb eR tM iEn iTk uP uU kAt iTo iFr JFi iFa iSt iLv iWs wL uS0 uS1 uS2 uS3 uS4 iOm) ++ (((oM cy uU) ++ ((oL cy wL) ++ ((oM cy uP) ++ (oM cy uS0 ++ (oM cy uS1 ++ (oM cy uS2 ++ (oM cy uS3 ++ oM cy uS4))))))) ++ (XW cy aX iKp iYe iTv fX_4 tA tB iL iBs tU tV fH fS fA gE kZ iT1 iT2 iT3 iT4 fB tD))) H := toNP hP
  replace hD : va_D A ((MK cy aM rR rB rO rK fMh fMo fMz gMv fMk fMa fMt kY fMr fM3 fMu fMy fMb eR tM iEn iTk uP uU kAt iTo iFr JFi iFa iSt iLv iWs wL uS0 uS1 uS2 uS3 uS4 iOm) ++ (((oM cy uU) ++ ((oL cy wL) ++ ((oM cy uP) ++ (oM cy uS0 ++ (oM cy uS1 ++ (oM cy uS2 ++ (oM cy uS3 ++ oM cy uS4))))))) ++ (XW cy aX iKp iYe iTv fX_4 tA tB iL iBs tU tV fH fS fA gE kZ iT1 iT2 iT3 iT4 fB tD))) := toND hD
  refine cViQ (As := [.int (xs (kI + 1)), .int (xs (kI + 2))]) (rest := []) (b := (aM 0)) (q := (RX6, TX6, 35)) ⟨hx, hb, hml, hown, hts⟩ (p_X6_would l G cy (H).size (aM 0) (aM 1) (aM 2) (aM 3) (aM 14) (aM 4) (aM 5) (aM 6) (aM 7) kY (aM 8) tM (aM 15) (aM 16) (aM 17) iEn iTk uP uU kAt iTo iFr JFi iFa (aM 9) iSt iLv iWs (ovL wL) (aM 10) (aM 11) (aM 12) (aM 13) iOm rB rO rK fMr (xs (kI + 1)) (xs (kI + 2)) hsM.1.1.1 hsM.1.1.2 hsM.1) L_L_98 hN hP hD hS hA [0, 23, 24, 25, 26, 27, 28, 29, 30, 31, 32, 33, 34, 35, 36, 37, 38, 39, 40, 41, 42, 43, 44, 45, 46, 47, 48, 49, 8] [false, true, true, true, true, true, true, true, false, true, true, true, true, true, true, true, true, true, true, true, true, true, true, false, false, false, false, false, false, false, false, false, false, false, false, false, false, false, false, false, false, false, false, false, false, false, false, false, false, false] rfl (by decide +kernel) rfl 0 5 rfl rfl rfl ⟨Nat.le_of_ble_eq_true rfl, Nat.le_of_ble_eq_true rfl⟩ hl.1 (Nat.le_of_ble_eq_true rfl) dL_law_934 ⟨by show nC + 0 + 0 ≤ 600000; omega, by show nS + 0 + 0 ≤ 7302250; omega⟩ (fun r_5 u_7 H locs h_6 => ?_)
  clear hP hD hS
  intro hP hD hS
  obtain ⟨fNr_8, rfl, h_6⟩ := h_6
  replace hP : va_P G CL ((MK cy aM rR rB rO rK fMh fMo fMz gMv fMk fMa fMt kY fNr_8 fM3 fMu fMy fMb eR tM iEn iTk uP uU kAt iTo iFr JFi iFa iSt iLv iWs wL uS0 uS1 uS2 uS3 uS4 iOm) ++ (((oM cy uU) ++ ((oL cy wL) ++ ((oM cy uP) ++ (oM cy uS0 ++ (oM cy uS1 ++ (oM cy uS2 ++ (oM cy uS3 ++ oM cy uS4))))))) ++ (XW cy aX iKp iYe iTv fX_4 tA tB iL iBs tU tV fH fS fA gE kZ iT1 iT2 iT3 iT4 fB tD))) H := hP.part [21, 0, 1, 2, 3, 4, 5, 6, 49, 7, 8, 9, 10, 11, 12, 13, 14, 15, 16, 17, 18, 19, 20, 22, 23, 24, 25, 26, 27, 28, 29, 30, 31, 32, 33, 34, 35, 36, 37, 38, 39, 40, 41, 42, 43, 44, 45, 46, 47, 48] rfl
  replace hD : va_D A ((MK cy aM rR rB rO rK fMh fMo fMz gMv fMk fMa fMt kY fNr_8 fM3 fMu fMy fMb eR tM iEn iTk uP uU kAt iTo iFr JFi iFa iSt iLv iWs wL uS0 uS1 uS2 uS3 uS4 iOm) ++ (((oM cy uU) ++ ((oL cy wL) ++ ((oM cy uP) ++ (oM cy uS0 ++ (oM cy uS1 ++ (oM cy uS2 ++ (oM cy uS3 ++ oM cy uS4))))))) ++ (XW cy aX iKp iYe iTv fX_4 tA tB iL iBs tU tV fH fS fA gE kZ iT1 iT2 iT3 iT4 fB tD))) := hD.part [21, 0, 1, 2, 3, 4, 5, 6, 49, 7, 8, 9, 10, 11, 12, 13, 14, 15, 16, 17, 18, 19, 20, 22, 23, 24, 25, 26, 27, 28, 29, 30, 31, 32, 33, 34, 35, 36, 37, 38, 39, 40, 41, 42, 43, 44, 45, 46, 47, 48] (by decide +kernel) rfl
  replace hP : va_P G CL ((XW cy aX iKp iYe iTv fX_4 tA tB iL iBs tU tV fH fS fA gE kZ iT1 iT2 iT3 iT4 fB tD) ++ ((MK cy aM rR rB rO rK fMh fMo fMz gMv fMk fMa fMt kY fNr_8 fM3 fMu fMy fMb eR tM iEn iTk uP uU kAt iTo iFr JFi iFa iSt iLv iWs wL uS0 uS1 uS2 uS3 uS4 iOm) ++ ((oM cy uU) ++ ((oL cy wL) ++ ((oM cy uP) ++ (oM cy uS0 ++ (oM cy uS1 ++ (oM cy uS2 ++ (oM cy uS3 ++ oM cy uS4))))))))) H := ofNP hP
  replace hD : va_D A ((XW cy aX iKp iYe iTv fX_4 tA tB iL iBs tU tV fH fS fA gE kZ iT1 iT2 iT3 iT4 fB tD) ++ ((MK cy aM rR rB rO rK fMh fMo fMz gMv fMk fMa fMt kY fNr_8 fM3 fMu fMy fMb eR tM iEn iTk uP uU kAt iTo iFr JFi iFa iSt iLv iWs wL uS0 uS1 uS2 uS3 uS4 iOm) ++ ((oM cy uU) ++ ((oL cy wL) ++ ((oM cy uP) ++ (oM cy uS0 ++ (oM cy uS1 ++ (oM cy uS2 ++ (oM cy uS3 ++ oM cy uS4))))))))) := ofND hD
  refine lv_pop hx hb dL_law_937 rfl ?_
  refine lv_goto (tgt := 1807) hx hb dL_law_938 (by decide) ?_
  refine W.widen (k := nC + 250) (n := nS + 4440) (by omega) (by omega) ?_
  exact kk _ _ ⟨iKp, iYe, iTv, fX_4, tA, tB, iL, iBs, tU, tV, fH, fS, fA, gE, kZ, iT1, iT2, iT3, iT4, fB, tD, fMh, fMo, fMz, gMv, fMk, fMa, fMt, kY, fNr_8, fM3, fMu, fMy, fMb, eR, tM, iEn, iTk, uP, uU, kAt, iTo, iFr, JFi, iFa, iSt, iLv, iWs, wL, uS0, uS1, uS2, uS3, uS4, iOm, hP, hD, hsX, hsM, trivial⟩ hS
set_option maxHeartbeats 4000000 in
set_option maxRecDepth 100000 in
theorem law_19 {p : Program} {l : Launch} {e : Env} {s : State} {m : MethodId} {below : List Frame} {meth : Method} {c : Code} {b L : Nat} {xs : Nat → Int32} {A : Nat → Prop} {G : va_G} {cy : Nat → ClassId} {aX aM rR rB rO rK : Nat → Nat} (hx : p.tables.exec = Jvm.exec) (hb : c.code = code) (hr : meth.sig.returnType = ret) (hml : c.maxLocals = 4) (hown : s.vm.findClass RL = some m.cls) (hts : ∀ w ∈ BIG, w.before #[Value.ref b] s = true) (hX : va_X b L xs s s.heap) (hbl : b < s.heap.size) (hlocks : meth.locks = false) (hN : KN G cy s) (hA : ∀ q : Nat, s.heap.size ≤ q → A q) (hAn : ∀ q : Nat, A q → s.heap.size ≤ q) (hbA : ¬ A b) (hSO : SO A s s.heap) {H : Heap} {locs : List Loc} {ls : Array Slot} {kI nC nS : Nat} (hkI : kI + 6 ≤ L) (hL : L ≤ 384) (hnC : nC + 250 ≤ 600000) (hnS : nS + 4440 ≤ 7302250) (hI : LINV G cy A H aX aM rR rB rO rK) (hS : va_S A s.heap H locs) (hl : lv_has ls 4 [(3, .int (nI kI)), (2, .ref (aM 0)), (1, .ref (aX 0)), (0, .ref b)]) (kk : ∀ (H : Heap) (locs : List Loc), LINV G cy A H aX aM rR rB rO rK → va_S A s.heap H locs → W p l e room_1 s m #[Value.ref b] below meth c H locs (nC + 250) (nS + 4440) (lw_Z below #[Value.ref b] s) (F0 m 1807 ls [])) : W p l e room_1 s m #[Value.ref b] below meth c H locs nC nS (lw_Z below #[Value.ref b] s) (F0 m 941 ls []) := by
  obtain ⟨iKp, iYe, iTv, fR, tA, tB, iL, iBs, tU, tV, fH, fS, fA, gE, kZ, iT1, iT2, iT3, iT4, fB, tD, fMh, fMo, fMz, gMv, fMk, fMa, fMt, kY, fMr, fM3, fMu, fMy, fMb, eR, tM, iEn, iTk, uP, uU, kAt, iTo, iFr, JFi, iFa, iSt, iLv, iWs, wL, uS0, uS1, uS2, uS3, uS4, iOm, hP, hD, hsX, hsM, hLR⟩ := hI
  refine lv_aload_n hx hb dL_law_941 rfl (lv_at hl 2 rfl) ?_
  refine lv_aload_n hx hb dL_law_942 rfl (lv_at hl 3 rfl) ?_
  refine lv_iload_n hx hb dL_law_943 rfl (lv_at hl 0 rfl) ?_
  refine lv_iconst (v := 1) hx hb dL_law_944 (by decide) ?_
  refine lv_iadd hx hb dL_law_945 ?_
  refine lv_seti (v := nI (kI + 1)) (nI_add _ _) ?_
  refine va_sld hx hb hX hbl hbA hS (vp_in_nI (by omega) (by omega)) dL_law_946 ?_
  refine lv_seti (v := xs (kI + 1)) (congrArg xs (nI_clamp (by omega))) ?_
  refine lv_aload_n hx hb dL_law_947 rfl (lv_at hl 3 rfl) ?_
  refine lv_iload_n hx hb dL_law_948 rfl (lv_at hl 0 rfl) ?_
  refine lv_iconst (v := 2) hx hb dL_law_949 (by decide) ?_
  refine lv_iadd hx hb dL_law_950 ?_
  refine lv_seti (v := nI (kI + 2)) (nI_add _ _) ?_
  refine va_sld hx hb hX hbl hbA hS (vp_in_nI (by omega) (by omega)) dL_law_951 ?_
  refine lv_seti (v := xs (kI + 2)) (congrArg xs (nI_clamp (by omega))) ?_
  refine cViQ (As := [.int (xs (kI + 1)), .int (xs (kI + 2))]) (rest := []) (b := (aX 0)) (q := (RX5, TX5, 9)) ⟨hx, hb, hml, hown, hts⟩ (p_X5_read l G cy (H).size (aX 0) (aX 2) (aX 11) (aX 20) (aX 39) (aX 44) (aX 1) iKp iYe iTv fR tA (aX 3) (aX 4) (aX 5) (aX 6) (aX 7) (aX 8) (aX 9) (aX 10) (xs (kI + 1)) (xs (kI + 2)) hsX.1.1 hsX.1.2) L_L_99 hN hP hD hS hA [0, 1, 2, 3, 4, 5, 6, 7, 8, 9, 10] [false, false, false, false, false, false, false, false, false, false, false, true, true, true, true, true, true, true, true, true, true, true, true, true, true, true, true, true, true, true, true, true, true, true, true, true, true, true, true, true, true, true, true, true, true, true, true, true, true, true, true, true, true, true, true] rfl (by decide +kernel) rfl 0 4 rfl rfl rfl ⟨Nat.le_of_ble_eq_true rfl, Nat.le_of_ble_eq_true rfl⟩ hl.1 (Nat.le_of_ble_eq_true rfl) dL_law_952 ⟨by show nC + 0 ≤ 600000; omega, by show nS + 0 ≤ 7302250; omega⟩ (fun r_1 u_3 H locs h_2 => ?_)
  clear hP hD hS
  intro hP hD hS
  obtain ⟨fX_4, tN_5, rfl, h_6, h_2⟩ := h_2
  replace hP : va_P G CL ((XW cy aX iKp iYe iTv fX_4 tN_5 tB iL iBs tU tV fH fS fA gE kZ iT1 iT2 iT3 iT4 fB tD) ++ ((MK cy aM rR rB rO rK fMh fMo fMz gMv fMk fMa fMt kY fMr fM3 fMu fMy fMb eR tM iEn iTk uP uU kAt iTo iFr JFi iFa iSt iLv iWs wL uS0 uS1 uS2 uS3 uS4 iOm) ++ ((oM cy uU) ++ ((oL cy wL) ++ ((oM cy uP) ++ (oM cy uS0 ++ (oM cy uS1 ++ (oM cy uS2 ++ (oM cy uS3 ++ oM cy uS4))))))))) H := hP.part [44, 45, 46, 47, 48, 49, 50, 51, 52, 53, 54, 0, 1, 2, 3, 4, 5, 6, 7, 8, 9, 10, 11, 12, 13, 14, 15, 16, 17, 18, 19, 20, 21, 22, 23, 24, 25, 26, 27, 28, 29, 30, 31, 32, 33, 34, 35, 36, 37, 38, 39, 40, 41, 42, 43] rfl
  replace hD : va_D A ((XW cy aX iKp iYe iTv fX_4 tN_5 tB iL iBs tU tV fH fS fA gE kZ iT1 iT2 iT3 iT4 fB tD) ++ ((MK cy aM rR rB rO rK fMh fMo fMz gMv fMk fMa fMt kY fMr fM3 fMu fMy fMb eR tM iEn iTk uP uU kAt iTo iFr JFi iFa iSt iLv iWs wL uS0 uS1 uS2 uS3 uS4 iOm) ++ ((oM cy uU) ++ ((oL cy wL) ++ ((oM cy uP) ++ (oM cy uS0 ++ (oM cy uS1 ++ (oM cy uS2 ++ (oM cy uS3 ++ oM cy uS4))))))))) := hD.part [44, 45, 46, 47, 48, 49, 50, 51, 52, 53, 54, 0, 1, 2, 3, 4, 5, 6, 7, 8, 9, 10, 11, 12, 13, 14, 15, 16, 17, 18, 19, 20, 21, 22, 23, 24, 25, 26, 27, 28, 29, 30, 31, 32, 33, 34, 35, 36, 37, 38, 39, 40, 41, 42, 43] (by decide +kernel) rfl
  refine lv_pop hx hb dL_law_955 rfl ?_
  refine lv_aload_n hx hb dL_law_956 rfl (lv_at hl 1 rfl) ?_
  refine lv_aload_n hx hb dL_law_957 rfl (lv_at hl 3 rfl) ?_
  refine lv_iload_n hx hb dL_law_958 rfl (lv_at hl 0 rfl) ?_
  refine lv_iconst (v := 1) hx hb dL_law_959 (by decide) ?_
  refine lv_iadd hx hb dL_law_960 ?_
  refine lv_seti (v := nI (kI + 1)) (nI_add _ _) ?_
  refine va_sld hx hb hX hbl hbA hS (vp_in_nI (by omega) (by omega)) dL_law_961 ?_
  refine lv_seti (v := xs (kI + 1)) (congrArg xs (nI_clamp (by omega))) ?_
  refine lv_aload_n hx hb dL_law_962 rfl (lv_at hl 3 rfl) ?_
  refine lv_iload_n hx hb dL_law_963 rfl (lv_at hl 0 rfl) ?_
  refine lv_iconst (v := 2) hx hb dL_law_964 (by decide) ?_
  refine lv_iadd hx hb dL_law_965 ?_
  refine lv_seti (v := nI (kI + 2)) (nI_add _ _) ?_
  refine va_sld hx hb hX hbl hbA hS (vp_in_nI (by omega) (by omega)) dL_law_966 ?_
  refine lv_seti (v := xs (kI + 2)) (congrArg xs (nI_clamp (by omega))) ?_
  replace hP : va_P G CL ((MK cy aM rR rB rO rK fMh fMo fMz gMv fMk fMa fMt kY fMr fM3 fMu fMy fMb eR tM iEn iTk uP uU kAt iTo iFr JFi iFa iSt iLv iWs wL uS0 uS1 uS2 uS3 uS4 iOm) ++ (((oM cy uU) ++ ((oL cy wL) ++ ((oM cy uP) ++ (oM cy uS0 ++ (oM cy uS1 ++ (oM cy uS2 ++ (oM cy uS3 ++ oM cy uS4))))))) ++ (XW cy aX iKp iYe iTv fX_4 tN_5 tB iL iBs tU tV fH fS fA gE kZ iT1 iT2 iT3 iT4 fB tD))) H := toNP hP
  replace hD : va_D A ((MK cy aM rR rB rO rK fMh fMo fMz gMv fMk fMa fMt kY fMr fM3 fMu fMy fMb eR tM iEn iTk uP uU kAt iTo iFr JFi iFa iSt iLv iWs wL uS0 uS1 uS2 uS3 uS4 iOm) ++ (((oM cy uU) ++ ((oL cy wL) ++ ((oM cy uP) ++ (oM cy uS0 ++ (oM cy uS1 ++ (oM cy uS2 ++ (oM cy uS3 ++ oM cy uS4))))))) ++ (XW cy aX iKp iYe iTv fX_4 tN_5 tB iL iBs tU tV fH fS fA gE kZ iT1 iT2 iT3 iT4 fB tD))) := toND hD
  refine cViQ (As := [.int (xs (kI + 1)), .int (xs (kI + 2))]) (rest := []) (b := (aM 0)) (q := (RX6, TX6, 35)) ⟨hx, hb, hml, hown, hts⟩ (p_X6_read l G cy (H).size (aM 0) (aM 1) (aM 2) (aM 3) (aM 14) (aM 4) (aM 5) (aM 6) (aM 7) kY (aM 8) tM (aM 15) (aM 16) (aM 17) iEn iTk uP uU kAt iTo iFr JFi iFa (aM 9) iSt iLv iWs (ovL wL) (aM 10) (aM 11) (aM 12) (aM 13) iOm rB rO rK fMr (xs (kI + 1)) (xs (kI + 2)) hsM.1.1.1 hsM.1.1.2 hsM.1) L_L_102 hN hP hD hS hA [0, 23, 24, 25, 26, 27, 28, 29, 30, 31, 32, 33, 34, 35, 36, 37, 38, 39, 40, 41, 42, 43, 44, 45, 46, 47, 48, 49, 8] [false, true, true, true, true, true, true, true, false, true, true, true, true, true, true, true, true, true, true, true, true, true, true, false, false, false, false, false, false, false, false, false, false, false, false, false, false, false, false, false, false, false, false, false, false, false, false, false, false, false] rfl (by decide +kernel) rfl 0 5 rfl rfl rfl ⟨Nat.le_of_ble_eq_true rfl, Nat.le_of_ble_eq_true rfl⟩ hl.1 (Nat.le_of_ble_eq_true rfl) dL_law_967 ⟨by show nC + 0 + 0 ≤ 600000; omega, by show nS + 0 + 0 ≤ 7302250; omega⟩ (fun r_7 u_9 H locs h_8 => ?_)
  clear hP hD hS
  intro hP hD hS
  obtain ⟨tN_10, fNr_11, rfl, h_12, h_8⟩ := h_8
  replace hP : va_P G CL ((MK cy aM rR rB rO rK fMh fMo fMz gMv fMk fMa fMt kY fNr_11 fM3 fMu fMy fMb eR tN_10 iEn iTk uP uU kAt iTo iFr JFi iFa iSt iLv iWs wL uS0 uS1 uS2 uS3 uS4 iOm) ++ (((oM cy uU) ++ ((oL cy wL) ++ ((oM cy uP) ++ (oM cy uS0 ++ (oM cy uS1 ++ (oM cy uS2 ++ (oM cy uS3 ++ oM cy uS4))))))) ++ (XW cy aX iKp iYe iTv fX_4 tN_5 tB iL iBs tU tV fH fS fA gE kZ iT1 iT2 iT3 iT4 fB tD))) H := hP.part [21, 0, 1, 2, 3, 4, 5, 6, 49, 7, 8, 9, 10, 11, 12, 13, 14, 15, 16, 17, 18, 19, 20, 22, 23, 24, 25, 26, 27, 28, 29, 30, 31, 32, 33, 34, 35, 36, 37, 38, 39, 40, 41, 42, 43, 44, 45, 46, 47, 48] rfl
  replace hD : va_D A ((MK cy aM rR rB rO rK fMh fMo fMz gMv fMk fMa fMt kY fNr_11 fM3 fMu fMy fMb eR tN_10 iEn iTk uP uU kAt iTo iFr JFi iFa iSt iLv iWs wL uS0 uS1 uS2 uS3 uS4 iOm) ++ (((oM cy uU) ++ ((oL cy wL) ++ ((oM cy uP) ++ (oM cy uS0 ++ (oM cy uS1 ++ (oM cy uS2 ++ (oM cy uS3 ++ oM cy uS4))))))) ++ (XW cy aX iKp iYe iTv fX_4 tN_5 tB iL iBs tU tV fH fS fA gE kZ iT1 iT2 iT3 iT4 fB tD))) := hD.part [21, 0, 1, 2, 3, 4, 5, 6, 49, 7, 8, 9, 10, 11, 12, 13, 14, 15, 16, 17, 18, 19, 20, 22, 23, 24, 25, 26, 27, 28, 29, 30, 31, 32, 33, 34, 35, 36, 37, 38, 39, 40, 41, 42, 43, 44, 45, 46, 47, 48] (by decide +kernel) rfl
  replace hP : va_P G CL ((XW cy aX iKp iYe iTv fX_4 tN_5 tB iL iBs tU tV fH fS fA gE kZ iT1 iT2 iT3 iT4 fB tD) ++ ((MK cy aM rR rB rO rK fMh fMo fMz gMv fMk fMa fMt kY fNr_11 fM3 fMu fMy fMb eR tN_10 iEn iTk uP uU kAt iTo iFr JFi iFa iSt iLv iWs wL uS0 uS1 uS2 uS3 uS4 iOm) ++ ((oM cy uU) ++ ((oL cy wL) ++ ((oM cy uP) ++ (oM cy uS0 ++ (oM cy uS1 ++ (oM cy uS2 ++ (oM cy uS3 ++ oM cy uS4))))))))) H := ofNP hP
  replace hD : va_D A ((XW cy aX iKp iYe iTv fX_4 tN_5 tB iL iBs tU tV fH fS fA gE kZ iT1 iT2 iT3 iT4 fB tD) ++ ((MK cy aM rR rB rO rK fMh fMo fMz gMv fMk fMa fMt kY fNr_11 fM3 fMu fMy fMb eR tN_10 iEn iTk uP uU kAt iTo iFr JFi iFa iSt iLv iWs wL uS0 uS1 uS2 uS3 uS4 iOm) ++ ((oM cy uU) ++ ((oL cy wL) ++ ((oM cy uP) ++ (oM cy uS0 ++ (oM cy uS1 ++ (oM cy uS2 ++ (oM cy uS3 ++ oM cy uS4))))))))) := ofND hD
  refine lv_pop hx hb dL_law_970 rfl ?_
  refine lv_goto (tgt := 1807) hx hb dL_law_971 (by decide) ?_
  refine W.widen (k := nC + 250) (n := nS + 4440) (by omega) (by omega) ?_
  exact kk _ _ ⟨iKp, iYe, iTv, fX_4, tN_5, tB, iL, iBs, tU, tV, fH, fS, fA, gE, kZ, iT1, iT2, iT3, iT4, fB, tD, fMh, fMo, fMz, gMv, fMk, fMa, fMt, kY, fNr_11, fM3, fMu, fMy, fMb, eR, tN_10, iEn, iTk, uP, uU, kAt, iTo, iFr, JFi, iFa, iSt, iLv, iWs, wL, uS0, uS1, uS2, uS3, uS4, iOm, hP, hD, sx_t hsX (nb_read hsX.1 h_6), sm_t hsM h_12, trivial⟩ hS

theorem d_La_law_736 : decode m_law.2.1 736 = .ok (.iconst 0, 1) := by decide +kernel
theorem d_La_law_737 : decode m_law.2.1 737 = .ok (.ireturn, 1) := by decide +kernel
theorem d_La_law_738 : decode m_law.2.1 738 = .ok (.aload_n 1, 1) := by decide +kernel
theorem d_La_law_739 : decode m_law.2.1 739 = .ok (.aload_n 0, 1) := by decide +kernel
theorem d_La_law_740 : decode m_law.2.1 740 = .ok (.iload_n 3, 1) := by decide +kernel
theorem d_La_law_741 : decode m_law.2.1 741 = .ok (.iconst 1, 1) := by decide +kernel
theorem d_La_law_742 : decode m_law.2.1 742 = .ok (.iadd, 1) := by decide +kernel
theorem d_La_law_743 : decode m_law.2.1 743 = .ok (.iaload, 1) := by decide +kernel
theorem d_La_law_744 : decode m_law.2.1 744 = .ok (.aload_n 0, 1) := by decide +kernel
theorem d_La_law_745 : decode m_law.2.1 745 = .ok (.iload_n 3, 1) := by decide +kernel
theorem d_La_law_746 : decode m_law.2.1 746 = .ok (.iconst 2, 1) := by decide +kernel
theorem d_La_law_747 : decode m_law.2.1 747 = .ok (.iadd, 1) := by decide +kernel
theorem d_La_law_748 : decode m_law.2.1 748 = .ok (.iaload, 1) := by decide +kernel
theorem d_La_law_749 : decode m_law.2.1 749 = .ok (.aload_n 0, 1) := by decide +kernel
theorem d_La_law_750 : decode m_law.2.1 750 = .ok (.iload_n 3, 1) := by decide +kernel
theorem d_La_law_751 : decode m_law.2.1 751 = .ok (.iconst 3, 1) := by decide +kernel
theorem d_La_law_752 : decode m_law.2.1 752 = .ok (.iadd, 1) := by decide +kernel
theorem d_La_law_753 : decode m_law.2.1 753 = .ok (.iaload, 1) := by decide +kernel
theorem d_La_law_754 : decode m_law.2.1 754 = .ok (.aload_n 0, 1) := by decide +kernel
theorem d_La_law_755 : decode m_law.2.1 755 = .ok (.iload_n 3, 1) := by decide +kernel
theorem d_La_law_756 : decode m_law.2.1 756 = .ok (.iconst 4, 1) := by decide +kernel
theorem d_La_law_757 : decode m_law.2.1 757 = .ok (.iadd, 1) := by decide +kernel
theorem d_La_law_758 : decode m_law.2.1 758 = .ok (.iaload, 1) := by decide +kernel
theorem d_La_law_759 : decode m_law.2.1 759 = .ok (.invokevirtual 105, 3) := by decide +kernel
theorem d_La_law_762 : decode m_law.2.1 762 = .ok (.aload_n 2, 1) := by decide +kernel
theorem d_La_law_763 : decode m_law.2.1 763 = .ok (.aload_n 0, 1) := by decide +kernel
theorem d_La_law_764 : decode m_law.2.1 764 = .ok (.iload_n 3, 1) := by decide +kernel
theorem d_La_law_765 : decode m_law.2.1 765 = .ok (.iconst 1, 1) := by decide +kernel
theorem d_La_law_766 : decode m_law.2.1 766 = .ok (.iadd, 1) := by decide +kernel
theorem d_La_law_767 : decode m_law.2.1 767 = .ok (.iaload, 1) := by decide +kernel
theorem d_La_law_768 : decode m_law.2.1 768 = .ok (.aload_n 0, 1) := by decide +kernel
theorem d_La_law_769 : decode m_law.2.1 769 = .ok (.iload_n 3, 1) := by decide +kernel
theorem d_La_law_770 : decode m_law.2.1 770 = .ok (.iconst 2, 1) := by decide +kernel
theorem d_La_law_771 : decode m_law.2.1 771 = .ok (.iadd, 1) := by decide +kernel
theorem d_La_law_772 : decode m_law.2.1 772 = .ok (.iaload, 1) := by decide +kernel
theorem d_La_law_773 : decode m_law.2.1 773 = .ok (.aload_n 0, 1) := by decide +kernel
theorem d_La_law_774 : decode m_law.2.1 774 = .ok (.iload_n 3, 1) := by decide +kernel
theorem d_La_law_775 : decode m_law.2.1 775 = .ok (.iconst 3, 1) := by decide +kernel
theorem d_La_law_776 : decode m_law.2.1 776 = .ok (.iadd, 1) := by decide +kernel
theorem d_La_law_777 : decode m_law.2.1 777 = .ok (.iaload, 1) := by decide +kernel
theorem d_La_law_778 : decode m_law.2.1 778 = .ok (.aload_n 0, 1) := by decide +kernel
theorem d_La_law_779 : decode m_law.2.1 779 = .ok (.iload_n 3, 1) := by decide +kernel
theorem d_La_law_780 : decode m_law.2.1 780 = .ok (.iconst 4, 1) := by decide +kernel
theorem d_La_law_781 : decode m_law.2.1 781 = .ok (.iadd, 1) := by decide +kernel
theorem d_La_law_782 : decode m_law.2.1 782 = .ok (.iaload, 1) := by decide +kernel
theorem d_La_law_783 : decode m_law.2.1 783 = .ok (.invokevirtual 109, 3) := by decide +kernel
theorem d_La_law_786 : decode m_law.2.1 786 = .ok (.if_icmp .eq 464, 3) := by decide +kernel
theorem d_La_law_789 : decode m_law.2.1 789 = .ok (.iconst 0, 1) := by decide +kernel
theorem d_La_law_790 : decode m_law.2.1 790 = .ok (.ireturn, 1) := by decide +kernel
theorem d_La_law_791 : decode m_law.2.1 791 = .ok (.aload_n 1, 1) := by decide +kernel
theorem d_La_law_792 : decode m_law.2.1 792 = .ok (.aload_n 0, 1) := by decide +kernel
theorem d_La_law_793 : decode m_law.2.1 793 = .ok (.iload_n 3, 1) := by decide +kernel
theorem d_La_law_794 : decode m_law.2.1 794 = .ok (.iconst 1, 1) := by decide +kernel
theorem d_La_law_795 : decode m_law.2.1 795 = .ok (.iadd, 1) := by decide +kernel
theorem d_La_law_796 : decode m_law.2.1 796 = .ok (.iaload, 1) := by decide +kernel
theorem d_La_law_797 : decode m_law.2.1 797 = .ok (.aload_n 0, 1) := by decide +kernel
theorem d_La_law_798 : decode m_law.2.1 798 = .ok (.iload_n 3, 1) := by decide +kernel
theorem d_La_law_799 : decode m_law.2.1 799 = .ok (.iconst 2, 1) := by decide +kernel
theorem d_La_law_800 : decode m_law.2.1 800 = .ok (.iadd, 1) := by decide +kernel
theorem d_La_law_801 : decode m_law.2.1 801 = .ok (.iaload, 1) := by decide +kernel
theorem d_La_law_802 : decode m_law.2.1 802 = .ok (.aload_n 0, 1) := by decide +kernel
theorem d_La_law_803 : decode m_law.2.1 803 = .ok (.iload_n 3, 1) := by decide +kernel
theorem d_La_law_804 : decode m_law.2.1 804 = .ok (.iconst 3, 1) := by decide +kernel
theorem d_La_law_805 : decode m_law.2.1 805 = .ok (.iadd, 1) := by decide +kernel
theorem d_La_law_806 : decode m_law.2.1 806 = .ok (.iaload, 1) := by decide +kernel
theorem d_La_law_807 : decode m_law.2.1 807 = .ok (.invokevirtual 110, 3) := by decide +kernel
theorem d_La_law_810 : decode m_law.2.1 810 = .ok (.aload_n 2, 1) := by decide +kernel
theorem d_La_law_811 : decode m_law.2.1 811 = .ok (.aload_n 0, 1) := by decide +kernel
theorem d_La_law_812 : decode m_law.2.1 812 = .ok (.iload_n 3, 1) := by decide +kernel
theorem d_La_law_813 : decode m_law.2.1 813 = .ok (.iconst 1, 1) := by decide +kernel
theorem d_La_law_814 : decode m_law.2.1 814 = .ok (.iadd, 1) := by decide +kernel
theorem d_La_law_815 : decode m_law.2.1 815 = .ok (.iaload, 1) := by decide +kernel
theorem d_La_law_816 : decode m_law.2.1 816 = .ok (.aload_n 0, 1) := by decide +kernel
theorem d_La_law_817 : decode m_law.2.1 817 = .ok (.iload_n 3, 1) := by decide +kernel
theorem d_La_law_818 : decode m_law.2.1 818 = .ok (.iconst 2, 1) := by decide +kernel
theorem d_La_law_819 : decode m_law.2.1 819 = .ok (.iadd, 1) := by decide +kernel
theorem d_La_law_820 : decode m_law.2.1 820 = .ok (.iaload, 1) := by decide +kernel
theorem d_La_law_821 : decode m_law.2.1 821 = .ok (.aload_n 0, 1) := by decide +kernel
theorem d_La_law_822 : decode m_law.2.1 822 = .ok (.iload_n 3, 1) := by decide +kernel
theorem d_La_law_823 : decode m_law.2.1 823 = .ok (.iconst 3, 1) := by decide +kernel
theorem d_La_law_824 : decode m_law.2.1 824 = .ok (.iadd, 1) := by decide +kernel
theorem d_La_law_825 : decode m_law.2.1 825 = .ok (.iaload, 1) := by decide +kernel
theorem d_La_law_826 : decode m_law.2.1 826 = .ok (.invokevirtual 113, 3) := by decide +kernel
theorem d_La_law_829 : decode m_law.2.1 829 = .ok (.if_icmp .eq 421, 3) := by decide +kernel
theorem d_La_law_832 : decode m_law.2.1 832 = .ok (.iconst 0, 1) := by decide +kernel
theorem d_La_law_833 : decode m_law.2.1 833 = .ok (.ireturn, 1) := by decide +kernel
theorem d_La_law_834 : decode m_law.2.1 834 = .ok (.aload_n 1, 1) := by decide +kernel
theorem d_La_law_835 : decode m_law.2.1 835 = .ok (.invokevirtual 114, 3) := by decide +kernel
theorem d_La_law_838 : decode m_law.2.1 838 = .ok (.aload_n 2, 1) := by decide +kernel
theorem d_La_law_839 : decode m_law.2.1 839 = .ok (.invokevirtual 117, 3) := by decide +kernel
theorem d_La_law_842 : decode m_law.2.1 842 = .ok (.if_icmp .eq 408, 3) := by decide +kernel
theorem d_La_law_845 : decode m_law.2.1 845 = .ok (.iconst 0, 1) := by decide +kernel
theorem d_La_law_846 : decode m_law.2.1 846 = .ok (.ireturn, 1) := by decide +kernel
theorem d_La_law_847 : decode m_law.2.1 847 = .ok (.aload_n 1, 1) := by decide +kernel
theorem d_La_law_848 : decode m_law.2.1 848 = .ok (.invokevirtual 118, 3) := by decide +kernel
theorem d_La_law_851 : decode m_law.2.1 851 = .ok (.aload_n 2, 1) := by decide +kernel
theorem d_La_law_852 : decode m_law.2.1 852 = .ok (.invokevirtual 121, 3) := by decide +kernel
theorem d_La_law_855 : decode m_law.2.1 855 = .ok (.if_icmp .eq 395, 3) := by decide +kernel
theorem d_La_law_858 : decode m_law.2.1 858 = .ok (.iconst 0, 1) := by decide +kernel
theorem d_La_law_859 : decode m_law.2.1 859 = .ok (.ireturn, 1) := by decide +kernel
theorem d_La_law_860 : decode m_law.2.1 860 = .ok (.aload_n 1, 1) := by decide +kernel
theorem d_La_law_861 : decode m_law.2.1 861 = .ok (.invokevirtual 122, 3) := by decide +kernel
theorem d_La_law_864 : decode m_law.2.1 864 = .ok (.aload_n 2, 1) := by decide +kernel
theorem d_La_law_865 : decode m_law.2.1 865 = .ok (.invokevirtual 125, 3) := by decide +kernel
theorem d_La_law_868 : decode m_law.2.1 868 = .ok (.if_icmp .eq 382, 3) := by decide +kernel
theorem d_La_law_871 : decode m_law.2.1 871 = .ok (.iconst 0, 1) := by decide +kernel
theorem d_La_law_872 : decode m_law.2.1 872 = .ok (.ireturn, 1) := by decide +kernel
theorem d_La_law_873 : decode m_law.2.1 873 = .ok (.aload_n 1, 1) := by decide +kernel
theorem d_La_law_874 : decode m_law.2.1 874 = .ok (.aload_n 0, 1) := by decide +kernel
theorem d_La_law_875 : decode m_law.2.1 875 = .ok (.iload_n 3, 1) := by decide +kernel
theorem d_La_law_876 : decode m_law.2.1 876 = .ok (.iconst 1, 1) := by decide +kernel
theorem d_La_law_877 : decode m_law.2.1 877 = .ok (.iadd, 1) := by decide +kernel
theorem d_La_law_878 : decode m_law.2.1 878 = .ok (.iaload, 1) := by decide +kernel
theorem d_La_law_879 : decode m_law.2.1 879 = .ok (.aload_n 0, 1) := by decide +kernel
theorem d_La_law_880 : decode m_law.2.1 880 = .ok (.iload_n 3, 1) := by decide +kernel
theorem d_La_law_881 : decode m_law.2.1 881 = .ok (.iconst 2, 1) := by decide +kernel
theorem d_La_law_882 : decode m_law.2.1 882 = .ok (.iadd, 1) := by decide +kernel
theorem d_La_law_883 : decode m_law.2.1 883 = .ok (.iaload, 1) := by decide +kernel
theorem d_La_law_884 : decode m_law.2.1 884 = .ok (.invokevirtual 126, 3) := by decide +kernel
theorem d_La_law_887 : decode m_law.2.1 887 = .ok (.aload_n 2, 1) := by decide +kernel
theorem d_La_law_888 : decode m_law.2.1 888 = .ok (.aload_n 0, 1) := by decide +kernel
theorem d_La_law_889 : decode m_law.2.1 889 = .ok (.iload_n 3, 1) := by decide +kernel
theorem d_La_law_890 : decode m_law.2.1 890 = .ok (.iconst 1, 1) := by decide +kernel
theorem d_La_law_891 : decode m_law.2.1 891 = .ok (.iadd, 1) := by decide +kernel
theorem d_La_law_892 : decode m_law.2.1 892 = .ok (.iaload, 1) := by decide +kernel
theorem d_La_law_893 : decode m_law.2.1 893 = .ok (.aload_n 0, 1) := by decide +kernel
theorem d_La_law_894 : decode m_law.2.1 894 = .ok (.iload_n 3, 1) := by decide +kernel
theorem d_La_law_895 : decode m_law.2.1 895 = .ok (.iconst 2, 1) := by decide +kernel
theorem d_La_law_896 : decode m_law.2.1 896 = .ok (.iadd, 1) := by decide +kernel
theorem d_La_law_897 : decode m_law.2.1 897 = .ok (.iaload, 1) := by decide +kernel
theorem d_La_law_898 : decode m_law.2.1 898 = .ok (.invokevirtual 129, 3) := by decide +kernel
theorem d_La_law_901 : decode m_law.2.1 901 = .ok (.if_icmp .eq 349, 3) := by decide +kernel
theorem d_La_law_904 : decode m_law.2.1 904 = .ok (.iconst 0, 1) := by decide +kernel
theorem d_La_law_905 : decode m_law.2.1 905 = .ok (.ireturn, 1) := by decide +kernel
theorem d_La_law_906 : decode m_law.2.1 906 = .ok (.aload_n 1, 1) := by decide +kernel
theorem d_La_law_907 : decode m_law.2.1 907 = .ok (.aload_n 0, 1) := by decide +kernel
theorem d_La_law_908 : decode m_law.2.1 908 = .ok (.iload_n 3, 1) := by decide +kernel
theorem d_La_law_909 : decode m_law.2.1 909 = .ok (.iconst 1, 1) := by decide +kernel
theorem d_La_law_910 : decode m_law.2.1 910 = .ok (.iadd, 1) := by decide +kernel
theorem d_La_law_911 : decode m_law.2.1 911 = .ok (.iaload, 1) := by decide +kernel
theorem d_La_law_912 : decode m_law.2.1 912 = .ok (.aload_n 0, 1) := by decide +kernel
theorem d_La_law_913 : decode m_law.2.1 913 = .ok (.iload_n 3, 1) := by decide +kernel
theorem d_La_law_914 : decode m_law.2.1 914 = .ok (.iconst 2, 1) := by decide +kernel
theorem d_La_law_915 : decode m_law.2.1 915 = .ok (.iadd, 1) := by decide +kernel
theorem d_La_law_916 : decode m_law.2.1 916 = .ok (.iaload, 1) := by decide +kernel
theorem d_La_law_917 : decode m_law.2.1 917 = .ok (.aload_n 0, 1) := by decide +kernel
theorem d_La_law_918 : decode m_law.2.1 918 = .ok (.iload_n 3, 1) := by decide +kernel
theorem d_La_law_919 : decode m_law.2.1 919 = .ok (.iconst 3, 1) := by decide +kernel
theorem d_La_law_920 : decode m_law.2.1 920 = .ok (.iadd, 1) := by decide +kernel
theorem d_La_law_921 : decode m_law.2.1 921 = .ok (.iaload, 1) := by decide +kernel
theorem d_La_law_922 : decode m_law.2.1 922 = .ok (.invokevirtual 130, 3) := by decide +kernel
theorem d_La_law_925 : decode m_law.2.1 925 = .ok (.aload_n 2, 1) := by decide +kernel
theorem d_La_law_926 : decode m_law.2.1 926 = .ok (.aload_n 0, 1) := by decide +kernel
theorem d_La_law_927 : decode m_law.2.1 927 = .ok (.iload_n 3, 1) := by decide +kernel
theorem d_La_law_928 : decode m_law.2.1 928 = .ok (.iconst 1, 1) := by decide +kernel
theorem d_La_law_929 : decode m_law.2.1 929 = .ok (.iadd, 1) := by decide +kernel
theorem d_La_law_930 : decode m_law.2.1 930 = .ok (.iaload, 1) := by decide +kernel
theorem d_La_law_931 : decode m_law.2.1 931 = .ok (.aload_n 0, 1) := by decide +kernel
theorem d_La_law_932 : decode m_law.2.1 932 = .ok (.iload_n 3, 1) := by decide +kernel
theorem d_La_law_933 : decode m_law.2.1 933 = .ok (.iconst 2, 1) := by decide +kernel
theorem d_La_law_934 : decode m_law.2.1 934 = .ok (.iadd, 1) := by decide +kernel
theorem d_La_law_935 : decode m_law.2.1 935 = .ok (.iaload, 1) := by decide +kernel
theorem d_La_law_936 : decode m_law.2.1 936 = .ok (.aload_n 0, 1) := by decide +kernel
theorem d_La_law_937 : decode m_law.2.1 937 = .ok (.iload_n 3, 1) := by decide +kernel
theorem d_La_law_938 : decode m_law.2.1 938 = .ok (.iconst 3, 1) := by decide +kernel
theorem d_La_law_939 : decode m_law.2.1 939 = .ok (.iadd, 1) := by decide +kernel
theorem d_La_law_940 : decode m_law.2.1 940 = .ok (.iaload, 1) := by decide +kernel
theorem d_La_law_941 : decode m_law.2.1 941 = .ok (.invokevirtual 133, 3) := by decide +kernel
theorem d_La_law_944 : decode m_law.2.1 944 = .ok (.if_icmp .eq 306, 3) := by decide +kernel
theorem d_La_law_947 : decode m_law.2.1 947 = .ok (.iconst 0, 1) := by decide +kernel
theorem d_La_law_948 : decode m_law.2.1 948 = .ok (.ireturn, 1) := by decide +kernel
theorem d_La_law_949 : decode m_law.2.1 949 = .ok (.aload_n 1, 1) := by decide +kernel
theorem d_La_law_950 : decode m_law.2.1 950 = .ok (.aload_n 0, 1) := by decide +kernel
theorem d_La_law_951 : decode m_law.2.1 951 = .ok (.iload_n 3, 1) := by decide +kernel
theorem d_La_law_952 : decode m_law.2.1 952 = .ok (.iconst 1, 1) := by decide +kernel
theorem d_La_law_953 : decode m_law.2.1 953 = .ok (.iadd, 1) := by decide +kernel
theorem d_La_law_954 : decode m_law.2.1 954 = .ok (.iaload, 1) := by decide +kernel
theorem d_La_law_955 : decode m_law.2.1 955 = .ok (.aload_n 0, 1) := by decide +kernel
theorem d_La_law_956 : decode m_law.2.1 956 = .ok (.iload_n 3, 1) := by decide +kernel
theorem d_La_law_957 : decode m_law.2.1 957 = .ok (.iconst 2, 1) := by decide +kernel
theorem d_La_law_958 : decode m_law.2.1 958 = .ok (.iadd, 1) := by decide +kernel
theorem d_La_law_959 : decode m_law.2.1 959 = .ok (.iaload, 1) := by decide +kernel
theorem d_La_law_960 : decode m_law.2.1 960 = .ok (.aload_n 0, 1) := by decide +kernel
theorem d_La_law_961 : decode m_law.2.1 961 = .ok (.iload_n 3, 1) := by decide +kernel
theorem d_La_law_962 : decode m_law.2.1 962 = .ok (.iconst 3, 1) := by decide +kernel
theorem d_La_law_963 : decode m_law.2.1 963 = .ok (.iadd, 1) := by decide +kernel
theorem d_La_law_964 : decode m_law.2.1 964 = .ok (.iaload, 1) := by decide +kernel
theorem d_La_law_965 : decode m_law.2.1 965 = .ok (.aload_n 0, 1) := by decide +kernel
theorem d_La_law_966 : decode m_law.2.1 966 = .ok (.iload_n 3, 1) := by decide +kernel
theorem d_La_law_967 : decode m_law.2.1 967 = .ok (.iconst 4, 1) := by decide +kernel
theorem d_La_law_968 : decode m_law.2.1 968 = .ok (.iadd, 1) := by decide +kernel
theorem d_La_law_969 : decode m_law.2.1 969 = .ok (.iaload, 1) := by decide +kernel
theorem d_La_law_970 : decode m_law.2.1 970 = .ok (.invokevirtual 134, 3) := by decide +kernel
theorem d_La_law_973 : decode m_law.2.1 973 = .ok (.aload_n 2, 1) := by decide +kernel
theorem d_La_law_974 : decode m_law.2.1 974 = .ok (.aload_n 0, 1) := by decide +kernel
theorem d_La_law_975 : decode m_law.2.1 975 = .ok (.iload_n 3, 1) := by decide +kernel
theorem d_La_law_976 : decode m_law.2.1 976 = .ok (.iconst 1, 1) := by decide +kernel
theorem d_La_law_977 : decode m_law.2.1 977 = .ok (.iadd, 1) := by decide +kernel
theorem d_La_law_978 : decode m_law.2.1 978 = .ok (.iaload, 1) := by decide +kernel
theorem d_La_law_979 : decode m_law.2.1 979 = .ok (.aload_n 0, 1) := by decide +kernel
theorem d_La_law_980 : decode m_law.2.1 980 = .ok (.iload_n 3, 1) := by decide +kernel
theorem d_La_law_981 : decode m_law.2.1 981 = .ok (.iconst 2, 1) := by decide +kernel
theorem d_La_law_982 : decode m_law.2.1 982 = .ok (.iadd, 1) := by decide +kernel
theorem d_La_law_983 : decode m_law.2.1 983 = .ok (.iaload, 1) := by decide +kernel
theorem d_La_law_984 : decode m_law.2.1 984 = .ok (.aload_n 0, 1) := by decide +kernel
theorem d_La_law_985 : decode m_law.2.1 985 = .ok (.iload_n 3, 1) := by decide +kernel
theorem d_La_law_986 : decode m_law.2.1 986 = .ok (.iconst 3, 1) := by decide +kernel
theorem d_La_law_987 : decode m_law.2.1 987 = .ok (.iadd, 1) := by decide +kernel
theorem d_La_law_988 : decode m_law.2.1 988 = .ok (.iaload, 1) := by decide +kernel
theorem d_La_law_989 : decode m_law.2.1 989 = .ok (.aload_n 0, 1) := by decide +kernel
theorem d_La_law_990 : decode m_law.2.1 990 = .ok (.iload_n 3, 1) := by decide +kernel
theorem d_La_law_991 : decode m_law.2.1 991 = .ok (.iconst 4, 1) := by decide +kernel
theorem d_La_law_992 : decode m_law.2.1 992 = .ok (.iadd, 1) := by decide +kernel
theorem d_La_law_993 : decode m_law.2.1 993 = .ok (.iaload, 1) := by decide +kernel
theorem d_La_law_994 : decode m_law.2.1 994 = .ok (.invokevirtual 137, 3) := by decide +kernel
theorem d_La_law_997 : decode m_law.2.1 997 = .ok (.if_icmp .eq 253, 3) := by decide +kernel
theorem d_La_law_1000 : decode m_law.2.1 1000 = .ok (.iconst 0, 1) := by decide +kernel

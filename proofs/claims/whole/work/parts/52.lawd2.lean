theorem xd_law_706 : decode code 706 = .ok (.if_icmp .eq 542, 3) := by decide +kernel
theorem xd_law_709 : decode code 709 = .ok (.iconst 0, 1) := by decide +kernel
theorem xd_law_710 : decode code 710 = .ok (.ireturn, 1) := by decide +kernel
theorem xd_law_711 : decode code 711 = .ok (.aload_n 1, 1) := by decide +kernel
theorem xd_law_712 : decode code 712 = .ok (.aload_n 0, 1) := by decide +kernel
theorem xd_law_713 : decode code 713 = .ok (.iload_n 3, 1) := by decide +kernel
theorem xd_law_714 : decode code 714 = .ok (.iconst 1, 1) := by decide +kernel
theorem xd_law_715 : decode code 715 = .ok (.iadd, 1) := by decide +kernel
theorem xd_law_716 : decode code 716 = .ok (.iaload, 1) := by decide +kernel
theorem xd_law_717 : decode code 717 = .ok (.aload_n 0, 1) := by decide +kernel
theorem xd_law_718 : decode code 718 = .ok (.iload_n 3, 1) := by decide +kernel
theorem xd_law_719 : decode code 719 = .ok (.iconst 2, 1) := by decide +kernel
theorem xd_law_720 : decode code 720 = .ok (.iadd, 1) := by decide +kernel
theorem xd_law_721 : decode code 721 = .ok (.iaload, 1) := by decide +kernel
theorem xd_law_722 : decode code 722 = .ok (.invokevirtual 77, 3) := by decide +kernel
theorem xd_law_725 : decode code 725 = .ok (.aload_n 2, 1) := by decide +kernel
theorem xd_law_726 : decode code 726 = .ok (.aload_n 0, 1) := by decide +kernel
theorem xd_law_727 : decode code 727 = .ok (.iload_n 3, 1) := by decide +kernel
theorem xd_law_728 : decode code 728 = .ok (.iconst 1, 1) := by decide +kernel
theorem xd_law_729 : decode code 729 = .ok (.iadd, 1) := by decide +kernel
theorem xd_law_730 : decode code 730 = .ok (.iaload, 1) := by decide +kernel
theorem xd_law_731 : decode code 731 = .ok (.aload_n 0, 1) := by decide +kernel
theorem xd_law_732 : decode code 732 = .ok (.iload_n 3, 1) := by decide +kernel
theorem xd_law_733 : decode code 733 = .ok (.iconst 2, 1) := by decide +kernel
theorem xd_law_734 : decode code 734 = .ok (.iadd, 1) := by decide +kernel
theorem xd_law_735 : decode code 735 = .ok (.iaload, 1) := by decide +kernel
theorem xd_law_736 : decode code 736 = .ok (.invokevirtual 80, 3) := by decide +kernel
theorem xd_law_739 : decode code 739 = .ok (.if_icmp .eq 509, 3) := by decide +kernel
theorem xd_law_742 : decode code 742 = .ok (.iconst 0, 1) := by decide +kernel
theorem xd_law_743 : decode code 743 = .ok (.ireturn, 1) := by decide +kernel
theorem xd_law_744 : decode code 744 = .ok (.aload_n 1, 1) := by decide +kernel
theorem xd_law_745 : decode code 745 = .ok (.aload_n 0, 1) := by decide +kernel
theorem xd_law_746 : decode code 746 = .ok (.iload_n 3, 1) := by decide +kernel
theorem xd_law_747 : decode code 747 = .ok (.iconst 1, 1) := by decide +kernel
theorem xd_law_748 : decode code 748 = .ok (.iadd, 1) := by decide +kernel
theorem xd_law_749 : decode code 749 = .ok (.iaload, 1) := by decide +kernel
theorem xd_law_750 : decode code 750 = .ok (.aload_n 0, 1) := by decide +kernel
theorem xd_law_751 : decode code 751 = .ok (.iload_n 3, 1) := by decide +kernel
theorem xd_law_752 : decode code 752 = .ok (.iconst 2, 1) := by decide +kernel
theorem xd_law_753 : decode code 753 = .ok (.iadd, 1) := by decide +kernel
theorem xd_law_754 : decode code 754 = .ok (.iaload, 1) := by decide +kernel
theorem xd_law_755 : decode code 755 = .ok (.aload_n 0, 1) := by decide +kernel
theorem xd_law_756 : decode code 756 = .ok (.iload_n 3, 1) := by decide +kernel
theorem xd_law_757 : decode code 757 = .ok (.iconst 3, 1) := by decide +kernel
theorem xd_law_758 : decode code 758 = .ok (.iadd, 1) := by decide +kernel
theorem xd_law_759 : decode code 759 = .ok (.iaload, 1) := by decide +kernel
theorem xd_law_760 : decode code 760 = .ok (.invokevirtual 81, 3) := by decide +kernel
theorem xd_law_763 : decode code 763 = .ok (.aload_n 2, 1) := by decide +kernel
theorem xd_law_764 : decode code 764 = .ok (.aload_n 0, 1) := by decide +kernel
theorem xd_law_765 : decode code 765 = .ok (.iload_n 3, 1) := by decide +kernel
theorem xd_law_766 : decode code 766 = .ok (.iconst 1, 1) := by decide +kernel
theorem xd_law_767 : decode code 767 = .ok (.iadd, 1) := by decide +kernel
theorem xd_law_768 : decode code 768 = .ok (.iaload, 1) := by decide +kernel
theorem xd_law_769 : decode code 769 = .ok (.aload_n 0, 1) := by decide +kernel
theorem xd_law_770 : decode code 770 = .ok (.iload_n 3, 1) := by decide +kernel
theorem xd_law_771 : decode code 771 = .ok (.iconst 2, 1) := by decide +kernel
theorem xd_law_772 : decode code 772 = .ok (.iadd, 1) := by decide +kernel
theorem xd_law_773 : decode code 773 = .ok (.iaload, 1) := by decide +kernel
theorem xd_law_774 : decode code 774 = .ok (.aload_n 0, 1) := by decide +kernel
theorem xd_law_775 : decode code 775 = .ok (.iload_n 3, 1) := by decide +kernel
theorem xd_law_776 : decode code 776 = .ok (.iconst 3, 1) := by decide +kernel
theorem xd_law_777 : decode code 777 = .ok (.iadd, 1) := by decide +kernel
theorem xd_law_778 : decode code 778 = .ok (.iaload, 1) := by decide +kernel
theorem xd_law_779 : decode code 779 = .ok (.invokevirtual 84, 3) := by decide +kernel
theorem xd_law_782 : decode code 782 = .ok (.if_icmp .eq 466, 3) := by decide +kernel
theorem xd_law_785 : decode code 785 = .ok (.iconst 0, 1) := by decide +kernel
theorem xd_law_786 : decode code 786 = .ok (.ireturn, 1) := by decide +kernel
theorem xd_law_787 : decode code 787 = .ok (.aload_n 1, 1) := by decide +kernel
theorem xd_law_788 : decode code 788 = .ok (.aload_n 0, 1) := by decide +kernel
theorem xd_law_789 : decode code 789 = .ok (.iload_n 3, 1) := by decide +kernel
theorem xd_law_790 : decode code 790 = .ok (.iconst 1, 1) := by decide +kernel
theorem xd_law_791 : decode code 791 = .ok (.iadd, 1) := by decide +kernel
theorem xd_law_792 : decode code 792 = .ok (.iaload, 1) := by decide +kernel
theorem xd_law_793 : decode code 793 = .ok (.aload_n 0, 1) := by decide +kernel
theorem xd_law_794 : decode code 794 = .ok (.iload_n 3, 1) := by decide +kernel
theorem xd_law_795 : decode code 795 = .ok (.iconst 2, 1) := by decide +kernel
theorem xd_law_796 : decode code 796 = .ok (.iadd, 1) := by decide +kernel
theorem xd_law_797 : decode code 797 = .ok (.iaload, 1) := by decide +kernel
theorem xd_law_798 : decode code 798 = .ok (.aload_n 0, 1) := by decide +kernel
theorem xd_law_799 : decode code 799 = .ok (.iload_n 3, 1) := by decide +kernel
theorem xd_law_800 : decode code 800 = .ok (.iconst 3, 1) := by decide +kernel
theorem xd_law_801 : decode code 801 = .ok (.iadd, 1) := by decide +kernel
theorem xd_law_802 : decode code 802 = .ok (.iaload, 1) := by decide +kernel
theorem xd_law_803 : decode code 803 = .ok (.invokevirtual 85, 3) := by decide +kernel
theorem xd_law_806 : decode code 806 = .ok (.aload_n 2, 1) := by decide +kernel
theorem xd_law_807 : decode code 807 = .ok (.aload_n 0, 1) := by decide +kernel
theorem xd_law_808 : decode code 808 = .ok (.iload_n 3, 1) := by decide +kernel
theorem xd_law_809 : decode code 809 = .ok (.iconst 1, 1) := by decide +kernel
theorem xd_law_810 : decode code 810 = .ok (.iadd, 1) := by decide +kernel
theorem xd_law_811 : decode code 811 = .ok (.iaload, 1) := by decide +kernel
theorem xd_law_812 : decode code 812 = .ok (.aload_n 0, 1) := by decide +kernel
theorem xd_law_813 : decode code 813 = .ok (.iload_n 3, 1) := by decide +kernel
theorem xd_law_814 : decode code 814 = .ok (.iconst 2, 1) := by decide +kernel
theorem xd_law_815 : decode code 815 = .ok (.iadd, 1) := by decide +kernel
theorem xd_law_816 : decode code 816 = .ok (.iaload, 1) := by decide +kernel
theorem xd_law_817 : decode code 817 = .ok (.aload_n 0, 1) := by decide +kernel
theorem xd_law_818 : decode code 818 = .ok (.iload_n 3, 1) := by decide +kernel
theorem xd_law_819 : decode code 819 = .ok (.iconst 3, 1) := by decide +kernel
theorem xd_law_820 : decode code 820 = .ok (.iadd, 1) := by decide +kernel
theorem xd_law_821 : decode code 821 = .ok (.iaload, 1) := by decide +kernel
theorem xd_law_822 : decode code 822 = .ok (.invokevirtual 88, 3) := by decide +kernel
theorem xd_law_825 : decode code 825 = .ok (.if_icmp .eq 423, 3) := by decide +kernel
theorem xd_law_828 : decode code 828 = .ok (.iconst 0, 1) := by decide +kernel
theorem xd_law_829 : decode code 829 = .ok (.ireturn, 1) := by decide +kernel
theorem xd_law_830 : decode code 830 = .ok (.aload_n 1, 1) := by decide +kernel
theorem xd_law_831 : decode code 831 = .ok (.aload_n 0, 1) := by decide +kernel
theorem xd_law_832 : decode code 832 = .ok (.iload_n 3, 1) := by decide +kernel
theorem xd_law_833 : decode code 833 = .ok (.iconst 1, 1) := by decide +kernel
theorem xd_law_834 : decode code 834 = .ok (.iadd, 1) := by decide +kernel
theorem xd_law_835 : decode code 835 = .ok (.iaload, 1) := by decide +kernel
theorem xd_law_836 : decode code 836 = .ok (.aload_n 0, 1) := by decide +kernel
theorem xd_law_837 : decode code 837 = .ok (.iload_n 3, 1) := by decide +kernel
theorem xd_law_838 : decode code 838 = .ok (.iconst 2, 1) := by decide +kernel
theorem xd_law_839 : decode code 839 = .ok (.iadd, 1) := by decide +kernel
theorem xd_law_840 : decode code 840 = .ok (.iaload, 1) := by decide +kernel
theorem xd_law_841 : decode code 841 = .ok (.aload_n 0, 1) := by decide +kernel
theorem xd_law_842 : decode code 842 = .ok (.iload_n 3, 1) := by decide +kernel
theorem xd_law_843 : decode code 843 = .ok (.iconst 3, 1) := by decide +kernel
theorem xd_law_844 : decode code 844 = .ok (.iadd, 1) := by decide +kernel
theorem xd_law_845 : decode code 845 = .ok (.iaload, 1) := by decide +kernel
theorem xd_law_846 : decode code 846 = .ok (.invokevirtual 89, 3) := by decide +kernel
theorem xd_law_849 : decode code 849 = .ok (.aload_n 2, 1) := by decide +kernel
theorem xd_law_850 : decode code 850 = .ok (.aload_n 0, 1) := by decide +kernel
theorem xd_law_851 : decode code 851 = .ok (.iload_n 3, 1) := by decide +kernel
theorem xd_law_852 : decode code 852 = .ok (.iconst 1, 1) := by decide +kernel
theorem xd_law_853 : decode code 853 = .ok (.iadd, 1) := by decide +kernel
theorem xd_law_854 : decode code 854 = .ok (.iaload, 1) := by decide +kernel
theorem xd_law_855 : decode code 855 = .ok (.aload_n 0, 1) := by decide +kernel
theorem xd_law_856 : decode code 856 = .ok (.iload_n 3, 1) := by decide +kernel
theorem xd_law_857 : decode code 857 = .ok (.iconst 2, 1) := by decide +kernel
theorem xd_law_858 : decode code 858 = .ok (.iadd, 1) := by decide +kernel
theorem xd_law_859 : decode code 859 = .ok (.iaload, 1) := by decide +kernel
theorem xd_law_860 : decode code 860 = .ok (.aload_n 0, 1) := by decide +kernel
theorem xd_law_861 : decode code 861 = .ok (.iload_n 3, 1) := by decide +kernel
theorem xd_law_862 : decode code 862 = .ok (.iconst 3, 1) := by decide +kernel
theorem xd_law_863 : decode code 863 = .ok (.iadd, 1) := by decide +kernel
theorem xd_law_864 : decode code 864 = .ok (.iaload, 1) := by decide +kernel
theorem xd_law_865 : decode code 865 = .ok (.invokevirtual 92, 3) := by decide +kernel
theorem xd_law_868 : decode code 868 = .ok (.if_icmp .eq 380, 3) := by decide +kernel
theorem xd_law_871 : decode code 871 = .ok (.iconst 0, 1) := by decide +kernel
theorem xd_law_872 : decode code 872 = .ok (.ireturn, 1) := by decide +kernel
theorem xd_law_873 : decode code 873 = .ok (.aload_n 1, 1) := by decide +kernel
theorem xd_law_874 : decode code 874 = .ok (.invokevirtual 93, 3) := by decide +kernel
theorem xd_law_877 : decode code 877 = .ok (.aload_n 2, 1) := by decide +kernel
theorem xd_law_878 : decode code 878 = .ok (.invokevirtual 97, 3) := by decide +kernel
theorem xd_law_881 : decode code 881 = .ok (.if_icmp .eq 367, 3) := by decide +kernel
theorem xd_law_884 : decode code 884 = .ok (.iconst 0, 1) := by decide +kernel
theorem xd_law_885 : decode code 885 = .ok (.ireturn, 1) := by decide +kernel
theorem xd_law_886 : decode code 886 = .ok (.aload_n 1, 1) := by decide +kernel
theorem xd_law_887 : decode code 887 = .ok (.aload_n 0, 1) := by decide +kernel
theorem xd_law_888 : decode code 888 = .ok (.iload_n 3, 1) := by decide +kernel
theorem xd_law_889 : decode code 889 = .ok (.iconst 1, 1) := by decide +kernel
theorem xd_law_890 : decode code 890 = .ok (.iadd, 1) := by decide +kernel
theorem xd_law_891 : decode code 891 = .ok (.iaload, 1) := by decide +kernel
theorem xd_law_892 : decode code 892 = .ok (.aload_n 0, 1) := by decide +kernel
theorem xd_law_893 : decode code 893 = .ok (.iload_n 3, 1) := by decide +kernel
theorem xd_law_894 : decode code 894 = .ok (.iconst 2, 1) := by decide +kernel
theorem xd_law_895 : decode code 895 = .ok (.iadd, 1) := by decide +kernel
theorem xd_law_896 : decode code 896 = .ok (.iaload, 1) := by decide +kernel
theorem xd_law_897 : decode code 897 = .ok (.invokevirtual 98, 3) := by decide +kernel
theorem xd_law_900 : decode code 900 = .ok (.aload_n 2, 1) := by decide +kernel
theorem xd_law_901 : decode code 901 = .ok (.aload_n 0, 1) := by decide +kernel
theorem xd_law_902 : decode code 902 = .ok (.iload_n 3, 1) := by decide +kernel
theorem xd_law_903 : decode code 903 = .ok (.iconst 1, 1) := by decide +kernel
theorem xd_law_904 : decode code 904 = .ok (.iadd, 1) := by decide +kernel
theorem xd_law_905 : decode code 905 = .ok (.iaload, 1) := by decide +kernel
theorem xd_law_906 : decode code 906 = .ok (.aload_n 0, 1) := by decide +kernel
theorem xd_law_907 : decode code 907 = .ok (.iload_n 3, 1) := by decide +kernel
theorem xd_law_908 : decode code 908 = .ok (.iconst 2, 1) := by decide +kernel
theorem xd_law_909 : decode code 909 = .ok (.iadd, 1) := by decide +kernel
theorem xd_law_910 : decode code 910 = .ok (.iaload, 1) := by decide +kernel
theorem xd_law_911 : decode code 911 = .ok (.invokevirtual 101, 3) := by decide +kernel
theorem xd_law_914 : decode code 914 = .ok (.if_icmp .eq 334, 3) := by decide +kernel
theorem xd_law_917 : decode code 917 = .ok (.iconst 0, 1) := by decide +kernel
theorem xd_law_918 : decode code 918 = .ok (.ireturn, 1) := by decide +kernel
theorem xd_law_919 : decode code 919 = .ok (.aload_n 1, 1) := by decide +kernel
theorem xd_law_920 : decode code 920 = .ok (.aload_n 0, 1) := by decide +kernel
theorem xd_law_921 : decode code 921 = .ok (.iload_n 3, 1) := by decide +kernel
theorem xd_law_922 : decode code 922 = .ok (.iconst 1, 1) := by decide +kernel
theorem xd_law_923 : decode code 923 = .ok (.iadd, 1) := by decide +kernel
theorem xd_law_924 : decode code 924 = .ok (.iaload, 1) := by decide +kernel
theorem xd_law_925 : decode code 925 = .ok (.invokevirtual 102, 3) := by decide +kernel
theorem xd_law_928 : decode code 928 = .ok (.aload_n 2, 1) := by decide +kernel
theorem xd_law_929 : decode code 929 = .ok (.aload_n 0, 1) := by decide +kernel
theorem xd_law_930 : decode code 930 = .ok (.iload_n 3, 1) := by decide +kernel
theorem xd_law_931 : decode code 931 = .ok (.iconst 1, 1) := by decide +kernel
theorem xd_law_932 : decode code 932 = .ok (.iadd, 1) := by decide +kernel
theorem xd_law_933 : decode code 933 = .ok (.iaload, 1) := by decide +kernel
theorem xd_law_934 : decode code 934 = .ok (.invokevirtual 105, 3) := by decide +kernel
theorem xd_law_937 : decode code 937 = .ok (.if_icmp .eq 311, 3) := by decide +kernel
theorem xd_law_940 : decode code 940 = .ok (.iconst 0, 1) := by decide +kernel
theorem xd_law_941 : decode code 941 = .ok (.ireturn, 1) := by decide +kernel
theorem xd_law_942 : decode code 942 = .ok (.aload_n 1, 1) := by decide +kernel
theorem xd_law_943 : decode code 943 = .ok (.aload_n 0, 1) := by decide +kernel
theorem xd_law_944 : decode code 944 = .ok (.iload_n 3, 1) := by decide +kernel
theorem xd_law_945 : decode code 945 = .ok (.iconst 1, 1) := by decide +kernel
theorem xd_law_946 : decode code 946 = .ok (.iadd, 1) := by decide +kernel
theorem xd_law_947 : decode code 947 = .ok (.iaload, 1) := by decide +kernel
theorem xd_law_948 : decode code 948 = .ok (.invokevirtual 106, 3) := by decide +kernel
theorem xd_law_951 : decode code 951 = .ok (.aload_n 2, 1) := by decide +kernel
theorem xd_law_952 : decode code 952 = .ok (.aload_n 0, 1) := by decide +kernel
theorem xd_law_953 : decode code 953 = .ok (.iload_n 3, 1) := by decide +kernel
theorem xd_law_954 : decode code 954 = .ok (.iconst 1, 1) := by decide +kernel
theorem xd_law_955 : decode code 955 = .ok (.iadd, 1) := by decide +kernel
theorem xd_law_956 : decode code 956 = .ok (.iaload, 1) := by decide +kernel
theorem xd_law_957 : decode code 957 = .ok (.invokevirtual 109, 3) := by decide +kernel
theorem xd_law_960 : decode code 960 = .ok (.if_icmp .eq 288, 3) := by decide +kernel
theorem xd_law_963 : decode code 963 = .ok (.iconst 0, 1) := by decide +kernel
theorem xd_law_964 : decode code 964 = .ok (.ireturn, 1) := by decide +kernel
theorem xd_law_965 : decode code 965 = .ok (.aload_n 1, 1) := by decide +kernel
theorem xd_law_966 : decode code 966 = .ok (.aload_n 0, 1) := by decide +kernel
theorem xd_law_967 : decode code 967 = .ok (.iload_n 3, 1) := by decide +kernel
theorem xd_law_968 : decode code 968 = .ok (.iconst 1, 1) := by decide +kernel
theorem xd_law_969 : decode code 969 = .ok (.iadd, 1) := by decide +kernel
theorem xd_law_970 : decode code 970 = .ok (.iaload, 1) := by decide +kernel
theorem xd_law_971 : decode code 971 = .ok (.aload_n 0, 1) := by decide +kernel
theorem xd_law_972 : decode code 972 = .ok (.iload_n 3, 1) := by decide +kernel
theorem xd_law_973 : decode code 973 = .ok (.iconst 2, 1) := by decide +kernel
theorem xd_law_974 : decode code 974 = .ok (.iadd, 1) := by decide +kernel
theorem xd_law_975 : decode code 975 = .ok (.iaload, 1) := by decide +kernel

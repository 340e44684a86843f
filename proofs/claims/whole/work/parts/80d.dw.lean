/-! How the law's instructions read. -/
theorem de_W_law_746 : decode code 746 = .ok (.iaload, 1) := by decide +kernel
theorem de_W_law_747 : decode code 747 = .ok (.aload_n 0, 1) := by decide +kernel
theorem de_W_law_748 : decode code 748 = .ok (.iload 4, 2) := by decide +kernel
theorem de_W_law_750 : decode code 750 = .ok (.iconst 2, 1) := by decide +kernel
theorem de_W_law_751 : decode code 751 = .ok (.iadd, 1) := by decide +kernel
theorem de_W_law_752 : decode code 752 = .ok (.iaload, 1) := by decide +kernel
theorem de_W_law_753 : decode code 753 = .ok (.i2l, 1) := by decide +kernel
theorem de_W_law_754 : decode code 754 = .ok (.bipush 32, 2) := by decide +kernel
theorem de_W_law_756 : decode code 756 = .ok (.lshl, 1) := by decide +kernel
theorem de_W_law_757 : decode code 757 = .ok (.aload_n 0, 1) := by decide +kernel
theorem de_W_law_758 : decode code 758 = .ok (.iload 4, 2) := by decide +kernel
theorem de_W_law_760 : decode code 760 = .ok (.iconst 3, 1) := by decide +kernel
theorem de_W_law_761 : decode code 761 = .ok (.iadd, 1) := by decide +kernel
theorem de_W_law_762 : decode code 762 = .ok (.iaload, 1) := by decide +kernel
theorem de_W_law_763 : decode code 763 = .ok (.i2l, 1) := by decide +kernel
theorem de_W_law_764 : decode code 764 = .ok (.ldc2_w 54, 3) := by decide +kernel
theorem de_W_law_767 : decode code 767 = .ok (.land, 1) := by decide +kernel
theorem de_W_law_768 : decode code 768 = .ok (.lor, 1) := by decide +kernel
theorem de_W_law_769 : decode code 769 = .ok (.aload_n 0, 1) := by decide +kernel
theorem de_W_law_770 : decode code 770 = .ok (.iload 4, 2) := by decide +kernel
theorem de_W_law_772 : decode code 772 = .ok (.iconst 4, 1) := by decide +kernel
theorem de_W_law_773 : decode code 773 = .ok (.iadd, 1) := by decide +kernel
theorem de_W_law_774 : decode code 774 = .ok (.iaload, 1) := by decide +kernel
theorem de_W_law_775 : decode code 775 = .ok (.i2l, 1) := by decide +kernel
theorem de_W_law_776 : decode code 776 = .ok (.bipush 32, 2) := by decide +kernel
theorem de_W_law_778 : decode code 778 = .ok (.lshl, 1) := by decide +kernel
theorem de_W_law_779 : decode code 779 = .ok (.aload_n 0, 1) := by decide +kernel
theorem de_W_law_780 : decode code 780 = .ok (.iload 4, 2) := by decide +kernel
theorem de_W_law_782 : decode code 782 = .ok (.iconst 5, 1) := by decide +kernel
theorem de_W_law_783 : decode code 783 = .ok (.iadd, 1) := by decide +kernel
theorem de_W_law_784 : decode code 784 = .ok (.iaload, 1) := by decide +kernel
theorem de_W_law_785 : decode code 785 = .ok (.i2l, 1) := by decide +kernel
theorem de_W_law_786 : decode code 786 = .ok (.ldc2_w 54, 3) := by decide +kernel
theorem de_W_law_789 : decode code 789 = .ok (.land, 1) := by decide +kernel
theorem de_W_law_790 : decode code 790 = .ok (.lor, 1) := by decide +kernel
theorem de_W_law_791 : decode code 791 = .ok (.invokevirtual 91, 3) := by decide +kernel
theorem de_W_law_794 : decode code 794 = .ok (.aload_n 2, 1) := by decide +kernel
theorem de_W_law_795 : decode code 795 = .ok (.aload_n 0, 1) := by decide +kernel
theorem de_W_law_796 : decode code 796 = .ok (.iload 4, 2) := by decide +kernel
theorem de_W_law_798 : decode code 798 = .ok (.iconst 1, 1) := by decide +kernel
theorem de_W_law_799 : decode code 799 = .ok (.iadd, 1) := by decide +kernel
theorem de_W_law_800 : decode code 800 = .ok (.iaload, 1) := by decide +kernel
theorem de_W_law_801 : decode code 801 = .ok (.aload_n 0, 1) := by decide +kernel
theorem de_W_law_802 : decode code 802 = .ok (.iload 4, 2) := by decide +kernel
theorem de_W_law_804 : decode code 804 = .ok (.iconst 2, 1) := by decide +kernel
theorem de_W_law_805 : decode code 805 = .ok (.iadd, 1) := by decide +kernel
theorem de_W_law_806 : decode code 806 = .ok (.iaload, 1) := by decide +kernel
theorem de_W_law_807 : decode code 807 = .ok (.i2l, 1) := by decide +kernel
theorem de_W_law_808 : decode code 808 = .ok (.bipush 32, 2) := by decide +kernel
theorem de_W_law_810 : decode code 810 = .ok (.lshl, 1) := by decide +kernel
theorem de_W_law_811 : decode code 811 = .ok (.aload_n 0, 1) := by decide +kernel
theorem de_W_law_812 : decode code 812 = .ok (.iload 4, 2) := by decide +kernel
theorem de_W_law_814 : decode code 814 = .ok (.iconst 3, 1) := by decide +kernel
theorem de_W_law_815 : decode code 815 = .ok (.iadd, 1) := by decide +kernel
theorem de_W_law_816 : decode code 816 = .ok (.iaload, 1) := by decide +kernel
theorem de_W_law_817 : decode code 817 = .ok (.i2l, 1) := by decide +kernel
theorem de_W_law_818 : decode code 818 = .ok (.ldc2_w 54, 3) := by decide +kernel
theorem de_W_law_821 : decode code 821 = .ok (.land, 1) := by decide +kernel
theorem de_W_law_822 : decode code 822 = .ok (.lor, 1) := by decide +kernel
theorem de_W_law_823 : decode code 823 = .ok (.aload_n 0, 1) := by decide +kernel
theorem de_W_law_824 : decode code 824 = .ok (.iload 4, 2) := by decide +kernel
theorem de_W_law_826 : decode code 826 = .ok (.iconst 4, 1) := by decide +kernel
theorem de_W_law_827 : decode code 827 = .ok (.iadd, 1) := by decide +kernel
theorem de_W_law_828 : decode code 828 = .ok (.iaload, 1) := by decide +kernel
theorem de_W_law_829 : decode code 829 = .ok (.i2l, 1) := by decide +kernel
theorem de_W_law_830 : decode code 830 = .ok (.bipush 32, 2) := by decide +kernel
theorem de_W_law_832 : decode code 832 = .ok (.lshl, 1) := by decide +kernel
theorem de_W_law_833 : decode code 833 = .ok (.aload_n 0, 1) := by decide +kernel
theorem de_W_law_834 : decode code 834 = .ok (.iload 4, 2) := by decide +kernel
theorem de_W_law_836 : decode code 836 = .ok (.iconst 5, 1) := by decide +kernel
theorem de_W_law_837 : decode code 837 = .ok (.iadd, 1) := by decide +kernel
theorem de_W_law_838 : decode code 838 = .ok (.iaload, 1) := by decide +kernel
theorem de_W_law_839 : decode code 839 = .ok (.i2l, 1) := by decide +kernel
theorem de_W_law_840 : decode code 840 = .ok (.ldc2_w 54, 3) := by decide +kernel
theorem de_W_law_843 : decode code 843 = .ok (.land, 1) := by decide +kernel
theorem de_W_law_844 : decode code 844 = .ok (.lor, 1) := by decide +kernel
theorem de_W_law_845 : decode code 845 = .ok (.invokevirtual 95, 3) := by decide +kernel
theorem de_W_law_848 : decode code 848 = .ok (.if_icmp .eq 553, 3) := by decide +kernel
theorem de_W_law_851 : decode code 851 = .ok (.iconst 0, 1) := by decide +kernel
theorem de_W_law_852 : decode code 852 = .ok (.ireturn, 1) := by decide +kernel
theorem de_W_law_853 : decode code 853 = .ok (.aload_n 1, 1) := by decide +kernel
theorem de_W_law_854 : decode code 854 = .ok (.aload_n 0, 1) := by decide +kernel
theorem de_W_law_855 : decode code 855 = .ok (.iload 4, 2) := by decide +kernel
theorem de_W_law_857 : decode code 857 = .ok (.iconst 1, 1) := by decide +kernel
theorem de_W_law_858 : decode code 858 = .ok (.iadd, 1) := by decide +kernel
theorem de_W_law_859 : decode code 859 = .ok (.iaload, 1) := by decide +kernel
theorem de_W_law_860 : decode code 860 = .ok (.ifCond .eq 7, 3) := by decide +kernel
theorem de_W_law_863 : decode code 863 = .ok (.iconst 1, 1) := by decide +kernel
theorem de_W_law_864 : decode code 864 = .ok (.goto 4, 3) := by decide +kernel
theorem de_W_law_867 : decode code 867 = .ok (.iconst 0, 1) := by decide +kernel
theorem de_W_law_868 : decode code 868 = .ok (.aload_n 0, 1) := by decide +kernel
theorem de_W_law_869 : decode code 869 = .ok (.iload 4, 2) := by decide +kernel
theorem de_W_law_871 : decode code 871 = .ok (.iconst 2, 1) := by decide +kernel
theorem de_W_law_872 : decode code 872 = .ok (.iadd, 1) := by decide +kernel
theorem de_W_law_873 : decode code 873 = .ok (.iaload, 1) := by decide +kernel
theorem de_W_law_874 : decode code 874 = .ok (.i2l, 1) := by decide +kernel
theorem de_W_law_875 : decode code 875 = .ok (.bipush 32, 2) := by decide +kernel
theorem de_W_law_877 : decode code 877 = .ok (.lshl, 1) := by decide +kernel
theorem de_W_law_878 : decode code 878 = .ok (.aload_n 0, 1) := by decide +kernel
theorem de_W_law_879 : decode code 879 = .ok (.iload 4, 2) := by decide +kernel
theorem de_W_law_881 : decode code 881 = .ok (.iconst 3, 1) := by decide +kernel
theorem de_W_law_882 : decode code 882 = .ok (.iadd, 1) := by decide +kernel
theorem de_W_law_883 : decode code 883 = .ok (.iaload, 1) := by decide +kernel
theorem de_W_law_884 : decode code 884 = .ok (.i2l, 1) := by decide +kernel
theorem de_W_law_885 : decode code 885 = .ok (.ldc2_w 54, 3) := by decide +kernel
theorem de_W_law_888 : decode code 888 = .ok (.land, 1) := by decide +kernel
theorem de_W_law_889 : decode code 889 = .ok (.lor, 1) := by decide +kernel
theorem de_W_law_890 : decode code 890 = .ok (.aload_n 0, 1) := by decide +kernel
theorem de_W_law_891 : decode code 891 = .ok (.iload 4, 2) := by decide +kernel
theorem de_W_law_893 : decode code 893 = .ok (.iconst 4, 1) := by decide +kernel
theorem de_W_law_894 : decode code 894 = .ok (.iadd, 1) := by decide +kernel
theorem de_W_law_895 : decode code 895 = .ok (.iaload, 1) := by decide +kernel
theorem de_W_law_896 : decode code 896 = .ok (.invokevirtual 96, 3) := by decide +kernel
theorem de_W_law_899 : decode code 899 = .ok (.aload_n 2, 1) := by decide +kernel
theorem de_W_law_900 : decode code 900 = .ok (.aload_n 0, 1) := by decide +kernel
theorem de_W_law_901 : decode code 901 = .ok (.iload 4, 2) := by decide +kernel
theorem de_W_law_903 : decode code 903 = .ok (.iconst 1, 1) := by decide +kernel
theorem de_W_law_904 : decode code 904 = .ok (.iadd, 1) := by decide +kernel
theorem de_W_law_905 : decode code 905 = .ok (.iaload, 1) := by decide +kernel
theorem de_W_law_906 : decode code 906 = .ok (.ifCond .eq 7, 3) := by decide +kernel
theorem de_W_law_909 : decode code 909 = .ok (.iconst 1, 1) := by decide +kernel
theorem de_W_law_910 : decode code 910 = .ok (.goto 4, 3) := by decide +kernel
theorem de_W_law_913 : decode code 913 = .ok (.iconst 0, 1) := by decide +kernel
theorem de_W_law_914 : decode code 914 = .ok (.aload_n 0, 1) := by decide +kernel
theorem de_W_law_915 : decode code 915 = .ok (.iload 4, 2) := by decide +kernel
theorem de_W_law_917 : decode code 917 = .ok (.iconst 2, 1) := by decide +kernel
theorem de_W_law_918 : decode code 918 = .ok (.iadd, 1) := by decide +kernel
theorem de_W_law_919 : decode code 919 = .ok (.iaload, 1) := by decide +kernel
theorem de_W_law_920 : decode code 920 = .ok (.i2l, 1) := by decide +kernel
theorem de_W_law_921 : decode code 921 = .ok (.bipush 32, 2) := by decide +kernel
theorem de_W_law_923 : decode code 923 = .ok (.lshl, 1) := by decide +kernel
theorem de_W_law_924 : decode code 924 = .ok (.aload_n 0, 1) := by decide +kernel
theorem de_W_law_925 : decode code 925 = .ok (.iload 4, 2) := by decide +kernel
theorem de_W_law_927 : decode code 927 = .ok (.iconst 3, 1) := by decide +kernel
theorem de_W_law_928 : decode code 928 = .ok (.iadd, 1) := by decide +kernel
theorem de_W_law_929 : decode code 929 = .ok (.iaload, 1) := by decide +kernel
theorem de_W_law_930 : decode code 930 = .ok (.i2l, 1) := by decide +kernel
theorem de_W_law_931 : decode code 931 = .ok (.ldc2_w 54, 3) := by decide +kernel
theorem de_W_law_934 : decode code 934 = .ok (.land, 1) := by decide +kernel
theorem de_W_law_935 : decode code 935 = .ok (.lor, 1) := by decide +kernel
theorem de_W_law_936 : decode code 936 = .ok (.aload_n 0, 1) := by decide +kernel
theorem de_W_law_937 : decode code 937 = .ok (.iload 4, 2) := by decide +kernel
theorem de_W_law_939 : decode code 939 = .ok (.iconst 4, 1) := by decide +kernel
theorem de_W_law_940 : decode code 940 = .ok (.iadd, 1) := by decide +kernel
theorem de_W_law_941 : decode code 941 = .ok (.iaload, 1) := by decide +kernel
theorem de_W_law_942 : decode code 942 = .ok (.invokevirtual 100, 3) := by decide +kernel
theorem de_W_law_945 : decode code 945 = .ok (.if_icmp .eq 456, 3) := by decide +kernel
theorem de_W_law_948 : decode code 948 = .ok (.iconst 0, 1) := by decide +kernel
theorem de_W_law_949 : decode code 949 = .ok (.ireturn, 1) := by decide +kernel
theorem de_W_law_950 : decode code 950 = .ok (.aload_n 1, 1) := by decide +kernel

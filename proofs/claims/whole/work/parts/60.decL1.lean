theorem dL_law__721 : decode cL_law_ 721 = .ok (.iconst 0, 1) := by decide +kernel
theorem dL_law__722 : decode cL_law_ 722 = .ok (.laload, 1) := by decide +kernel
theorem dL_law__723 : decode cL_law_ 723 = .ok (.iload 6, 2) := by decide +kernel
theorem dL_law__725 : decode cL_law_ 725 = .ok (.i2l, 1) := by decide +kernel
theorem dL_law__726 : decode cL_law_ 726 = .ok (.lcmp, 1) := by decide +kernel
theorem dL_law__727 : decode cL_law_ 727 = .ok (.ifCond .eq 5, 3) := by decide +kernel
theorem dL_law__730 : decode cL_law_ 730 = .ok (.iconst 0, 1) := by decide +kernel
theorem dL_law__731 : decode cL_law_ 731 = .ok (.ireturn, 1) := by decide +kernel
theorem dL_law__732 : decode cL_law_ 732 = .ok (.goto 2786, 3) := by decide +kernel
theorem dL_law__735 : decode cL_law_ 735 = .ok (.aload_n 1, 1) := by decide +kernel
theorem dL_law__736 : decode cL_law_ 736 = .ok (.aload_n 0, 1) := by decide +kernel
theorem dL_law__737 : decode cL_law_ 737 = .ok (.iload 4, 2) := by decide +kernel
theorem dL_law__739 : decode cL_law_ 739 = .ok (.iconst 1, 1) := by decide +kernel
theorem dL_law__740 : decode cL_law_ 740 = .ok (.iadd, 1) := by decide +kernel
theorem dL_law__741 : decode cL_law_ 741 = .ok (.iaload, 1) := by decide +kernel
theorem dL_law__742 : decode cL_law_ 742 = .ok (.aload_n 0, 1) := by decide +kernel
theorem dL_law__743 : decode cL_law_ 743 = .ok (.iload 4, 2) := by decide +kernel
theorem dL_law__745 : decode cL_law_ 745 = .ok (.iconst 2, 1) := by decide +kernel
theorem dL_law__746 : decode cL_law_ 746 = .ok (.iadd, 1) := by decide +kernel
theorem dL_law__747 : decode cL_law_ 747 = .ok (.iaload, 1) := by decide +kernel
theorem dL_law__748 : decode cL_law_ 748 = .ok (.aload_n 3, 1) := by decide +kernel
theorem dL_law__749 : decode cL_law_ 749 = .ok (.invokestatic 187, 3) := by decide +kernel
theorem dL_law__752 : decode cL_law_ 752 = .ok (.istore 5, 2) := by decide +kernel
theorem dL_law__754 : decode cL_law_ 754 = .ok (.aload_n 2, 1) := by decide +kernel
theorem dL_law__755 : decode cL_law_ 755 = .ok (.aload_n 0, 1) := by decide +kernel
theorem dL_law__756 : decode cL_law_ 756 = .ok (.iload 4, 2) := by decide +kernel
theorem dL_law__758 : decode cL_law_ 758 = .ok (.iconst 1, 1) := by decide +kernel
theorem dL_law__759 : decode cL_law_ 759 = .ok (.iadd, 1) := by decide +kernel
theorem dL_law__760 : decode cL_law_ 760 = .ok (.iaload, 1) := by decide +kernel
theorem dL_law__761 : decode cL_law_ 761 = .ok (.aload_n 0, 1) := by decide +kernel
theorem dL_law__762 : decode cL_law_ 762 = .ok (.iload 4, 2) := by decide +kernel
theorem dL_law__764 : decode cL_law_ 764 = .ok (.iconst 2, 1) := by decide +kernel
theorem dL_law__765 : decode cL_law_ 765 = .ok (.iadd, 1) := by decide +kernel
theorem dL_law__766 : decode cL_law_ 766 = .ok (.iaload, 1) := by decide +kernel
theorem dL_law__767 : decode cL_law_ 767 = .ok (.invokevirtual 189, 3) := by decide +kernel
theorem dL_law__770 : decode cL_law_ 770 = .ok (.istore 6, 2) := by decide +kernel
theorem dL_law__772 : decode cL_law_ 772 = .ok (.aload_n 2, 1) := by decide +kernel
theorem dL_law__773 : decode cL_law_ 773 = .ok (.invokevirtual 166, 3) := by decide +kernel
theorem dL_law__776 : decode cL_law_ 776 = .ok (.iload 5, 2) := by decide +kernel
theorem dL_law__778 : decode cL_law_ 778 = .ok (.if_icmp .eq 5, 3) := by decide +kernel
theorem dL_law__781 : decode cL_law_ 781 = .ok (.iconst 0, 1) := by decide +kernel
theorem dL_law__782 : decode cL_law_ 782 = .ok (.ireturn, 1) := by decide +kernel
theorem dL_law__783 : decode cL_law_ 783 = .ok (.iload 5, 2) := by decide +kernel
theorem dL_law__785 : decode cL_law_ 785 = .ok (.ifCond .ne 15, 3) := by decide +kernel
theorem dL_law__788 : decode cL_law_ 788 = .ok (.aload_n 3, 1) := by decide +kernel
theorem dL_law__789 : decode cL_law_ 789 = .ok (.iconst 0, 1) := by decide +kernel
theorem dL_law__790 : decode cL_law_ 790 = .ok (.laload, 1) := by decide +kernel
theorem dL_law__791 : decode cL_law_ 791 = .ok (.iload 6, 2) := by decide +kernel
theorem dL_law__793 : decode cL_law_ 793 = .ok (.i2l, 1) := by decide +kernel
theorem dL_law__794 : decode cL_law_ 794 = .ok (.lcmp, 1) := by decide +kernel
theorem dL_law__795 : decode cL_law_ 795 = .ok (.ifCond .eq 5, 3) := by decide +kernel
theorem dL_law__798 : decode cL_law_ 798 = .ok (.iconst 0, 1) := by decide +kernel
theorem dL_law__799 : decode cL_law_ 799 = .ok (.ireturn, 1) := by decide +kernel
theorem dL_law__800 : decode cL_law_ 800 = .ok (.goto 2718, 3) := by decide +kernel
theorem dL_law__803 : decode cL_law_ 803 = .ok (.aload_n 1, 1) := by decide +kernel
theorem dL_law__804 : decode cL_law_ 804 = .ok (.aload_n 0, 1) := by decide +kernel
theorem dL_law__805 : decode cL_law_ 805 = .ok (.iload 4, 2) := by decide +kernel
theorem dL_law__807 : decode cL_law_ 807 = .ok (.iconst 1, 1) := by decide +kernel
theorem dL_law__808 : decode cL_law_ 808 = .ok (.iadd, 1) := by decide +kernel
theorem dL_law__809 : decode cL_law_ 809 = .ok (.iaload, 1) := by decide +kernel
theorem dL_law__810 : decode cL_law_ 810 = .ok (.aload_n 0, 1) := by decide +kernel
theorem dL_law__811 : decode cL_law_ 811 = .ok (.iload 4, 2) := by decide +kernel
theorem dL_law__813 : decode cL_law_ 813 = .ok (.iconst 2, 1) := by decide +kernel
theorem dL_law__814 : decode cL_law_ 814 = .ok (.iadd, 1) := by decide +kernel
theorem dL_law__815 : decode cL_law_ 815 = .ok (.iaload, 1) := by decide +kernel
theorem dL_law__816 : decode cL_law_ 816 = .ok (.aload_n 0, 1) := by decide +kernel
theorem dL_law__817 : decode cL_law_ 817 = .ok (.iload 4, 2) := by decide +kernel
theorem dL_law__819 : decode cL_law_ 819 = .ok (.iconst 3, 1) := by decide +kernel
theorem dL_law__820 : decode cL_law_ 820 = .ok (.iadd, 1) := by decide +kernel
theorem dL_law__821 : decode cL_law_ 821 = .ok (.iaload, 1) := by decide +kernel
theorem dL_law__822 : decode cL_law_ 822 = .ok (.ifCond .eq 7, 3) := by decide +kernel
theorem dL_law__825 : decode cL_law_ 825 = .ok (.iconst 1, 1) := by decide +kernel
theorem dL_law__826 : decode cL_law_ 826 = .ok (.goto 4, 3) := by decide +kernel
theorem dL_law__829 : decode cL_law_ 829 = .ok (.iconst 0, 1) := by decide +kernel
theorem dL_law__830 : decode cL_law_ 830 = .ok (.aload_n 3, 1) := by decide +kernel
theorem dL_law__831 : decode cL_law_ 831 = .ok (.invokestatic 190, 3) := by decide +kernel
theorem dL_law__834 : decode cL_law_ 834 = .ok (.istore 5, 2) := by decide +kernel
theorem dL_law__836 : decode cL_law_ 836 = .ok (.aload_n 2, 1) := by decide +kernel
theorem dL_law__837 : decode cL_law_ 837 = .ok (.aload_n 0, 1) := by decide +kernel
theorem dL_law__838 : decode cL_law_ 838 = .ok (.iload 4, 2) := by decide +kernel
theorem dL_law__840 : decode cL_law_ 840 = .ok (.iconst 1, 1) := by decide +kernel
theorem dL_law__841 : decode cL_law_ 841 = .ok (.iadd, 1) := by decide +kernel
theorem dL_law__842 : decode cL_law_ 842 = .ok (.iaload, 1) := by decide +kernel
theorem dL_law__843 : decode cL_law_ 843 = .ok (.aload_n 0, 1) := by decide +kernel
theorem dL_law__844 : decode cL_law_ 844 = .ok (.iload 4, 2) := by decide +kernel
theorem dL_law__846 : decode cL_law_ 846 = .ok (.iconst 2, 1) := by decide +kernel
theorem dL_law__847 : decode cL_law_ 847 = .ok (.iadd, 1) := by decide +kernel
theorem dL_law__848 : decode cL_law_ 848 = .ok (.iaload, 1) := by decide +kernel
theorem dL_law__849 : decode cL_law_ 849 = .ok (.aload_n 0, 1) := by decide +kernel
theorem dL_law__850 : decode cL_law_ 850 = .ok (.iload 4, 2) := by decide +kernel
theorem dL_law__852 : decode cL_law_ 852 = .ok (.iconst 3, 1) := by decide +kernel
theorem dL_law__853 : decode cL_law_ 853 = .ok (.iadd, 1) := by decide +kernel
theorem dL_law__854 : decode cL_law_ 854 = .ok (.iaload, 1) := by decide +kernel
theorem dL_law__855 : decode cL_law_ 855 = .ok (.ifCond .eq 7, 3) := by decide +kernel
theorem dL_law__858 : decode cL_law_ 858 = .ok (.iconst 1, 1) := by decide +kernel
theorem dL_law__859 : decode cL_law_ 859 = .ok (.goto 4, 3) := by decide +kernel
theorem dL_law__862 : decode cL_law_ 862 = .ok (.iconst 0, 1) := by decide +kernel
theorem dL_law__863 : decode cL_law_ 863 = .ok (.invokevirtual 192, 3) := by decide +kernel
theorem dL_law__866 : decode cL_law_ 866 = .ok (.istore 6, 2) := by decide +kernel
theorem dL_law__868 : decode cL_law_ 868 = .ok (.aload_n 2, 1) := by decide +kernel
theorem dL_law__869 : decode cL_law_ 869 = .ok (.invokevirtual 166, 3) := by decide +kernel
theorem dL_law__872 : decode cL_law_ 872 = .ok (.iload 5, 2) := by decide +kernel
theorem dL_law__874 : decode cL_law_ 874 = .ok (.if_icmp .eq 5, 3) := by decide +kernel
theorem dL_law__877 : decode cL_law_ 877 = .ok (.iconst 0, 1) := by decide +kernel
theorem dL_law__878 : decode cL_law_ 878 = .ok (.ireturn, 1) := by decide +kernel
theorem dL_law__879 : decode cL_law_ 879 = .ok (.iload 5, 2) := by decide +kernel
theorem dL_law__881 : decode cL_law_ 881 = .ok (.ifCond .ne 15, 3) := by decide +kernel
theorem dL_law__884 : decode cL_law_ 884 = .ok (.aload_n 3, 1) := by decide +kernel
theorem dL_law__885 : decode cL_law_ 885 = .ok (.iconst 0, 1) := by decide +kernel
theorem dL_law__886 : decode cL_law_ 886 = .ok (.laload, 1) := by decide +kernel
theorem dL_law__887 : decode cL_law_ 887 = .ok (.iload 6, 2) := by decide +kernel
theorem dL_law__889 : decode cL_law_ 889 = .ok (.i2l, 1) := by decide +kernel
theorem dL_law__890 : decode cL_law_ 890 = .ok (.lcmp, 1) := by decide +kernel
theorem dL_law__891 : decode cL_law_ 891 = .ok (.ifCond .eq 5, 3) := by decide +kernel
theorem dL_law__894 : decode cL_law_ 894 = .ok (.iconst 0, 1) := by decide +kernel
theorem dL_law__895 : decode cL_law_ 895 = .ok (.ireturn, 1) := by decide +kernel
theorem dL_law__896 : decode cL_law_ 896 = .ok (.goto 2622, 3) := by decide +kernel
theorem dL_law__899 : decode cL_law_ 899 = .ok (.aload_n 1, 1) := by decide +kernel
theorem dL_law__900 : decode cL_law_ 900 = .ok (.aload_n 0, 1) := by decide +kernel
theorem dL_law__901 : decode cL_law_ 901 = .ok (.iload 4, 2) := by decide +kernel
theorem dL_law__903 : decode cL_law_ 903 = .ok (.iconst 1, 1) := by decide +kernel
theorem dL_law__904 : decode cL_law_ 904 = .ok (.iadd, 1) := by decide +kernel
theorem dL_law__905 : decode cL_law_ 905 = .ok (.iaload, 1) := by decide +kernel
theorem dL_law__906 : decode cL_law_ 906 = .ok (.aload_n 0, 1) := by decide +kernel
theorem dL_law__907 : decode cL_law_ 907 = .ok (.iload 4, 2) := by decide +kernel
theorem dL_law__909 : decode cL_law_ 909 = .ok (.iconst 2, 1) := by decide +kernel
theorem dL_law__910 : decode cL_law_ 910 = .ok (.iadd, 1) := by decide +kernel
theorem dL_law__911 : decode cL_law_ 911 = .ok (.iaload, 1) := by decide +kernel
theorem dL_law__912 : decode cL_law_ 912 = .ok (.ifCond .eq 7, 3) := by decide +kernel
theorem dL_law__915 : decode cL_law_ 915 = .ok (.iconst 1, 1) := by decide +kernel
theorem dL_law__916 : decode cL_law_ 916 = .ok (.goto 4, 3) := by decide +kernel
theorem dL_law__919 : decode cL_law_ 919 = .ok (.iconst 0, 1) := by decide +kernel
theorem dL_law__920 : decode cL_law_ 920 = .ok (.aload_n 3, 1) := by decide +kernel
theorem dL_law__921 : decode cL_law_ 921 = .ok (.invokestatic 193, 3) := by decide +kernel
theorem dL_law__924 : decode cL_law_ 924 = .ok (.istore 5, 2) := by decide +kernel
theorem dL_law__926 : decode cL_law_ 926 = .ok (.aload_n 2, 1) := by decide +kernel
theorem dL_law__927 : decode cL_law_ 927 = .ok (.aload_n 0, 1) := by decide +kernel
theorem dL_law__928 : decode cL_law_ 928 = .ok (.iload 4, 2) := by decide +kernel
theorem dL_law__930 : decode cL_law_ 930 = .ok (.iconst 1, 1) := by decide +kernel
theorem dL_law__931 : decode cL_law_ 931 = .ok (.iadd, 1) := by decide +kernel
theorem dL_law__932 : decode cL_law_ 932 = .ok (.iaload, 1) := by decide +kernel
theorem dL_law__933 : decode cL_law_ 933 = .ok (.aload_n 0, 1) := by decide +kernel
theorem dL_law__934 : decode cL_law_ 934 = .ok (.iload 4, 2) := by decide +kernel
theorem dL_law__936 : decode cL_law_ 936 = .ok (.iconst 2, 1) := by decide +kernel
theorem dL_law__937 : decode cL_law_ 937 = .ok (.iadd, 1) := by decide +kernel
theorem dL_law__938 : decode cL_law_ 938 = .ok (.iaload, 1) := by decide +kernel
theorem dL_law__939 : decode cL_law_ 939 = .ok (.ifCond .eq 7, 3) := by decide +kernel
theorem dL_law__942 : decode cL_law_ 942 = .ok (.iconst 1, 1) := by decide +kernel
theorem dL_law__943 : decode cL_law_ 943 = .ok (.goto 4, 3) := by decide +kernel
theorem dL_law__946 : decode cL_law_ 946 = .ok (.iconst 0, 1) := by decide +kernel
theorem dL_law__947 : decode cL_law_ 947 = .ok (.invokevirtual 196, 3) := by decide +kernel
theorem dL_law__950 : decode cL_law_ 950 = .ok (.istore 6, 2) := by decide +kernel
theorem dL_law__952 : decode cL_law_ 952 = .ok (.aload_n 2, 1) := by decide +kernel
theorem dL_law__953 : decode cL_law_ 953 = .ok (.invokevirtual 166, 3) := by decide +kernel
theorem dL_law__956 : decode cL_law_ 956 = .ok (.iload 5, 2) := by decide +kernel
theorem dL_law__958 : decode cL_law_ 958 = .ok (.if_icmp .eq 5, 3) := by decide +kernel
theorem dL_law__961 : decode cL_law_ 961 = .ok (.iconst 0, 1) := by decide +kernel
theorem dL_law__962 : decode cL_law_ 962 = .ok (.ireturn, 1) := by decide +kernel
theorem dL_law__963 : decode cL_law_ 963 = .ok (.iload 5, 2) := by decide +kernel
theorem dL_law__965 : decode cL_law_ 965 = .ok (.ifCond .ne 15, 3) := by decide +kernel
theorem dL_law__968 : decode cL_law_ 968 = .ok (.aload_n 3, 1) := by decide +kernel
theorem dL_law__969 : decode cL_law_ 969 = .ok (.iconst 0, 1) := by decide +kernel
theorem dL_law__970 : decode cL_law_ 970 = .ok (.laload, 1) := by decide +kernel
theorem dL_law__971 : decode cL_law_ 971 = .ok (.iload 6, 2) := by decide +kernel
theorem dL_law__973 : decode cL_law_ 973 = .ok (.i2l, 1) := by decide +kernel
theorem dL_law__974 : decode cL_law_ 974 = .ok (.lcmp, 1) := by decide +kernel
theorem dL_law__975 : decode cL_law_ 975 = .ok (.ifCond .eq 5, 3) := by decide +kernel
theorem dL_law__978 : decode cL_law_ 978 = .ok (.iconst 0, 1) := by decide +kernel
theorem dL_law__979 : decode cL_law_ 979 = .ok (.ireturn, 1) := by decide +kernel
theorem dL_law__980 : decode cL_law_ 980 = .ok (.goto 2538, 3) := by decide +kernel
theorem dL_law__983 : decode cL_law_ 983 = .ok (.aload_n 1, 1) := by decide +kernel
theorem dL_law__984 : decode cL_law_ 984 = .ok (.aload_n 0, 1) := by decide +kernel
theorem dL_law__985 : decode cL_law_ 985 = .ok (.iload 4, 2) := by decide +kernel
theorem dL_law__987 : decode cL_law_ 987 = .ok (.iconst 1, 1) := by decide +kernel
theorem dL_law__988 : decode cL_law_ 988 = .ok (.iadd, 1) := by decide +kernel
theorem dL_law__989 : decode cL_law_ 989 = .ok (.iaload, 1) := by decide +kernel
theorem dL_law__990 : decode cL_law_ 990 = .ok (.aload_n 0, 1) := by decide +kernel
theorem dL_law__991 : decode cL_law_ 991 = .ok (.iload 4, 2) := by decide +kernel
theorem dL_law__993 : decode cL_law_ 993 = .ok (.iconst 2, 1) := by decide +kernel
theorem dL_law__994 : decode cL_law_ 994 = .ok (.iadd, 1) := by decide +kernel
theorem dL_law__995 : decode cL_law_ 995 = .ok (.iaload, 1) := by decide +kernel
theorem dL_law__996 : decode cL_law_ 996 = .ok (.aload_n 3, 1) := by decide +kernel
theorem dL_law__997 : decode cL_law_ 997 = .ok (.invokestatic 197, 3) := by decide +kernel
theorem dL_law__1000 : decode cL_law_ 1000 = .ok (.istore 5, 2) := by decide +kernel
theorem dL_law__1002 : decode cL_law_ 1002 = .ok (.aload_n 2, 1) := by decide +kernel
theorem dL_law__1003 : decode cL_law_ 1003 = .ok (.aload_n 0, 1) := by decide +kernel
theorem dL_law__1004 : decode cL_law_ 1004 = .ok (.iload 4, 2) := by decide +kernel
theorem dL_law__1006 : decode cL_law_ 1006 = .ok (.iconst 1, 1) := by decide +kernel
theorem dL_law__1007 : decode cL_law_ 1007 = .ok (.iadd, 1) := by decide +kernel
theorem dL_law__1008 : decode cL_law_ 1008 = .ok (.iaload, 1) := by decide +kernel
theorem dL_law__1009 : decode cL_law_ 1009 = .ok (.aload_n 0, 1) := by decide +kernel
theorem dL_law__1010 : decode cL_law_ 1010 = .ok (.iload 4, 2) := by decide +kernel
theorem dL_law__1012 : decode cL_law_ 1012 = .ok (.iconst 2, 1) := by decide +kernel
theorem dL_law__1013 : decode cL_law_ 1013 = .ok (.iadd, 1) := by decide +kernel
theorem dL_law__1014 : decode cL_law_ 1014 = .ok (.iaload, 1) := by decide +kernel
theorem dL_law__1015 : decode cL_law_ 1015 = .ok (.invokevirtual 199, 3) := by decide +kernel
theorem dL_law__1018 : decode cL_law_ 1018 = .ok (.istore 6, 2) := by decide +kernel
theorem dL_law__1020 : decode cL_law_ 1020 = .ok (.aload_n 2, 1) := by decide +kernel
theorem dL_law__1021 : decode cL_law_ 1021 = .ok (.invokevirtual 166, 3) := by decide +kernel
theorem dL_law__1024 : decode cL_law_ 1024 = .ok (.iload 5, 2) := by decide +kernel
theorem dL_law__1026 : decode cL_law_ 1026 = .ok (.if_icmp .eq 5, 3) := by decide +kernel
theorem dL_law__1029 : decode cL_law_ 1029 = .ok (.iconst 0, 1) := by decide +kernel
theorem dL_law__1030 : decode cL_law_ 1030 = .ok (.ireturn, 1) := by decide +kernel
theorem dL_law__1031 : decode cL_law_ 1031 = .ok (.iload 5, 2) := by decide +kernel
theorem dL_law__1033 : decode cL_law_ 1033 = .ok (.ifCond .ne 15, 3) := by decide +kernel
theorem dL_law__1036 : decode cL_law_ 1036 = .ok (.aload_n 3, 1) := by decide +kernel
theorem dL_law__1037 : decode cL_law_ 1037 = .ok (.iconst 0, 1) := by decide +kernel
theorem dL_law__1038 : decode cL_law_ 1038 = .ok (.laload, 1) := by decide +kernel
theorem dL_law__1039 : decode cL_law_ 1039 = .ok (.iload 6, 2) := by decide +kernel
theorem dL_law__1041 : decode cL_law_ 1041 = .ok (.i2l, 1) := by decide +kernel
theorem dL_law__1042 : decode cL_law_ 1042 = .ok (.lcmp, 1) := by decide +kernel
theorem dL_law__1043 : decode cL_law_ 1043 = .ok (.ifCond .eq 5, 3) := by decide +kernel
theorem dL_law__1046 : decode cL_law_ 1046 = .ok (.iconst 0, 1) := by decide +kernel
theorem dL_law__1047 : decode cL_law_ 1047 = .ok (.ireturn, 1) := by decide +kernel
theorem dL_law__1048 : decode cL_law_ 1048 = .ok (.goto 2470, 3) := by decide +kernel
theorem dL_law__1051 : decode cL_law_ 1051 = .ok (.aload_n 1, 1) := by decide +kernel
theorem dL_law__1052 : decode cL_law_ 1052 = .ok (.aload_n 0, 1) := by decide +kernel
theorem dL_law__1053 : decode cL_law_ 1053 = .ok (.iload 4, 2) := by decide +kernel
theorem dL_law__1055 : decode cL_law_ 1055 = .ok (.iconst 1, 1) := by decide +kernel
theorem dL_law__1056 : decode cL_law_ 1056 = .ok (.iadd, 1) := by decide +kernel
theorem dL_law__1057 : decode cL_law_ 1057 = .ok (.iaload, 1) := by decide +kernel
theorem dL_law__1058 : decode cL_law_ 1058 = .ok (.aload_n 3, 1) := by decide +kernel
theorem dL_law__1059 : decode cL_law_ 1059 = .ok (.invokestatic 200, 3) := by decide +kernel
theorem dL_law__1062 : decode cL_law_ 1062 = .ok (.istore 5, 2) := by decide +kernel
theorem dL_law__1064 : decode cL_law_ 1064 = .ok (.aload_n 2, 1) := by decide +kernel
theorem dL_law__1065 : decode cL_law_ 1065 = .ok (.aload_n 0, 1) := by decide +kernel
theorem dL_law__1066 : decode cL_law_ 1066 = .ok (.iload 4, 2) := by decide +kernel
theorem dL_law__1068 : decode cL_law_ 1068 = .ok (.iconst 1, 1) := by decide +kernel
theorem dL_law__1069 : decode cL_law_ 1069 = .ok (.iadd, 1) := by decide +kernel
theorem dL_law__1070 : decode cL_law_ 1070 = .ok (.iaload, 1) := by decide +kernel
theorem dL_law__1071 : decode cL_law_ 1071 = .ok (.invokevirtual 203, 3) := by decide +kernel
theorem dL_law__1074 : decode cL_law_ 1074 = .ok (.istore 6, 2) := by decide +kernel
theorem dL_law__1076 : decode cL_law_ 1076 = .ok (.aload_n 2, 1) := by decide +kernel
theorem dL_law__1077 : decode cL_law_ 1077 = .ok (.invokevirtual 166, 3) := by decide +kernel
theorem dL_law__1080 : decode cL_law_ 1080 = .ok (.iload 5, 2) := by decide +kernel
theorem dL_law__1082 : decode cL_law_ 1082 = .ok (.if_icmp .eq 5, 3) := by decide +kernel
theorem dL_law__1085 : decode cL_law_ 1085 = .ok (.iconst 0, 1) := by decide +kernel
theorem dL_law__1086 : decode cL_law_ 1086 = .ok (.ireturn, 1) := by decide +kernel
theorem dL_law__1087 : decode cL_law_ 1087 = .ok (.iload 5, 2) := by decide +kernel
theorem dL_law__1089 : decode cL_law_ 1089 = .ok (.ifCond .ne 15, 3) := by decide +kernel
theorem dL_law__1092 : decode cL_law_ 1092 = .ok (.aload_n 3, 1) := by decide +kernel
theorem dL_law__1093 : decode cL_law_ 1093 = .ok (.iconst 0, 1) := by decide +kernel
theorem dL_law__1094 : decode cL_law_ 1094 = .ok (.laload, 1) := by decide +kernel
theorem dL_law__1095 : decode cL_law_ 1095 = .ok (.iload 6, 2) := by decide +kernel
theorem dL_law__1097 : decode cL_law_ 1097 = .ok (.i2l, 1) := by decide +kernel
theorem dL_law__1098 : decode cL_law_ 1098 = .ok (.lcmp, 1) := by decide +kernel
theorem dL_law__1099 : decode cL_law_ 1099 = .ok (.ifCond .eq 5, 3) := by decide +kernel
theorem dL_law__1102 : decode cL_law_ 1102 = .ok (.iconst 0, 1) := by decide +kernel
theorem dL_law__1103 : decode cL_law_ 1103 = .ok (.ireturn, 1) := by decide +kernel
theorem dL_law__1104 : decode cL_law_ 1104 = .ok (.goto 2414, 3) := by decide +kernel
theorem dL_law__1107 : decode cL_law_ 1107 = .ok (.aload_n 1, 1) := by decide +kernel
theorem dL_law__1108 : decode cL_law_ 1108 = .ok (.aload_n 0, 1) := by decide +kernel
theorem dL_law__1109 : decode cL_law_ 1109 = .ok (.iload 4, 2) := by decide +kernel
theorem dL_law__1111 : decode cL_law_ 1111 = .ok (.iconst 1, 1) := by decide +kernel
theorem dL_law__1112 : decode cL_law_ 1112 = .ok (.iadd, 1) := by decide +kernel
theorem dL_law__1113 : decode cL_law_ 1113 = .ok (.iaload, 1) := by decide +kernel
theorem dL_law__1114 : decode cL_law_ 1114 = .ok (.aload_n 0, 1) := by decide +kernel
theorem dL_law__1115 : decode cL_law_ 1115 = .ok (.iload 4, 2) := by decide +kernel
theorem dL_law__1117 : decode cL_law_ 1117 = .ok (.iconst 2, 1) := by decide +kernel
theorem dL_law__1118 : decode cL_law_ 1118 = .ok (.iadd, 1) := by decide +kernel
theorem dL_law__1119 : decode cL_law_ 1119 = .ok (.iaload, 1) := by decide +kernel
theorem dL_law__1120 : decode cL_law_ 1120 = .ok (.aload_n 3, 1) := by decide +kernel
theorem dL_law__1121 : decode cL_law_ 1121 = .ok (.invokestatic 204, 3) := by decide +kernel
theorem dL_law__1124 : decode cL_law_ 1124 = .ok (.istore 5, 2) := by decide +kernel
theorem dL_law__1126 : decode cL_law_ 1126 = .ok (.aload_n 2, 1) := by decide +kernel
theorem dL_law__1127 : decode cL_law_ 1127 = .ok (.aload_n 0, 1) := by decide +kernel
theorem dL_law__1128 : decode cL_law_ 1128 = .ok (.iload 4, 2) := by decide +kernel
theorem dL_law__1130 : decode cL_law_ 1130 = .ok (.iconst 1, 1) := by decide +kernel
theorem dL_law__1131 : decode cL_law_ 1131 = .ok (.iadd, 1) := by decide +kernel
theorem dL_law__1132 : decode cL_law_ 1132 = .ok (.iaload, 1) := by decide +kernel
theorem dL_law__1133 : decode cL_law_ 1133 = .ok (.aload_n 0, 1) := by decide +kernel
theorem dL_law__1134 : decode cL_law_ 1134 = .ok (.iload 4, 2) := by decide +kernel
theorem dL_law__1136 : decode cL_law_ 1136 = .ok (.iconst 2, 1) := by decide +kernel
theorem dL_law__1137 : decode cL_law_ 1137 = .ok (.iadd, 1) := by decide +kernel
theorem dL_law__1138 : decode cL_law_ 1138 = .ok (.iaload, 1) := by decide +kernel
theorem dL_law__1139 : decode cL_law_ 1139 = .ok (.invokevirtual 206, 3) := by decide +kernel
theorem dL_law__1142 : decode cL_law_ 1142 = .ok (.istore 6, 2) := by decide +kernel
theorem dL_law__1144 : decode cL_law_ 1144 = .ok (.aload_n 2, 1) := by decide +kernel
theorem dL_law__1145 : decode cL_law_ 1145 = .ok (.invokevirtual 166, 3) := by decide +kernel
theorem dL_law__1148 : decode cL_law_ 1148 = .ok (.iload 5, 2) := by decide +kernel
theorem dL_law__1150 : decode cL_law_ 1150 = .ok (.if_icmp .eq 5, 3) := by decide +kernel
theorem dL_law__1153 : decode cL_law_ 1153 = .ok (.iconst 0, 1) := by decide +kernel
theorem dL_law__1154 : decode cL_law_ 1154 = .ok (.ireturn, 1) := by decide +kernel
theorem dL_law__1155 : decode cL_law_ 1155 = .ok (.iload 5, 2) := by decide +kernel
theorem dL_law__1157 : decode cL_law_ 1157 = .ok (.ifCond .ne 15, 3) := by decide +kernel
theorem dL_law__1160 : decode cL_law_ 1160 = .ok (.aload_n 3, 1) := by decide +kernel
theorem dL_law__1161 : decode cL_law_ 1161 = .ok (.iconst 0, 1) := by decide +kernel
theorem dL_law__1162 : decode cL_law_ 1162 = .ok (.laload, 1) := by decide +kernel
theorem dL_law__1163 : decode cL_law_ 1163 = .ok (.iload 6, 2) := by decide +kernel
theorem dL_law__1165 : decode cL_law_ 1165 = .ok (.i2l, 1) := by decide +kernel
theorem dL_law__1166 : decode cL_law_ 1166 = .ok (.lcmp, 1) := by decide +kernel
theorem dL_law__1167 : decode cL_law_ 1167 = .ok (.ifCond .eq 5, 3) := by decide +kernel
theorem dL_law__1170 : decode cL_law_ 1170 = .ok (.iconst 0, 1) := by decide +kernel
theorem dL_law__1171 : decode cL_law_ 1171 = .ok (.ireturn, 1) := by decide +kernel
theorem dL_law__1172 : decode cL_law_ 1172 = .ok (.goto 2346, 3) := by decide +kernel
theorem dL_law__1175 : decode cL_law_ 1175 = .ok (.aload_n 1, 1) := by decide +kernel
theorem dL_law__1176 : decode cL_law_ 1176 = .ok (.aload_n 0, 1) := by decide +kernel
theorem dL_law__1177 : decode cL_law_ 1177 = .ok (.iload 4, 2) := by decide +kernel
theorem dL_law__1179 : decode cL_law_ 1179 = .ok (.iconst 1, 1) := by decide +kernel
theorem dL_law__1180 : decode cL_law_ 1180 = .ok (.iadd, 1) := by decide +kernel

/-! The law's own instructions, 440 on -/
theorem d_W_732 : decode code 732 = .ok (.iconst 1, 1) := by decide +kernel
theorem d_W_733 : decode code 733 = .ok (.iadd, 1) := by decide +kernel
theorem d_W_734 : decode code 734 = .ok (.iaload, 1) := by decide +kernel
theorem d_W_735 : decode code 735 = .ok (.aload_n 0, 1) := by decide +kernel
theorem d_W_736 : decode code 736 = .ok (.iload 4, 2) := by decide +kernel
theorem d_W_738 : decode code 738 = .ok (.iconst 2, 1) := by decide +kernel
theorem d_W_739 : decode code 739 = .ok (.iadd, 1) := by decide +kernel
theorem d_W_740 : decode code 740 = .ok (.iaload, 1) := by decide +kernel
theorem d_W_741 : decode code 741 = .ok (.aload_n 0, 1) := by decide +kernel
theorem d_W_742 : decode code 742 = .ok (.iload 4, 2) := by decide +kernel
theorem d_W_744 : decode code 744 = .ok (.iconst 3, 1) := by decide +kernel
theorem d_W_745 : decode code 745 = .ok (.iadd, 1) := by decide +kernel
theorem d_W_746 : decode code 746 = .ok (.iaload, 1) := by decide +kernel
theorem d_W_747 : decode code 747 = .ok (.aload_n 3, 1) := by decide +kernel
theorem d_W_748 : decode code 748 = .ok (.invokestatic 103, 3) := by decide +kernel
theorem d_W_751 : decode code 751 = .ok (.istore 5, 2) := by decide +kernel
theorem d_W_753 : decode code 753 = .ok (.aload_n 2, 1) := by decide +kernel
theorem d_W_754 : decode code 754 = .ok (.aload_n 0, 1) := by decide +kernel
theorem d_W_755 : decode code 755 = .ok (.iload 4, 2) := by decide +kernel
theorem d_W_757 : decode code 757 = .ok (.iconst 1, 1) := by decide +kernel
theorem d_W_758 : decode code 758 = .ok (.iadd, 1) := by decide +kernel
theorem d_W_759 : decode code 759 = .ok (.iaload, 1) := by decide +kernel
theorem d_W_760 : decode code 760 = .ok (.aload_n 0, 1) := by decide +kernel
theorem d_W_761 : decode code 761 = .ok (.iload 4, 2) := by decide +kernel
theorem d_W_763 : decode code 763 = .ok (.iconst 2, 1) := by decide +kernel
theorem d_W_764 : decode code 764 = .ok (.iadd, 1) := by decide +kernel
theorem d_W_765 : decode code 765 = .ok (.iaload, 1) := by decide +kernel
theorem d_W_766 : decode code 766 = .ok (.aload_n 0, 1) := by decide +kernel
theorem d_W_767 : decode code 767 = .ok (.iload 4, 2) := by decide +kernel
theorem d_W_769 : decode code 769 = .ok (.iconst 3, 1) := by decide +kernel
theorem d_W_770 : decode code 770 = .ok (.iadd, 1) := by decide +kernel
theorem d_W_771 : decode code 771 = .ok (.iaload, 1) := by decide +kernel
theorem d_W_772 : decode code 772 = .ok (.invokevirtual 105, 3) := by decide +kernel
theorem d_W_775 : decode code 775 = .ok (.istore 6, 2) := by decide +kernel
theorem d_W_777 : decode code 777 = .ok (.aload_n 2, 1) := by decide +kernel
theorem d_W_778 : decode code 778 = .ok (.invokevirtual 72, 3) := by decide +kernel
theorem d_W_781 : decode code 781 = .ok (.iload 5, 2) := by decide +kernel
theorem d_W_783 : decode code 783 = .ok (.if_icmp .eq 5, 3) := by decide +kernel
theorem d_W_786 : decode code 786 = .ok (.iconst 0, 1) := by decide +kernel
theorem d_W_787 : decode code 787 = .ok (.ireturn, 1) := by decide +kernel
theorem d_W_788 : decode code 788 = .ok (.iload 5, 2) := by decide +kernel
theorem d_W_790 : decode code 790 = .ok (.ifCond .ne 15, 3) := by decide +kernel
theorem d_W_793 : decode code 793 = .ok (.aload_n 3, 1) := by decide +kernel
theorem d_W_794 : decode code 794 = .ok (.iconst 0, 1) := by decide +kernel
theorem d_W_795 : decode code 795 = .ok (.laload, 1) := by decide +kernel
theorem d_W_796 : decode code 796 = .ok (.iload 6, 2) := by decide +kernel
theorem d_W_798 : decode code 798 = .ok (.i2l, 1) := by decide +kernel
theorem d_W_799 : decode code 799 = .ok (.lcmp, 1) := by decide +kernel
theorem d_W_800 : decode code 800 = .ok (.ifCond .eq 5, 3) := by decide +kernel
theorem d_W_803 : decode code 803 = .ok (.iconst 0, 1) := by decide +kernel
theorem d_W_804 : decode code 804 = .ok (.ireturn, 1) := by decide +kernel
theorem d_W_805 : decode code 805 = .ok (.goto 300, 3) := by decide +kernel
theorem d_W_808 : decode code 808 = .ok (.aload_n 1, 1) := by decide +kernel
theorem d_W_809 : decode code 809 = .ok (.aload_n 0, 1) := by decide +kernel
theorem d_W_810 : decode code 810 = .ok (.iload 4, 2) := by decide +kernel
theorem d_W_812 : decode code 812 = .ok (.iconst 1, 1) := by decide +kernel
theorem d_W_813 : decode code 813 = .ok (.iadd, 1) := by decide +kernel
theorem d_W_814 : decode code 814 = .ok (.iaload, 1) := by decide +kernel
theorem d_W_815 : decode code 815 = .ok (.aload_n 0, 1) := by decide +kernel
theorem d_W_816 : decode code 816 = .ok (.iload 4, 2) := by decide +kernel
theorem d_W_818 : decode code 818 = .ok (.iconst 2, 1) := by decide +kernel
theorem d_W_819 : decode code 819 = .ok (.iadd, 1) := by decide +kernel
theorem d_W_820 : decode code 820 = .ok (.iaload, 1) := by decide +kernel
theorem d_W_821 : decode code 821 = .ok (.aload_n 0, 1) := by decide +kernel
theorem d_W_822 : decode code 822 = .ok (.iload 4, 2) := by decide +kernel
theorem d_W_824 : decode code 824 = .ok (.iconst 3, 1) := by decide +kernel
theorem d_W_825 : decode code 825 = .ok (.iadd, 1) := by decide +kernel
theorem d_W_826 : decode code 826 = .ok (.iaload, 1) := by decide +kernel
theorem d_W_827 : decode code 827 = .ok (.aload_n 3, 1) := by decide +kernel
theorem d_W_828 : decode code 828 = .ok (.invokestatic 106, 3) := by decide +kernel
theorem d_W_831 : decode code 831 = .ok (.istore 5, 2) := by decide +kernel
theorem d_W_833 : decode code 833 = .ok (.aload_n 2, 1) := by decide +kernel
theorem d_W_834 : decode code 834 = .ok (.aload_n 0, 1) := by decide +kernel
theorem d_W_835 : decode code 835 = .ok (.iload 4, 2) := by decide +kernel
theorem d_W_837 : decode code 837 = .ok (.iconst 1, 1) := by decide +kernel
theorem d_W_838 : decode code 838 = .ok (.iadd, 1) := by decide +kernel
theorem d_W_839 : decode code 839 = .ok (.iaload, 1) := by decide +kernel
theorem d_W_840 : decode code 840 = .ok (.aload_n 0, 1) := by decide +kernel
theorem d_W_841 : decode code 841 = .ok (.iload 4, 2) := by decide +kernel
theorem d_W_843 : decode code 843 = .ok (.iconst 2, 1) := by decide +kernel
theorem d_W_844 : decode code 844 = .ok (.iadd, 1) := by decide +kernel
theorem d_W_845 : decode code 845 = .ok (.iaload, 1) := by decide +kernel
theorem d_W_846 : decode code 846 = .ok (.aload_n 0, 1) := by decide +kernel
theorem d_W_847 : decode code 847 = .ok (.iload 4, 2) := by decide +kernel
theorem d_W_849 : decode code 849 = .ok (.iconst 3, 1) := by decide +kernel
theorem d_W_850 : decode code 850 = .ok (.iadd, 1) := by decide +kernel
theorem d_W_851 : decode code 851 = .ok (.iaload, 1) := by decide +kernel
theorem d_W_852 : decode code 852 = .ok (.invokevirtual 108, 3) := by decide +kernel
theorem d_W_855 : decode code 855 = .ok (.istore 6, 2) := by decide +kernel
theorem d_W_857 : decode code 857 = .ok (.aload_n 2, 1) := by decide +kernel
theorem d_W_858 : decode code 858 = .ok (.invokevirtual 72, 3) := by decide +kernel
theorem d_W_861 : decode code 861 = .ok (.iload 5, 2) := by decide +kernel
theorem d_W_863 : decode code 863 = .ok (.if_icmp .eq 5, 3) := by decide +kernel
theorem d_W_866 : decode code 866 = .ok (.iconst 0, 1) := by decide +kernel
theorem d_W_867 : decode code 867 = .ok (.ireturn, 1) := by decide +kernel
theorem d_W_868 : decode code 868 = .ok (.iload 5, 2) := by decide +kernel
theorem d_W_870 : decode code 870 = .ok (.ifCond .ne 15, 3) := by decide +kernel
theorem d_W_873 : decode code 873 = .ok (.aload_n 3, 1) := by decide +kernel
theorem d_W_874 : decode code 874 = .ok (.iconst 0, 1) := by decide +kernel
theorem d_W_875 : decode code 875 = .ok (.laload, 1) := by decide +kernel
theorem d_W_876 : decode code 876 = .ok (.iload 6, 2) := by decide +kernel
theorem d_W_878 : decode code 878 = .ok (.i2l, 1) := by decide +kernel
theorem d_W_879 : decode code 879 = .ok (.lcmp, 1) := by decide +kernel
theorem d_W_880 : decode code 880 = .ok (.ifCond .eq 5, 3) := by decide +kernel
theorem d_W_883 : decode code 883 = .ok (.iconst 0, 1) := by decide +kernel
theorem d_W_884 : decode code 884 = .ok (.ireturn, 1) := by decide +kernel
theorem d_W_885 : decode code 885 = .ok (.goto 220, 3) := by decide +kernel
theorem d_W_888 : decode code 888 = .ok (.aload_n 1, 1) := by decide +kernel
theorem d_W_889 : decode code 889 = .ok (.aload_n 0, 1) := by decide +kernel
theorem d_W_890 : decode code 890 = .ok (.iload 4, 2) := by decide +kernel

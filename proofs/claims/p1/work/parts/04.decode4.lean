theorem d_LW_law_758 : decode b_LW_law 758 = .ok (.ifCond .eq 5, 3) := by decide +kernel
theorem d_LW_law_761 : decode b_LW_law 761 = .ok (.iconst 0, 1) := by decide +kernel
theorem d_LW_law_762 : decode b_LW_law 762 = .ok (.ireturn, 1) := by decide +kernel
theorem d_LW_law_763 : decode b_LW_law 763 = .ok (.goto 72, 3) := by decide +kernel
theorem d_LW_law_766 : decode b_LW_law 766 = .ok (.aload_n 1, 1) := by decide +kernel
theorem d_LW_law_767 : decode b_LW_law 767 = .ok (.invokevirtual 97, 3) := by decide +kernel
theorem d_LW_law_770 : decode b_LW_law 770 = .ok (.aload_n 2, 1) := by decide +kernel
theorem d_LW_law_771 : decode b_LW_law 771 = .ok (.invokevirtual 100, 3) := by decide +kernel
theorem d_LW_law_774 : decode b_LW_law 774 = .ok (.if_icmp .eq 61, 3) := by decide +kernel
theorem d_LW_law_777 : decode b_LW_law 777 = .ok (.iconst 0, 1) := by decide +kernel
theorem d_LW_law_778 : decode b_LW_law 778 = .ok (.ireturn, 1) := by decide +kernel
theorem d_LW_law_779 : decode b_LW_law 779 = .ok (.aload_n 1, 1) := by decide +kernel
theorem d_LW_law_780 : decode b_LW_law 780 = .ok (.aload_n 0, 1) := by decide +kernel
theorem d_LW_law_781 : decode b_LW_law 781 = .ok (.iload 5, 2) := by decide +kernel
theorem d_LW_law_783 : decode b_LW_law 783 = .ok (.iconst 1, 1) := by decide +kernel
theorem d_LW_law_784 : decode b_LW_law 784 = .ok (.iadd, 1) := by decide +kernel
theorem d_LW_law_785 : decode b_LW_law 785 = .ok (.iaload, 1) := by decide +kernel
theorem d_LW_law_786 : decode b_LW_law 786 = .ok (.aload_n 3, 1) := by decide +kernel
theorem d_LW_law_787 : decode b_LW_law 787 = .ok (.invokestatic 101, 3) := by decide +kernel
theorem d_LW_law_790 : decode b_LW_law 790 = .ok (.istore 6, 2) := by decide +kernel
theorem d_LW_law_792 : decode b_LW_law 792 = .ok (.aload_n 2, 1) := by decide +kernel
theorem d_LW_law_793 : decode b_LW_law 793 = .ok (.aload_n 0, 1) := by decide +kernel
theorem d_LW_law_794 : decode b_LW_law 794 = .ok (.iload 5, 2) := by decide +kernel
theorem d_LW_law_796 : decode b_LW_law 796 = .ok (.iconst 1, 1) := by decide +kernel
theorem d_LW_law_797 : decode b_LW_law 797 = .ok (.iadd, 1) := by decide +kernel
theorem d_LW_law_798 : decode b_LW_law 798 = .ok (.iaload, 1) := by decide +kernel
theorem d_LW_law_799 : decode b_LW_law 799 = .ok (.invokevirtual 104, 3) := by decide +kernel
theorem d_LW_law_802 : decode b_LW_law 802 = .ok (.istore 7, 2) := by decide +kernel
theorem d_LW_law_804 : decode b_LW_law 804 = .ok (.aload_n 2, 1) := by decide +kernel
theorem d_LW_law_805 : decode b_LW_law 805 = .ok (.invokevirtual 65, 3) := by decide +kernel
theorem d_LW_law_808 : decode b_LW_law 808 = .ok (.iload 6, 2) := by decide +kernel
theorem d_LW_law_810 : decode b_LW_law 810 = .ok (.if_icmp .eq 5, 3) := by decide +kernel
theorem d_LW_law_813 : decode b_LW_law 813 = .ok (.iconst 0, 1) := by decide +kernel
theorem d_LW_law_814 : decode b_LW_law 814 = .ok (.ireturn, 1) := by decide +kernel
theorem d_LW_law_815 : decode b_LW_law 815 = .ok (.iload 6, 2) := by decide +kernel
theorem d_LW_law_817 : decode b_LW_law 817 = .ok (.ifCond .ne 15, 3) := by decide +kernel
theorem d_LW_law_820 : decode b_LW_law 820 = .ok (.aload_n 3, 1) := by decide +kernel
theorem d_LW_law_821 : decode b_LW_law 821 = .ok (.iconst 0, 1) := by decide +kernel
theorem d_LW_law_822 : decode b_LW_law 822 = .ok (.laload, 1) := by decide +kernel
theorem d_LW_law_823 : decode b_LW_law 823 = .ok (.iload 7, 2) := by decide +kernel
theorem d_LW_law_825 : decode b_LW_law 825 = .ok (.i2l, 1) := by decide +kernel
theorem d_LW_law_826 : decode b_LW_law 826 = .ok (.lcmp, 1) := by decide +kernel
theorem d_LW_law_827 : decode b_LW_law 827 = .ok (.ifCond .eq 5, 3) := by decide +kernel
theorem d_LW_law_830 : decode b_LW_law 830 = .ok (.iconst 0, 1) := by decide +kernel
theorem d_LW_law_831 : decode b_LW_law 831 = .ok (.ireturn, 1) := by decide +kernel
theorem d_LW_law_832 : decode b_LW_law 832 = .ok (.goto 3, 3) := by decide +kernel
theorem d_LW_law_835 : decode b_LW_law 835 = .ok (.iinc 5 5, 3) := by decide +kernel
theorem d_LW_law_838 : decode b_LW_law 838 = .ok (.goto (-810), 3) := by decide +kernel
theorem d_LW_law_841 : decode b_LW_law 841 = .ok (.iconst 1, 1) := by decide +kernel
theorem d_LW_law_842 : decode b_LW_law 842 = .ok (.ireturn, 1) := by decide +kernel

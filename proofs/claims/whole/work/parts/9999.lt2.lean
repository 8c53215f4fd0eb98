def kl_12 (l : Launch) (G : Gc) (pc : Nat) : Tr :=
  if pc < 749 then
   if pc < 735 then
    if pc < 729 then
     if pc < 726 then
      if pc < 725 then
       if pc = 724 then tz_aload 725 1 else dead
      else
       if pc = 725 then tz_aload 726 0 else dead
     else
      if pc < 728 then
       if pc = 726 then tz_iload 728 4 else dead
      else
       if pc = 728 then tz_const 729 (.int (nI 1)) else dead
    else
     if pc < 731 then
      if pc < 730 then
       if pc = 729 then tz_i2 730 (fun a b => a + b) else dead
      else
       if pc = 730 then tz_iaload 731 else dead
     else
      if pc < 732 then
       if pc = 731 then tz_aload 732 3 else dead
      else
       if pc = 732 then tz_callR l G 735 M_Lw_reply 3 else dead
   else
    if pc < 741 then
     if pc < 738 then
      if pc < 737 then
       if pc = 735 then tz_istore 737 5 else dead
      else
       if pc = 737 then tz_aload 738 2 else dead
     else
      if pc < 739 then
       if pc = 738 then tz_aload 739 0 else dead
      else
       if pc = 739 then tz_iload 741 4 else dead
    else
     if pc < 743 then
      if pc < 742 then
       if pc = 741 then tz_const 742 (.int (nI 1)) else dead
      else
       if pc = 742 then tz_i2 743 (fun a b => a + b) else dead
     else
      if pc < 744 then
       if pc = 743 then tz_iaload 744 else dead
      else
       if pc < 747 then
        if pc = 744 then tz_callV l G 747 M_Mo_reply 1 7 else dead
       else
        if pc = 747 then tz_istore 749 6 else dead
  else
   if pc < 766 then
    if pc < 758 then
     if pc < 753 then
      if pc < 750 then
       if pc = 749 then tz_aload 750 2 else dead
      else
       if pc = 750 then tz_pureV 753 0 7 P_Mo_thrown f_Mo_thrown else dead
     else
      if pc < 755 then
       if pc = 753 then tz_iload 755 5 else dead
      else
       if pc = 755 then tz_icmp 758 760 (fun a b => a = b) else dead
    else
     if pc < 760 then
      if pc < 759 then
       if pc = 758 then tz_const 759 (.int (nI 0)) else dead
      else
       if pc = 759 then tz_zret else dead
     else
      if pc < 762 then
       if pc = 760 then tz_iload 762 5 else dead
      else
       if pc < 765 then
        if pc = 762 then tz_if 765 777 (fun a => ¬ a = 0) else dead
       else
        if pc = 765 then tz_aload 766 3 else dead
   else
    if pc < 771 then
     if pc < 768 then
      if pc < 767 then
       if pc = 766 then tz_const 767 (.int (nI 0)) else dead
      else
       if pc = 767 then tz_laload 768 else dead
     else
      if pc < 770 then
       if pc = 768 then tz_iload 770 6 else dead
      else
       if pc = 770 then tz_i2l 771 else dead
    else
     if pc < 775 then
      if pc < 772 then
       if pc = 771 then tz_lcmp 772 else dead
      else
       if pc = 772 then tz_if 775 777 (fun a => a = 0) else dead
     else
      if pc < 776 then
       if pc = 775 then tz_const 776 (.int (nI 0)) else dead
      else
       if pc < 777 then
        if pc = 776 then tz_zret else dead
       else
        if pc = 777 then tz_goto 1585 else dead
set_option maxRecDepth 100000 in
theorem tl_12 (l : Launch) (G : Gc) : TabOK l G M_Lw_law (kl_12 l G) := by
  intro pc
  unfold kl_12
  exact
   (sd_br
    (sd_br
     (sd_br
      (sd_br
       (sd_br
        (sd_lf (sd_aload_n (k := 1) (by decide +kernel : decode code 724 = .ok (.aload_n 1, 1))))
        (sd_lf (sd_aload_n (k := 0) (by decide +kernel : decode code 725 = .ok (.aload_n 0, 1)))))
       (sd_br
        (sd_lf (sd_iload (by decide +kernel : decode code 726 = .ok (.iload 4, 2))))
        (sd_lf (sd_iconst (by decide +kernel : decode code 728 = .ok (.iconst 1, 1)) (by decide +kernel)))))
      (sd_br
       (sd_br
        (sd_lf (sd_iadd (by decide +kernel : decode code 729 = .ok (.iadd, 1))))
        (sd_lf (sd_iaload (by decide +kernel : decode code 730 = .ok (.iaload, 1)))))
       (sd_br
        (sd_lf (sd_aload_n (k := 3) (by decide +kernel : decode code 731 = .ok (.aload_n 3, 1))))
        (sd_lf (sd_callSH (by decide +kernel : decode code 732 = .ok (.invokestatic 129, 3)) ok_Lw_reply (gm 766 (by decide +kernel) rfl) (gm 767 (by decide +kernel) rfl) (by decide +kernel) rfl)))))
     (sd_br
      (sd_br
       (sd_br
        (sd_lf (sd_istore (by decide +kernel : decode code 735 = .ok (.istore 5, 2))))
        (sd_lf (sd_aload_n (k := 2) (by decide +kernel : decode code 737 = .ok (.aload_n 2, 1)))))
       (sd_br
        (sd_lf (sd_aload_n (k := 0) (by decide +kernel : decode code 738 = .ok (.aload_n 0, 1))))
        (sd_lf (sd_iload (by decide +kernel : decode code 739 = .ok (.iload 4, 2))))))
      (sd_br
       (sd_br
        (sd_lf (sd_iconst (by decide +kernel : decode code 741 = .ok (.iconst 1, 1)) (by decide +kernel)))
        (sd_lf (sd_iadd (by decide +kernel : decode code 742 = .ok (.iadd, 1)))))
       (sd_br
        (sd_lf (sd_iaload (by decide +kernel : decode code 743 = .ok (.iaload, 1))))
        (sd_br
         (sd_lf (sd_callV (q := (RX7, TX7, 16)) (by decide +kernel : decode code 744 = .ok (.invokevirtual 131, 3)) ok_Mo_reply (gm 1146 (by decide +kernel) rfl) (gm 1147 (by decide +kernel) rfl) (gm 1148 (by decide +kernel) rfl) rfl rfl (by decide +kernel) rfl rfl))
         (sd_lf (sd_istore (by decide +kernel : decode code 747 = .ok (.istore 6, 2)))))))))
    (sd_br
     (sd_br
      (sd_br
       (sd_br
        (sd_lf (sd_aload_n (k := 2) (by decide +kernel : decode code 749 = .ok (.aload_n 2, 1))))
        (sd_lf (sd_pureV (sd_callV (q := (RX7, TX7, 16)) (by decide +kernel : decode code 750 = .ok (.invokevirtual 90, 3)) ok_Mo_thrown (gm 962 (by decide +kernel) rfl) (gm 963 (by decide +kernel) rfl) (gm 964 (by decide +kernel) rfl) rfl rfl (by decide +kernel) rfl rfl) c_Mo_thrown)))
       (sd_br
        (sd_lf (sd_iload (by decide +kernel : decode code 753 = .ok (.iload 5, 2))))
        (sd_lf (sd_icmp_eq (by decide +kernel : decode code 755 = .ok (.if_icmp .eq 5, 3)) (by decide +kernel)))))
      (sd_br
       (sd_br
        (sd_lf (sd_iconst (by decide +kernel : decode code 758 = .ok (.iconst 0, 1)) (by decide +kernel)))
        (sd_lf (sd_zret (by decide +kernel : decode code 759 = .ok (.ireturn, 1)) rfl)))
       (sd_br
        (sd_lf (sd_iload (by decide +kernel : decode code 760 = .ok (.iload 5, 2))))
        (sd_br
         (sd_lf (sd_if_ne (by decide +kernel : decode code 762 = .ok (.ifCond .ne 15, 3)) (by decide +kernel)))
         (sd_lf (sd_aload_n (k := 3) (by decide +kernel : decode code 765 = .ok (.aload_n 3, 1))))))))
     (sd_br
      (sd_br
       (sd_br
        (sd_lf (sd_iconst (by decide +kernel : decode code 766 = .ok (.iconst 0, 1)) (by decide +kernel)))
        (sd_lf (sd_laload (by decide +kernel : decode code 767 = .ok (.laload, 1)))))
       (sd_br
        (sd_lf (sd_iload (by decide +kernel : decode code 768 = .ok (.iload 6, 2))))
        (sd_lf (sd_i2l (by decide +kernel : decode code 770 = .ok (.i2l, 1))))))
      (sd_br
       (sd_br
        (sd_lf (sd_lcmp (by decide +kernel : decode code 771 = .ok (.lcmp, 1))))
        (sd_lf (sd_if_eq (by decide +kernel : decode code 772 = .ok (.ifCond .eq 5, 3)) (by decide +kernel))))
       (sd_br
        (sd_lf (sd_iconst (by decide +kernel : decode code 775 = .ok (.iconst 0, 1)) (by decide +kernel)))
        (sd_br
         (sd_lf (sd_zret (by decide +kernel : decode code 776 = .ok (.ireturn, 1)) rfl))
         (sd_lf (sd_goto (by decide +kernel : decode code 777 = .ok (.goto 808, 3)) (by decide +kernel)))))))))
def kl_13 (l : Launch) (G : Gc) (pc : Nat) : Tr :=
  if pc < 834 then
   if pc < 805 then
    if pc < 792 then
     if pc < 786 then
      if pc < 782 then
       if pc < 781 then
        if pc = 780 then tz_aload 781 1 else dead
       else
        if pc = 781 then tz_aload 782 0 else dead
      else
       if pc < 784 then
        if pc = 782 then tz_iload 784 4 else dead
       else
        if pc < 785 then
         if pc = 784 then tz_const 785 (.int (nI 1)) else dead
        else
         if pc = 785 then tz_i2 786 (fun a b => a + b) else dead
     else
      if pc < 788 then
       if pc < 787 then
        if pc = 786 then tz_iaload 787 else dead
       else
        if pc = 787 then tz_aload 788 0 else dead
      else
       if pc < 790 then
        if pc = 788 then tz_iload 790 4 else dead
       else
        if pc < 791 then
         if pc = 790 then tz_const 791 (.int (nI 2)) else dead
        else
         if pc = 791 then tz_i2 792 (fun a b => a + b) else dead
    else
     if pc < 798 then
      if pc < 794 then
       if pc < 793 then
        if pc = 792 then tz_iaload 793 else dead
       else
        if pc = 793 then tz_aload 794 0 else dead
      else
       if pc < 796 then
        if pc = 794 then tz_iload 796 4 else dead
       else
        if pc < 797 then
         if pc = 796 then tz_const 797 (.int (nI 3)) else dead
        else
         if pc = 797 then tz_i2 798 (fun a b => a + b) else dead
     else
      if pc < 802 then
       if pc < 799 then
        if pc = 798 then tz_iaload 799 else dead
       else
        if pc < 800 then
         if pc = 799 then tz_aload 800 0 else dead
        else
         if pc = 800 then tz_iload 802 4 else dead
      else
       if pc < 803 then
        if pc = 802 then tz_const 803 (.int (nI 4)) else dead
       else
        if pc < 804 then
         if pc = 803 then tz_i2 804 (fun a b => a + b) else dead
        else
         if pc = 804 then tz_iaload 805 else dead
   else
    if pc < 818 then
     if pc < 811 then
      if pc < 808 then
       if pc < 806 then
        if pc = 805 then tz_aload 806 0 else dead
       else
        if pc = 806 then tz_iload 808 4 else dead
      else
       if pc < 809 then
        if pc = 808 then tz_const 809 (.int (nI 5)) else dead
       else
        if pc < 810 then
         if pc = 809 then tz_i2 810 (fun a b => a + b) else dead
        else
         if pc = 810 then tz_iaload 811 else dead
     else
      if pc < 814 then
       if pc < 812 then
        if pc = 811 then tz_aload 812 0 else dead
       else
        if pc = 812 then tz_iload 814 4 else dead
      else
       if pc < 816 then
        if pc = 814 then tz_const 816 (.int (nI 6)) else dead
       else
        if pc < 817 then
         if pc = 816 then tz_i2 817 (fun a b => a + b) else dead
        else
         if pc = 817 then tz_iaload 818 else dead
    else
     if pc < 826 then
      if pc < 822 then
       if pc < 819 then
        if pc = 818 then tz_aload 819 3 else dead
       else
        if pc = 819 then tz_callR l G 822 M_Lw_keepAlive 8 else dead
      else
       if pc < 824 then
        if pc = 822 then tz_istore 824 5 else dead
       else
        if pc < 825 then
         if pc = 824 then tz_aload 825 2 else dead
        else
         if pc = 825 then tz_aload 826 0 else dead
     else
      if pc < 830 then
       if pc < 828 then
        if pc = 826 then tz_iload 828 4 else dead
       else
        if pc < 829 then
         if pc = 828 then tz_const 829 (.int (nI 1)) else dead
        else
         if pc = 829 then tz_i2 830 (fun a b => a + b) else dead
      else
       if pc < 831 then
        if pc = 830 then tz_iaload 831 else dead
       else
        if pc < 832 then
         if pc = 831 then tz_aload 832 0 else dead
        else
         if pc = 832 then tz_iload 834 4 else dead
  else
   if pc < 860 then
    if pc < 846 then
     if pc < 840 then
      if pc < 836 then
       if pc < 835 then
        if pc = 834 then tz_const 835 (.int (nI 2)) else dead
       else
        if pc = 835 then tz_i2 836 (fun a b => a + b) else dead
      else
       if pc < 837 then
        if pc = 836 then tz_iaload 837 else dead
       else
        if pc < 838 then
         if pc = 837 then tz_aload 838 0 else dead
        else
         if pc = 838 then tz_iload 840 4 else dead
     else
      if pc < 842 then
       if pc < 841 then
        if pc = 840 then tz_const 841 (.int (nI 3)) else dead
       else
        if pc = 841 then tz_i2 842 (fun a b => a + b) else dead
      else
       if pc < 843 then
        if pc = 842 then tz_iaload 843 else dead
       else
        if pc < 844 then
         if pc = 843 then tz_aload 844 0 else dead
        else
         if pc = 844 then tz_iload 846 4 else dead
    else
     if pc < 852 then
      if pc < 848 then
       if pc < 847 then
        if pc = 846 then tz_const 847 (.int (nI 4)) else dead
       else
        if pc = 847 then tz_i2 848 (fun a b => a + b) else dead
      else
       if pc < 849 then
        if pc = 848 then tz_iaload 849 else dead
       else
        if pc < 850 then
         if pc = 849 then tz_aload 850 0 else dead
        else
         if pc = 850 then tz_iload 852 4 else dead
     else
      if pc < 855 then
       if pc < 853 then
        if pc = 852 then tz_const 853 (.int (nI 5)) else dead
       else
        if pc < 854 then
         if pc = 853 then tz_i2 854 (fun a b => a + b) else dead
        else
         if pc = 854 then tz_iaload 855 else dead
      else
       if pc < 856 then
        if pc = 855 then tz_aload 856 0 else dead
       else
        if pc < 858 then
         if pc = 856 then tz_iload 858 4 else dead
        else
         if pc = 858 then tz_const 860 (.int (nI 6)) else dead
   else
    if pc < 880 then
     if pc < 868 then
      if pc < 862 then
       if pc < 861 then
        if pc = 860 then tz_i2 861 (fun a b => a + b) else dead
       else
        if pc = 861 then tz_iaload 862 else dead
      else
       if pc < 865 then
        if pc = 862 then tz_callV l G 865 M_Mo_keepAlive 6 7 else dead
       else
        if pc < 867 then
         if pc = 865 then tz_istore 867 6 else dead
        else
         if pc = 867 then tz_aload 868 2 else dead
     else
      if pc < 876 then
       if pc < 871 then
        if pc = 868 then tz_pureV 871 0 7 P_Mo_thrown f_Mo_thrown else dead
       else
        if pc < 873 then
         if pc = 871 then tz_iload 873 5 else dead
        else
         if pc = 873 then tz_icmp 876 878 (fun a b => a = b) else dead
      else
       if pc < 877 then
        if pc = 876 then tz_const 877 (.int (nI 0)) else dead
       else
        if pc < 878 then
         if pc = 877 then tz_zret else dead
        else
         if pc = 878 then tz_iload 880 5 else dead
    else
     if pc < 888 then
      if pc < 884 then
       if pc < 883 then
        if pc = 880 then tz_if 883 895 (fun a => ¬ a = 0) else dead
       else
        if pc = 883 then tz_aload 884 3 else dead
      else
       if pc < 885 then
        if pc = 884 then tz_const 885 (.int (nI 0)) else dead
       else
        if pc < 886 then
         if pc = 885 then tz_laload 886 else dead
        else
         if pc = 886 then tz_iload 888 6 else dead
     else
      if pc < 893 then
       if pc < 889 then
        if pc = 888 then tz_i2l 889 else dead
       else
        if pc < 890 then
         if pc = 889 then tz_lcmp 890 else dead
        else
         if pc = 890 then tz_if 893 895 (fun a => a = 0) else dead
      else
       if pc < 894 then
        if pc = 893 then tz_const 894 (.int (nI 0)) else dead
       else
        if pc < 895 then
         if pc = 894 then tz_zret else dead
        else
         if pc = 895 then tz_goto 1585 else dead
set_option maxRecDepth 100000 in
theorem tl_13 (l : Launch) (G : Gc) : TabOK l G M_Lw_law (kl_13 l G) := by
  intro pc
  unfold kl_13
  exact
   (sd_br
    (sd_br
     (sd_br
      (sd_br
       (sd_br
        (sd_br
         (sd_lf (sd_aload_n (k := 1) (by decide +kernel : decode code 780 = .ok (.aload_n 1, 1))))
         (sd_lf (sd_aload_n (k := 0) (by decide +kernel : decode code 781 = .ok (.aload_n 0, 1)))))
        (sd_br
         (sd_lf (sd_iload (by decide +kernel : decode code 782 = .ok (.iload 4, 2))))
         (sd_br
          (sd_lf (sd_iconst (by decide +kernel : decode code 784 = .ok (.iconst 1, 1)) (by decide +kernel)))
          (sd_lf (sd_iadd (by decide +kernel : decode code 785 = .ok (.iadd, 1)))))))
       (sd_br
        (sd_br
         (sd_lf (sd_iaload (by decide +kernel : decode code 786 = .ok (.iaload, 1))))
         (sd_lf (sd_aload_n (k := 0) (by decide +kernel : decode code 787 = .ok (.aload_n 0, 1)))))
        (sd_br
         (sd_lf (sd_iload (by decide +kernel : decode code 788 = .ok (.iload 4, 2))))
         (sd_br
          (sd_lf (sd_iconst (by decide +kernel : decode code 790 = .ok (.iconst 2, 1)) (by decide +kernel)))
          (sd_lf (sd_iadd (by decide +kernel : decode code 791 = .ok (.iadd, 1))))))))
      (sd_br
       (sd_br
        (sd_br
         (sd_lf (sd_iaload (by decide +kernel : decode code 792 = .ok (.iaload, 1))))
         (sd_lf (sd_aload_n (k := 0) (by decide +kernel : decode code 793 = .ok (.aload_n 0, 1)))))
        (sd_br
         (sd_lf (sd_iload (by decide +kernel : decode code 794 = .ok (.iload 4, 2))))
         (sd_br
          (sd_lf (sd_iconst (by decide +kernel : decode code 796 = .ok (.iconst 3, 1)) (by decide +kernel)))
          (sd_lf (sd_iadd (by decide +kernel : decode code 797 = .ok (.iadd, 1)))))))
       (sd_br
        (sd_br
         (sd_lf (sd_iaload (by decide +kernel : decode code 798 = .ok (.iaload, 1))))
         (sd_br
          (sd_lf (sd_aload_n (k := 0) (by decide +kernel : decode code 799 = .ok (.aload_n 0, 1))))
          (sd_lf (sd_iload (by decide +kernel : decode code 800 = .ok (.iload 4, 2))))))
        (sd_br
         (sd_lf (sd_iconst (by decide +kernel : decode code 802 = .ok (.iconst 4, 1)) (by decide +kernel)))
         (sd_br
          (sd_lf (sd_iadd (by decide +kernel : decode code 803 = .ok (.iadd, 1))))
          (sd_lf (sd_iaload (by decide +kernel : decode code 804 = .ok (.iaload, 1)))))))))
     (sd_br
      (sd_br
       (sd_br
        (sd_br
         (sd_lf (sd_aload_n (k := 0) (by decide +kernel : decode code 805 = .ok (.aload_n 0, 1))))
         (sd_lf (sd_iload (by decide +kernel : decode code 806 = .ok (.iload 4, 2)))))
        (sd_br
         (sd_lf (sd_iconst (by decide +kernel : decode code 808 = .ok (.iconst 5, 1)) (by decide +kernel)))
         (sd_br
          (sd_lf (sd_iadd (by decide +kernel : decode code 809 = .ok (.iadd, 1))))
          (sd_lf (sd_iaload (by decide +kernel : decode code 810 = .ok (.iaload, 1)))))))
       (sd_br
        (sd_br
         (sd_lf (sd_aload_n (k := 0) (by decide +kernel : decode code 811 = .ok (.aload_n 0, 1))))
         (sd_lf (sd_iload (by decide +kernel : decode code 812 = .ok (.iload 4, 2)))))
        (sd_br
         (sd_lf (sd_bipush (by decide +kernel : decode code 814 = .ok (.bipush 6, 2)) (by decide +kernel)))
         (sd_br
          (sd_lf (sd_iadd (by decide +kernel : decode code 816 = .ok (.iadd, 1))))
          (sd_lf (sd_iaload (by decide +kernel : decode code 817 = .ok (.iaload, 1))))))))
      (sd_br
       (sd_br
        (sd_br
         (sd_lf (sd_aload_n (k := 3) (by decide +kernel : decode code 818 = .ok (.aload_n 3, 1))))
         (sd_lf (sd_callSH (by decide +kernel : decode code 819 = .ok (.invokestatic 132, 3)) ok_Lw_keepAlive (gm 776 (by decide +kernel) rfl) (gm 777 (by decide +kernel) rfl) (by decide +kernel) rfl)))
        (sd_br
         (sd_lf (sd_istore (by decide +kernel : decode code 822 = .ok (.istore 5, 2))))
         (sd_br
          (sd_lf (sd_aload_n (k := 2) (by decide +kernel : decode code 824 = .ok (.aload_n 2, 1))))
          (sd_lf (sd_aload_n (k := 0) (by decide +kernel : decode code 825 = .ok (.aload_n 0, 1)))))))
       (sd_br
        (sd_br
         (sd_lf (sd_iload (by decide +kernel : decode code 826 = .ok (.iload 4, 2))))
         (sd_br
          (sd_lf (sd_iconst (by decide +kernel : decode code 828 = .ok (.iconst 1, 1)) (by decide +kernel)))
          (sd_lf (sd_iadd (by decide +kernel : decode code 829 = .ok (.iadd, 1))))))
        (sd_br
         (sd_lf (sd_iaload (by decide +kernel : decode code 830 = .ok (.iaload, 1))))
         (sd_br
          (sd_lf (sd_aload_n (k := 0) (by decide +kernel : decode code 831 = .ok (.aload_n 0, 1))))
          (sd_lf (sd_iload (by decide +kernel : decode code 832 = .ok (.iload 4, 2))))))))))
    (sd_br
     (sd_br
      (sd_br
       (sd_br
        (sd_br
         (sd_lf (sd_iconst (by decide +kernel : decode code 834 = .ok (.iconst 2, 1)) (by decide +kernel)))
         (sd_lf (sd_iadd (by decide +kernel : decode code 835 = .ok (.iadd, 1)))))
        (sd_br
         (sd_lf (sd_iaload (by decide +kernel : decode code 836 = .ok (.iaload, 1))))
         (sd_br
          (sd_lf (sd_aload_n (k := 0) (by decide +kernel : decode code 837 = .ok (.aload_n 0, 1))))
          (sd_lf (sd_iload (by decide +kernel : decode code 838 = .ok (.iload 4, 2)))))))
       (sd_br
        (sd_br
         (sd_lf (sd_iconst (by decide +kernel : decode code 840 = .ok (.iconst 3, 1)) (by decide +kernel)))
         (sd_lf (sd_iadd (by decide +kernel : decode code 841 = .ok (.iadd, 1)))))
        (sd_br
         (sd_lf (sd_iaload (by decide +kernel : decode code 842 = .ok (.iaload, 1))))
         (sd_br
          (sd_lf (sd_aload_n (k := 0) (by decide +kernel : decode code 843 = .ok (.aload_n 0, 1))))
          (sd_lf (sd_iload (by decide +kernel : decode code 844 = .ok (.iload 4, 2))))))))
      (sd_br
       (sd_br
        (sd_br
         (sd_lf (sd_iconst (by decide +kernel : decode code 846 = .ok (.iconst 4, 1)) (by decide +kernel)))
         (sd_lf (sd_iadd (by decide +kernel : decode code 847 = .ok (.iadd, 1)))))
        (sd_br
         (sd_lf (sd_iaload (by decide +kernel : decode code 848 = .ok (.iaload, 1))))
         (sd_br
          (sd_lf (sd_aload_n (k := 0) (by decide +kernel : decode code 849 = .ok (.aload_n 0, 1))))
          (sd_lf (sd_iload (by decide +kernel : decode code 850 = .ok (.iload 4, 2)))))))
       (sd_br
        (sd_br
         (sd_lf (sd_iconst (by decide +kernel : decode code 852 = .ok (.iconst 5, 1)) (by decide +kernel)))
         (sd_br
          (sd_lf (sd_iadd (by decide +kernel : decode code 853 = .ok (.iadd, 1))))
          (sd_lf (sd_iaload (by decide +kernel : decode code 854 = .ok (.iaload, 1))))))
        (sd_br
         (sd_lf (sd_aload_n (k := 0) (by decide +kernel : decode code 855 = .ok (.aload_n 0, 1))))
         (sd_br
          (sd_lf (sd_iload (by decide +kernel : decode code 856 = .ok (.iload 4, 2))))
          (sd_lf (sd_bipush (by decide +kernel : decode code 858 = .ok (.bipush 6, 2)) (by decide +kernel))))))))
     (sd_br
      (sd_br
       (sd_br
        (sd_br
         (sd_lf (sd_iadd (by decide +kernel : decode code 860 = .ok (.iadd, 1))))
         (sd_lf (sd_iaload (by decide +kernel : decode code 861 = .ok (.iaload, 1)))))
        (sd_br
         (sd_lf (sd_callV (q := (RX7, TX7, 16)) (by decide +kernel : decode code 862 = .ok (.invokevirtual 135, 3)) ok_Mo_keepAlive (gm 1150 (by decide +kernel) rfl) (gm 1151 (by decide +kernel) rfl) (gm 1152 (by decide +kernel) rfl) rfl rfl (by decide +kernel) rfl rfl))
         (sd_br
          (sd_lf (sd_istore (by decide +kernel : decode code 865 = .ok (.istore 6, 2))))
          (sd_lf (sd_aload_n (k := 2) (by decide +kernel : decode code 867 = .ok (.aload_n 2, 1)))))))
       (sd_br
        (sd_br
         (sd_lf (sd_pureV (sd_callV (q := (RX7, TX7, 16)) (by decide +kernel : decode code 868 = .ok (.invokevirtual 90, 3)) ok_Mo_thrown (gm 962 (by decide +kernel) rfl) (gm 963 (by decide +kernel) rfl) (gm 964 (by decide +kernel) rfl) rfl rfl (by decide +kernel) rfl rfl) c_Mo_thrown))
         (sd_br
          (sd_lf (sd_iload (by decide +kernel : decode code 871 = .ok (.iload 5, 2))))
          (sd_lf (sd_icmp_eq (by decide +kernel : decode code 873 = .ok (.if_icmp .eq 5, 3)) (by decide +kernel)))))
        (sd_br
         (sd_lf (sd_iconst (by decide +kernel : decode code 876 = .ok (.iconst 0, 1)) (by decide +kernel)))
         (sd_br
          (sd_lf (sd_zret (by decide +kernel : decode code 877 = .ok (.ireturn, 1)) rfl))
          (sd_lf (sd_iload (by decide +kernel : decode code 878 = .ok (.iload 5, 2))))))))
      (sd_br
       (sd_br
        (sd_br
         (sd_lf (sd_if_ne (by decide +kernel : decode code 880 = .ok (.ifCond .ne 15, 3)) (by decide +kernel)))
         (sd_lf (sd_aload_n (k := 3) (by decide +kernel : decode code 883 = .ok (.aload_n 3, 1)))))
        (sd_br
         (sd_lf (sd_iconst (by decide +kernel : decode code 884 = .ok (.iconst 0, 1)) (by decide +kernel)))
         (sd_br
          (sd_lf (sd_laload (by decide +kernel : decode code 885 = .ok (.laload, 1))))
          (sd_lf (sd_iload (by decide +kernel : decode code 886 = .ok (.iload 6, 2)))))))
       (sd_br
        (sd_br
         (sd_lf (sd_i2l (by decide +kernel : decode code 888 = .ok (.i2l, 1))))
         (sd_br
          (sd_lf (sd_lcmp (by decide +kernel : decode code 889 = .ok (.lcmp, 1))))
          (sd_lf (sd_if_eq (by decide +kernel : decode code 890 = .ok (.ifCond .eq 5, 3)) (by decide +kernel)))))
        (sd_br
         (sd_lf (sd_iconst (by decide +kernel : decode code 893 = .ok (.iconst 0, 1)) (by decide +kernel)))
         (sd_br
          (sd_lf (sd_zret (by decide +kernel : decode code 894 = .ok (.ireturn, 1)) rfl))
          (sd_lf (sd_goto (by decide +kernel : decode code 895 = .ok (.goto 690, 3)) (by decide +kernel))))))))))
def kl_14 (l : Launch) (G : Gc) (pc : Nat) : Tr :=
  if pc < 947 then
   if pc < 920 then
    if pc < 909 then
     if pc < 903 then
      if pc < 900 then
       if pc < 899 then
        if pc = 898 then tz_aload 899 1 else dead
       else
        if pc = 899 then tz_aload 900 0 else dead
      else
       if pc < 902 then
        if pc = 900 then tz_iload 902 4 else dead
       else
        if pc = 902 then tz_const 903 (.int (nI 1)) else dead
     else
      if pc < 905 then
       if pc < 904 then
        if pc = 903 then tz_i2 904 (fun a b => a + b) else dead
       else
        if pc = 904 then tz_iaload 905 else dead
      else
       if pc < 906 then
        if pc = 905 then tz_aload 906 0 else dead
       else
        if pc < 908 then
         if pc = 906 then tz_iload 908 4 else dead
        else
         if pc = 908 then tz_const 909 (.int (nI 2)) else dead
    else
     if pc < 914 then
      if pc < 911 then
       if pc < 910 then
        if pc = 909 then tz_i2 910 (fun a b => a + b) else dead
       else
        if pc = 910 then tz_iaload 911 else dead
      else
       if pc < 912 then
        if pc = 911 then tz_aload 912 0 else dead
       else
        if pc = 912 then tz_iload 914 4 else dead
     else
      if pc < 916 then
       if pc < 915 then
        if pc = 914 then tz_const 915 (.int (nI 3)) else dead
       else
        if pc = 915 then tz_i2 916 (fun a b => a + b) else dead
      else
       if pc < 917 then
        if pc = 916 then tz_iaload 917 else dead
       else
        if pc < 918 then
         if pc = 917 then tz_aload 918 0 else dead
        else
         if pc = 918 then tz_iload 920 4 else dead
   else
    if pc < 935 then
     if pc < 926 then
      if pc < 922 then
       if pc < 921 then
        if pc = 920 then tz_const 921 (.int (nI 4)) else dead
       else
        if pc = 921 then tz_i2 922 (fun a b => a + b) else dead
      else
       if pc < 923 then
        if pc = 922 then tz_iaload 923 else dead
       else
        if pc = 923 then tz_if 926 930 (fun a => a = 0) else dead
     else
      if pc < 930 then
       if pc < 927 then
        if pc = 926 then tz_const 927 (.int (nI 1)) else dead
       else
        if pc = 927 then tz_goto 931 else dead
      else
       if pc < 931 then
        if pc = 930 then tz_const 931 (.int (nI 0)) else dead
       else
        if pc < 932 then
         if pc = 931 then tz_aload 932 3 else dead
        else
         if pc = 932 then tz_callR l G 935 M_Lw_punch 6 else dead
    else
     if pc < 941 then
      if pc < 938 then
       if pc < 937 then
        if pc = 935 then tz_istore 937 5 else dead
       else
        if pc = 937 then tz_aload 938 2 else dead
      else
       if pc < 939 then
        if pc = 938 then tz_aload 939 0 else dead
       else
        if pc = 939 then tz_iload 941 4 else dead
     else
      if pc < 943 then
       if pc < 942 then
        if pc = 941 then tz_const 942 (.int (nI 1)) else dead
       else
        if pc = 942 then tz_i2 943 (fun a b => a + b) else dead
      else
       if pc < 944 then
        if pc = 943 then tz_iaload 944 else dead
       else
        if pc < 945 then
         if pc = 944 then tz_aload 945 0 else dead
        else
         if pc = 945 then tz_iload 947 4 else dead
  else
   if pc < 973 then
    if pc < 957 then
     if pc < 951 then
      if pc < 949 then
       if pc < 948 then
        if pc = 947 then tz_const 948 (.int (nI 2)) else dead
       else
        if pc = 948 then tz_i2 949 (fun a b => a + b) else dead
      else
       if pc < 950 then
        if pc = 949 then tz_iaload 950 else dead
       else
        if pc = 950 then tz_aload 951 0 else dead
     else
      if pc < 954 then
       if pc < 953 then
        if pc = 951 then tz_iload 953 4 else dead
       else
        if pc = 953 then tz_const 954 (.int (nI 3)) else dead
      else
       if pc < 955 then
        if pc = 954 then tz_i2 955 (fun a b => a + b) else dead
       else
        if pc < 956 then
         if pc = 955 then tz_iaload 956 else dead
        else
         if pc = 956 then tz_aload 957 0 else dead
    else
     if pc < 962 then
      if pc < 960 then
       if pc < 959 then
        if pc = 957 then tz_iload 959 4 else dead
       else
        if pc = 959 then tz_const 960 (.int (nI 4)) else dead
      else
       if pc < 961 then
        if pc = 960 then tz_i2 961 (fun a b => a + b) else dead
       else
        if pc = 961 then tz_iaload 962 else dead
     else
      if pc < 966 then
       if pc < 965 then
        if pc = 962 then tz_if 965 969 (fun a => a = 0) else dead
       else
        if pc = 965 then tz_const 966 (.int (nI 1)) else dead
      else
       if pc < 969 then
        if pc = 966 then tz_goto 970 else dead
       else
        if pc < 970 then
         if pc = 969 then tz_const 970 (.int (nI 0)) else dead
        else
         if pc = 970 then tz_callV l G 973 M_Mo_punch 4 7 else dead
   else
    if pc < 991 then
     if pc < 981 then
      if pc < 976 then
       if pc < 975 then
        if pc = 973 then tz_istore 975 6 else dead
       else
        if pc = 975 then tz_aload 976 2 else dead
      else
       if pc < 979 then
        if pc = 976 then tz_pureV 979 0 7 P_Mo_thrown f_Mo_thrown else dead
       else
        if pc = 979 then tz_iload 981 5 else dead
     else
      if pc < 985 then
       if pc < 984 then
        if pc = 981 then tz_icmp 984 986 (fun a b => a = b) else dead
       else
        if pc = 984 then tz_const 985 (.int (nI 0)) else dead
      else
       if pc < 986 then
        if pc = 985 then tz_zret else dead
       else
        if pc < 988 then
         if pc = 986 then tz_iload 988 5 else dead
        else
         if pc = 988 then tz_if 991 1003 (fun a => ¬ a = 0) else dead
    else
     if pc < 997 then
      if pc < 993 then
       if pc < 992 then
        if pc = 991 then tz_aload 992 3 else dead
       else
        if pc = 992 then tz_const 993 (.int (nI 0)) else dead
      else
       if pc < 994 then
        if pc = 993 then tz_laload 994 else dead
       else
        if pc < 996 then
         if pc = 994 then tz_iload 996 6 else dead
        else
         if pc = 996 then tz_i2l 997 else dead
     else
      if pc < 1001 then
       if pc < 998 then
        if pc = 997 then tz_lcmp 998 else dead
       else
        if pc = 998 then tz_if 1001 1003 (fun a => a = 0) else dead
      else
       if pc < 1002 then
        if pc = 1001 then tz_const 1002 (.int (nI 0)) else dead
       else
        if pc < 1003 then
         if pc = 1002 then tz_zret else dead
        else
         if pc = 1003 then tz_goto 1585 else dead
set_option maxRecDepth 100000 in
theorem tl_14 (l : Launch) (G : Gc) : TabOK l G M_Lw_law (kl_14 l G) := by
  intro pc
  unfold kl_14
  exact
   (sd_br
    (sd_br
     (sd_br
      (sd_br
       (sd_br
        (sd_br
         (sd_lf (sd_aload_n (k := 1) (by decide +kernel : decode code 898 = .ok (.aload_n 1, 1))))
         (sd_lf (sd_aload_n (k := 0) (by decide +kernel : decode code 899 = .ok (.aload_n 0, 1)))))
        (sd_br
         (sd_lf (sd_iload (by decide +kernel : decode code 900 = .ok (.iload 4, 2))))
         (sd_lf (sd_iconst (by decide +kernel : decode code 902 = .ok (.iconst 1, 1)) (by decide +kernel)))))
       (sd_br
        (sd_br
         (sd_lf (sd_iadd (by decide +kernel : decode code 903 = .ok (.iadd, 1))))
         (sd_lf (sd_iaload (by decide +kernel : decode code 904 = .ok (.iaload, 1)))))
        (sd_br
         (sd_lf (sd_aload_n (k := 0) (by decide +kernel : decode code 905 = .ok (.aload_n 0, 1))))
         (sd_br
          (sd_lf (sd_iload (by decide +kernel : decode code 906 = .ok (.iload 4, 2))))
          (sd_lf (sd_iconst (by decide +kernel : decode code 908 = .ok (.iconst 2, 1)) (by decide +kernel)))))))
      (sd_br
       (sd_br
        (sd_br
         (sd_lf (sd_iadd (by decide +kernel : decode code 909 = .ok (.iadd, 1))))
         (sd_lf (sd_iaload (by decide +kernel : decode code 910 = .ok (.iaload, 1)))))
        (sd_br
         (sd_lf (sd_aload_n (k := 0) (by decide +kernel : decode code 911 = .ok (.aload_n 0, 1))))
         (sd_lf (sd_iload (by decide +kernel : decode code 912 = .ok (.iload 4, 2))))))
       (sd_br
        (sd_br
         (sd_lf (sd_iconst (by decide +kernel : decode code 914 = .ok (.iconst 3, 1)) (by decide +kernel)))
         (sd_lf (sd_iadd (by decide +kernel : decode code 915 = .ok (.iadd, 1)))))
        (sd_br
         (sd_lf (sd_iaload (by decide +kernel : decode code 916 = .ok (.iaload, 1))))
         (sd_br
          (sd_lf (sd_aload_n (k := 0) (by decide +kernel : decode code 917 = .ok (.aload_n 0, 1))))
          (sd_lf (sd_iload (by decide +kernel : decode code 918 = .ok (.iload 4, 2)))))))))
     (sd_br
      (sd_br
       (sd_br
        (sd_br
         (sd_lf (sd_iconst (by decide +kernel : decode code 920 = .ok (.iconst 4, 1)) (by decide +kernel)))
         (sd_lf (sd_iadd (by decide +kernel : decode code 921 = .ok (.iadd, 1)))))
        (sd_br
         (sd_lf (sd_iaload (by decide +kernel : decode code 922 = .ok (.iaload, 1))))
         (sd_lf (sd_if_eq (by decide +kernel : decode code 923 = .ok (.ifCond .eq 7, 3)) (by decide +kernel)))))
       (sd_br
        (sd_br
         (sd_lf (sd_iconst (by decide +kernel : decode code 926 = .ok (.iconst 1, 1)) (by decide +kernel)))
         (sd_lf (sd_goto (by decide +kernel : decode code 927 = .ok (.goto 4, 3)) (by decide +kernel))))
        (sd_br
         (sd_lf (sd_iconst (by decide +kernel : decode code 930 = .ok (.iconst 0, 1)) (by decide +kernel)))
         (sd_br
          (sd_lf (sd_aload_n (k := 3) (by decide +kernel : decode code 931 = .ok (.aload_n 3, 1))))
          (sd_lf (sd_callSH (by decide +kernel : decode code 932 = .ok (.invokestatic 136, 3)) ok_Lw_punch (gm 784 (by decide +kernel) rfl) (gm 785 (by decide +kernel) rfl) (by decide +kernel) rfl))))))
      (sd_br
       (sd_br
        (sd_br
         (sd_lf (sd_istore (by decide +kernel : decode code 935 = .ok (.istore 5, 2))))
         (sd_lf (sd_aload_n (k := 2) (by decide +kernel : decode code 937 = .ok (.aload_n 2, 1)))))
        (sd_br
         (sd_lf (sd_aload_n (k := 0) (by decide +kernel : decode code 938 = .ok (.aload_n 0, 1))))
         (sd_lf (sd_iload (by decide +kernel : decode code 939 = .ok (.iload 4, 2))))))
       (sd_br
        (sd_br
         (sd_lf (sd_iconst (by decide +kernel : decode code 941 = .ok (.iconst 1, 1)) (by decide +kernel)))
         (sd_lf (sd_iadd (by decide +kernel : decode code 942 = .ok (.iadd, 1)))))
        (sd_br
         (sd_lf (sd_iaload (by decide +kernel : decode code 943 = .ok (.iaload, 1))))
         (sd_br
          (sd_lf (sd_aload_n (k := 0) (by decide +kernel : decode code 944 = .ok (.aload_n 0, 1))))
          (sd_lf (sd_iload (by decide +kernel : decode code 945 = .ok (.iload 4, 2))))))))))
    (sd_br
     (sd_br
      (sd_br
       (sd_br
        (sd_br
         (sd_lf (sd_iconst (by decide +kernel : decode code 947 = .ok (.iconst 2, 1)) (by decide +kernel)))
         (sd_lf (sd_iadd (by decide +kernel : decode code 948 = .ok (.iadd, 1)))))
        (sd_br
         (sd_lf (sd_iaload (by decide +kernel : decode code 949 = .ok (.iaload, 1))))
         (sd_lf (sd_aload_n (k := 0) (by decide +kernel : decode code 950 = .ok (.aload_n 0, 1))))))
       (sd_br
        (sd_br
         (sd_lf (sd_iload (by decide +kernel : decode code 951 = .ok (.iload 4, 2))))
         (sd_lf (sd_iconst (by decide +kernel : decode code 953 = .ok (.iconst 3, 1)) (by decide +kernel))))
        (sd_br
         (sd_lf (sd_iadd (by decide +kernel : decode code 954 = .ok (.iadd, 1))))
         (sd_br
          (sd_lf (sd_iaload (by decide +kernel : decode code 955 = .ok (.iaload, 1))))
          (sd_lf (sd_aload_n (k := 0) (by decide +kernel : decode code 956 = .ok (.aload_n 0, 1))))))))
      (sd_br
       (sd_br
        (sd_br
         (sd_lf (sd_iload (by decide +kernel : decode code 957 = .ok (.iload 4, 2))))
         (sd_lf (sd_iconst (by decide +kernel : decode code 959 = .ok (.iconst 4, 1)) (by decide +kernel))))
        (sd_br
         (sd_lf (sd_iadd (by decide +kernel : decode code 960 = .ok (.iadd, 1))))
         (sd_lf (sd_iaload (by decide +kernel : decode code 961 = .ok (.iaload, 1))))))
       (sd_br
        (sd_br
         (sd_lf (sd_if_eq (by decide +kernel : decode code 962 = .ok (.ifCond .eq 7, 3)) (by decide +kernel)))
         (sd_lf (sd_iconst (by decide +kernel : decode code 965 = .ok (.iconst 1, 1)) (by decide +kernel))))
        (sd_br
         (sd_lf (sd_goto (by decide +kernel : decode code 966 = .ok (.goto 4, 3)) (by decide +kernel)))
         (sd_br
          (sd_lf (sd_iconst (by decide +kernel : decode code 969 = .ok (.iconst 0, 1)) (by decide +kernel)))
          (sd_lf (sd_callV (q := (RX7, TX7, 16)) (by decide +kernel : decode code 970 = .ok (.invokevirtual 139, 3)) ok_Mo_punch (gm 1154 (by decide +kernel) rfl) (gm 1155 (by decide +kernel) rfl) (gm 1156 (by decide +kernel) rfl) rfl rfl (by decide +kernel) rfl rfl)))))))
     (sd_br
      (sd_br
       (sd_br
        (sd_br
         (sd_lf (sd_istore (by decide +kernel : decode code 973 = .ok (.istore 6, 2))))
         (sd_lf (sd_aload_n (k := 2) (by decide +kernel : decode code 975 = .ok (.aload_n 2, 1)))))
        (sd_br
         (sd_lf (sd_pureV (sd_callV (q := (RX7, TX7, 16)) (by decide +kernel : decode code 976 = .ok (.invokevirtual 90, 3)) ok_Mo_thrown (gm 962 (by decide +kernel) rfl) (gm 963 (by decide +kernel) rfl) (gm 964 (by decide +kernel) rfl) rfl rfl (by decide +kernel) rfl rfl) c_Mo_thrown))
         (sd_lf (sd_iload (by decide +kernel : decode code 979 = .ok (.iload 5, 2))))))
       (sd_br
        (sd_br
         (sd_lf (sd_icmp_eq (by decide +kernel : decode code 981 = .ok (.if_icmp .eq 5, 3)) (by decide +kernel)))
         (sd_lf (sd_iconst (by decide +kernel : decode code 984 = .ok (.iconst 0, 1)) (by decide +kernel))))
        (sd_br
         (sd_lf (sd_zret (by decide +kernel : decode code 985 = .ok (.ireturn, 1)) rfl))
         (sd_br
          (sd_lf (sd_iload (by decide +kernel : decode code 986 = .ok (.iload 5, 2))))
          (sd_lf (sd_if_ne (by decide +kernel : decode code 988 = .ok (.ifCond .ne 15, 3)) (by decide +kernel)))))))
      (sd_br
       (sd_br
        (sd_br
         (sd_lf (sd_aload_n (k := 3) (by decide +kernel : decode code 991 = .ok (.aload_n 3, 1))))
         (sd_lf (sd_iconst (by decide +kernel : decode code 992 = .ok (.iconst 0, 1)) (by decide +kernel))))
        (sd_br
         (sd_lf (sd_laload (by decide +kernel : decode code 993 = .ok (.laload, 1))))
         (sd_br
          (sd_lf (sd_iload (by decide +kernel : decode code 994 = .ok (.iload 6, 2))))
          (sd_lf (sd_i2l (by decide +kernel : decode code 996 = .ok (.i2l, 1)))))))
       (sd_br
        (sd_br
         (sd_lf (sd_lcmp (by decide +kernel : decode code 997 = .ok (.lcmp, 1))))
         (sd_lf (sd_if_eq (by decide +kernel : decode code 998 = .ok (.ifCond .eq 5, 3)) (by decide +kernel))))
        (sd_br
         (sd_lf (sd_iconst (by decide +kernel : decode code 1001 = .ok (.iconst 0, 1)) (by decide +kernel)))
         (sd_br
          (sd_lf (sd_zret (by decide +kernel : decode code 1002 = .ok (.ireturn, 1)) rfl))
          (sd_lf (sd_goto (by decide +kernel : decode code 1003 = .ok (.goto 582, 3)) (by decide +kernel))))))))))
def kl_15 (l : Launch) (G : Gc) (pc : Nat) : Tr :=
  if pc < 1047 then
   if pc < 1025 then
    if pc < 1016 then
     if pc < 1011 then
      if pc < 1008 then
       if pc < 1007 then
        if pc = 1006 then tz_aload 1007 1 else dead
       else
        if pc = 1007 then tz_aload 1008 0 else dead
      else
       if pc < 1010 then
        if pc = 1008 then tz_iload 1010 4 else dead
       else
        if pc = 1010 then tz_const 1011 (.int (nI 1)) else dead
     else
      if pc < 1013 then
       if pc < 1012 then
        if pc = 1011 then tz_i2 1012 (fun a b => a + b) else dead
       else
        if pc = 1012 then tz_iaload 1013 else dead
      else
       if pc < 1014 then
        if pc = 1013 then tz_aload 1014 0 else dead
       else
        if pc = 1014 then tz_iload 1016 4 else dead
    else
     if pc < 1020 then
      if pc < 1018 then
       if pc < 1017 then
        if pc = 1016 then tz_const 1017 (.int (nI 2)) else dead
       else
        if pc = 1017 then tz_i2 1018 (fun a b => a + b) else dead
      else
       if pc < 1019 then
        if pc = 1018 then tz_iaload 1019 else dead
       else
        if pc = 1019 then tz_aload 1020 0 else dead
     else
      if pc < 1023 then
       if pc < 1022 then
        if pc = 1020 then tz_iload 1022 4 else dead
       else
        if pc = 1022 then tz_const 1023 (.int (nI 3)) else dead
      else
       if pc < 1024 then
        if pc = 1023 then tz_i2 1024 (fun a b => a + b) else dead
       else
        if pc = 1024 then tz_iaload 1025 else dead
   else
    if pc < 1037 then
     if pc < 1030 then
      if pc < 1028 then
       if pc < 1026 then
        if pc = 1025 then tz_aload 1026 0 else dead
       else
        if pc = 1026 then tz_iload 1028 4 else dead
      else
       if pc < 1029 then
        if pc = 1028 then tz_const 1029 (.int (nI 4)) else dead
       else
        if pc = 1029 then tz_i2 1030 (fun a b => a + b) else dead
     else
      if pc < 1032 then
       if pc < 1031 then
        if pc = 1030 then tz_iaload 1031 else dead
       else
        if pc = 1031 then tz_aload 1032 3 else dead
      else
       if pc < 1035 then
        if pc = 1032 then tz_callR l G 1035 M_Lw_ifSent 6 else dead
       else
        if pc = 1035 then tz_istore 1037 5 else dead
    else
     if pc < 1042 then
      if pc < 1039 then
       if pc < 1038 then
        if pc = 1037 then tz_aload 1038 2 else dead
       else
        if pc = 1038 then tz_aload 1039 0 else dead
      else
       if pc < 1041 then
        if pc = 1039 then tz_iload 1041 4 else dead
       else
        if pc = 1041 then tz_const 1042 (.int (nI 1)) else dead
     else
      if pc < 1044 then
       if pc < 1043 then
        if pc = 1042 then tz_i2 1043 (fun a b => a + b) else dead
       else
        if pc = 1043 then tz_iaload 1044 else dead
      else
       if pc < 1045 then
        if pc = 1044 then tz_aload 1045 0 else dead
       else
        if pc = 1045 then tz_iload 1047 4 else dead
  else
   if pc < 1068 then
    if pc < 1056 then
     if pc < 1051 then
      if pc < 1049 then
       if pc < 1048 then
        if pc = 1047 then tz_const 1048 (.int (nI 2)) else dead
       else
        if pc = 1048 then tz_i2 1049 (fun a b => a + b) else dead
      else
       if pc < 1050 then
        if pc = 1049 then tz_iaload 1050 else dead
       else
        if pc = 1050 then tz_aload 1051 0 else dead
     else
      if pc < 1054 then
       if pc < 1053 then
        if pc = 1051 then tz_iload 1053 4 else dead
       else
        if pc = 1053 then tz_const 1054 (.int (nI 3)) else dead
      else
       if pc < 1055 then
        if pc = 1054 then tz_i2 1055 (fun a b => a + b) else dead
       else
        if pc = 1055 then tz_iaload 1056 else dead
    else
     if pc < 1061 then
      if pc < 1059 then
       if pc < 1057 then
        if pc = 1056 then tz_aload 1057 0 else dead
       else
        if pc = 1057 then tz_iload 1059 4 else dead
      else
       if pc < 1060 then
        if pc = 1059 then tz_const 1060 (.int (nI 4)) else dead
       else
        if pc = 1060 then tz_i2 1061 (fun a b => a + b) else dead
     else
      if pc < 1065 then
       if pc < 1062 then
        if pc = 1061 then tz_iaload 1062 else dead
       else
        if pc = 1062 then tz_callV l G 1065 M_Mo_ifSent 4 7 else dead
      else
       if pc < 1067 then
        if pc = 1065 then tz_istore 1067 6 else dead
       else
        if pc = 1067 then tz_aload 1068 2 else dead
   else
    if pc < 1084 then
     if pc < 1077 then
      if pc < 1073 then
       if pc < 1071 then
        if pc = 1068 then tz_pureV 1071 0 7 P_Mo_thrown f_Mo_thrown else dead
       else
        if pc = 1071 then tz_iload 1073 5 else dead
      else
       if pc < 1076 then
        if pc = 1073 then tz_icmp 1076 1078 (fun a b => a = b) else dead
       else
        if pc = 1076 then tz_const 1077 (.int (nI 0)) else dead
     else
      if pc < 1080 then
       if pc < 1078 then
        if pc = 1077 then tz_zret else dead
       else
        if pc = 1078 then tz_iload 1080 5 else dead
      else
       if pc < 1083 then
        if pc = 1080 then tz_if 1083 1095 (fun a => ¬ a = 0) else dead
       else
        if pc = 1083 then tz_aload 1084 3 else dead
    else
     if pc < 1089 then
      if pc < 1086 then
       if pc < 1085 then
        if pc = 1084 then tz_const 1085 (.int (nI 0)) else dead
       else
        if pc = 1085 then tz_laload 1086 else dead
      else
       if pc < 1088 then
        if pc = 1086 then tz_iload 1088 6 else dead
       else
        if pc = 1088 then tz_i2l 1089 else dead
     else
      if pc < 1093 then
       if pc < 1090 then
        if pc = 1089 then tz_lcmp 1090 else dead
       else
        if pc = 1090 then tz_if 1093 1095 (fun a => a = 0) else dead
      else
       if pc < 1094 then
        if pc = 1093 then tz_const 1094 (.int (nI 0)) else dead
       else
        if pc < 1095 then
         if pc = 1094 then tz_zret else dead
        else
         if pc = 1095 then tz_goto 1585 else dead
set_option maxRecDepth 100000 in
theorem tl_15 (l : Launch) (G : Gc) : TabOK l G M_Lw_law (kl_15 l G) := by
  intro pc
  unfold kl_15
  exact
   (sd_br
    (sd_br
     (sd_br
      (sd_br
       (sd_br
        (sd_br
         (sd_lf (sd_aload_n (k := 1) (by decide +kernel : decode code 1006 = .ok (.aload_n 1, 1))))
         (sd_lf (sd_aload_n (k := 0) (by decide +kernel : decode code 1007 = .ok (.aload_n 0, 1)))))
        (sd_br
         (sd_lf (sd_iload (by decide +kernel : decode code 1008 = .ok (.iload 4, 2))))
         (sd_lf (sd_iconst (by decide +kernel : decode code 1010 = .ok (.iconst 1, 1)) (by decide +kernel)))))
       (sd_br
        (sd_br
         (sd_lf (sd_iadd (by decide +kernel : decode code 1011 = .ok (.iadd, 1))))
         (sd_lf (sd_iaload (by decide +kernel : decode code 1012 = .ok (.iaload, 1)))))
        (sd_br
         (sd_lf (sd_aload_n (k := 0) (by decide +kernel : decode code 1013 = .ok (.aload_n 0, 1))))
         (sd_lf (sd_iload (by decide +kernel : decode code 1014 = .ok (.iload 4, 2)))))))
      (sd_br
       (sd_br
        (sd_br
         (sd_lf (sd_iconst (by decide +kernel : decode code 1016 = .ok (.iconst 2, 1)) (by decide +kernel)))
         (sd_lf (sd_iadd (by decide +kernel : decode code 1017 = .ok (.iadd, 1)))))
        (sd_br
         (sd_lf (sd_iaload (by decide +kernel : decode code 1018 = .ok (.iaload, 1))))
         (sd_lf (sd_aload_n (k := 0) (by decide +kernel : decode code 1019 = .ok (.aload_n 0, 1))))))
       (sd_br
        (sd_br
         (sd_lf (sd_iload (by decide +kernel : decode code 1020 = .ok (.iload 4, 2))))
         (sd_lf (sd_iconst (by decide +kernel : decode code 1022 = .ok (.iconst 3, 1)) (by decide +kernel))))
        (sd_br
         (sd_lf (sd_iadd (by decide +kernel : decode code 1023 = .ok (.iadd, 1))))
         (sd_lf (sd_iaload (by decide +kernel : decode code 1024 = .ok (.iaload, 1))))))))
     (sd_br
      (sd_br
       (sd_br
        (sd_br
         (sd_lf (sd_aload_n (k := 0) (by decide +kernel : decode code 1025 = .ok (.aload_n 0, 1))))
         (sd_lf (sd_iload (by decide +kernel : decode code 1026 = .ok (.iload 4, 2)))))
        (sd_br
         (sd_lf (sd_iconst (by decide +kernel : decode code 1028 = .ok (.iconst 4, 1)) (by decide +kernel)))
         (sd_lf (sd_iadd (by decide +kernel : decode code 1029 = .ok (.iadd, 1))))))
       (sd_br
        (sd_br
         (sd_lf (sd_iaload (by decide +kernel : decode code 1030 = .ok (.iaload, 1))))
         (sd_lf (sd_aload_n (k := 3) (by decide +kernel : decode code 1031 = .ok (.aload_n 3, 1)))))
        (sd_br
         (sd_lf (sd_callSH (by decide +kernel : decode code 1032 = .ok (.invokestatic 140, 3)) ok_Lw_ifSent (gm 840 (by decide +kernel) rfl) (gm 841 (by decide +kernel) rfl) (by decide +kernel) rfl))
         (sd_lf (sd_istore (by decide +kernel : decode code 1035 = .ok (.istore 5, 2)))))))
      (sd_br
       (sd_br
        (sd_br
         (sd_lf (sd_aload_n (k := 2) (by decide +kernel : decode code 1037 = .ok (.aload_n 2, 1))))
         (sd_lf (sd_aload_n (k := 0) (by decide +kernel : decode code 1038 = .ok (.aload_n 0, 1)))))
        (sd_br
         (sd_lf (sd_iload (by decide +kernel : decode code 1039 = .ok (.iload 4, 2))))
         (sd_lf (sd_iconst (by decide +kernel : decode code 1041 = .ok (.iconst 1, 1)) (by decide +kernel)))))
       (sd_br
        (sd_br
         (sd_lf (sd_iadd (by decide +kernel : decode code 1042 = .ok (.iadd, 1))))
         (sd_lf (sd_iaload (by decide +kernel : decode code 1043 = .ok (.iaload, 1)))))
        (sd_br
         (sd_lf (sd_aload_n (k := 0) (by decide +kernel : decode code 1044 = .ok (.aload_n 0, 1))))
         (sd_lf (sd_iload (by decide +kernel : decode code 1045 = .ok (.iload 4, 2)))))))))
    (sd_br
     (sd_br
      (sd_br
       (sd_br
        (sd_br
         (sd_lf (sd_iconst (by decide +kernel : decode code 1047 = .ok (.iconst 2, 1)) (by decide +kernel)))
         (sd_lf (sd_iadd (by decide +kernel : decode code 1048 = .ok (.iadd, 1)))))
        (sd_br
         (sd_lf (sd_iaload (by decide +kernel : decode code 1049 = .ok (.iaload, 1))))
         (sd_lf (sd_aload_n (k := 0) (by decide +kernel : decode code 1050 = .ok (.aload_n 0, 1))))))
       (sd_br
        (sd_br
         (sd_lf (sd_iload (by decide +kernel : decode code 1051 = .ok (.iload 4, 2))))
         (sd_lf (sd_iconst (by decide +kernel : decode code 1053 = .ok (.iconst 3, 1)) (by decide +kernel))))
        (sd_br
         (sd_lf (sd_iadd (by decide +kernel : decode code 1054 = .ok (.iadd, 1))))
         (sd_lf (sd_iaload (by decide +kernel : decode code 1055 = .ok (.iaload, 1)))))))
      (sd_br
       (sd_br
        (sd_br
         (sd_lf (sd_aload_n (k := 0) (by decide +kernel : decode code 1056 = .ok (.aload_n 0, 1))))
         (sd_lf (sd_iload (by decide +kernel : decode code 1057 = .ok (.iload 4, 2)))))
        (sd_br
         (sd_lf (sd_iconst (by decide +kernel : decode code 1059 = .ok (.iconst 4, 1)) (by decide +kernel)))
         (sd_lf (sd_iadd (by decide +kernel : decode code 1060 = .ok (.iadd, 1))))))
       (sd_br
        (sd_br
         (sd_lf (sd_iaload (by decide +kernel : decode code 1061 = .ok (.iaload, 1))))
         (sd_lf (sd_callV (q := (RX7, TX7, 16)) (by decide +kernel : decode code 1062 = .ok (.invokevirtual 142, 3)) ok_Mo_ifSent (gm 1171 (by decide +kernel) rfl) (gm 1172 (by decide +kernel) rfl) (gm 1173 (by decide +kernel) rfl) rfl rfl (by decide +kernel) rfl rfl)))
        (sd_br
         (sd_lf (sd_istore (by decide +kernel : decode code 1065 = .ok (.istore 6, 2))))
         (sd_lf (sd_aload_n (k := 2) (by decide +kernel : decode code 1067 = .ok (.aload_n 2, 1))))))))
     (sd_br
      (sd_br
       (sd_br
        (sd_br
         (sd_lf (sd_pureV (sd_callV (q := (RX7, TX7, 16)) (by decide +kernel : decode code 1068 = .ok (.invokevirtual 90, 3)) ok_Mo_thrown (gm 962 (by decide +kernel) rfl) (gm 963 (by decide +kernel) rfl) (gm 964 (by decide +kernel) rfl) rfl rfl (by decide +kernel) rfl rfl) c_Mo_thrown))
         (sd_lf (sd_iload (by decide +kernel : decode code 1071 = .ok (.iload 5, 2)))))
        (sd_br
         (sd_lf (sd_icmp_eq (by decide +kernel : decode code 1073 = .ok (.if_icmp .eq 5, 3)) (by decide +kernel)))
         (sd_lf (sd_iconst (by decide +kernel : decode code 1076 = .ok (.iconst 0, 1)) (by decide +kernel)))))
       (sd_br
        (sd_br
         (sd_lf (sd_zret (by decide +kernel : decode code 1077 = .ok (.ireturn, 1)) rfl))
         (sd_lf (sd_iload (by decide +kernel : decode code 1078 = .ok (.iload 5, 2)))))
        (sd_br
         (sd_lf (sd_if_ne (by decide +kernel : decode code 1080 = .ok (.ifCond .ne 15, 3)) (by decide +kernel)))
         (sd_lf (sd_aload_n (k := 3) (by decide +kernel : decode code 1083 = .ok (.aload_n 3, 1)))))))
      (sd_br
       (sd_br
        (sd_br
         (sd_lf (sd_iconst (by decide +kernel : decode code 1084 = .ok (.iconst 0, 1)) (by decide +kernel)))
         (sd_lf (sd_laload (by decide +kernel : decode code 1085 = .ok (.laload, 1)))))
        (sd_br
         (sd_lf (sd_iload (by decide +kernel : decode code 1086 = .ok (.iload 6, 2))))
         (sd_lf (sd_i2l (by decide +kernel : decode code 1088 = .ok (.i2l, 1))))))
       (sd_br
        (sd_br
         (sd_lf (sd_lcmp (by decide +kernel : decode code 1089 = .ok (.lcmp, 1))))
         (sd_lf (sd_if_eq (by decide +kernel : decode code 1090 = .ok (.ifCond .eq 5, 3)) (by decide +kernel))))
        (sd_br
         (sd_lf (sd_iconst (by decide +kernel : decode code 1093 = .ok (.iconst 0, 1)) (by decide +kernel)))
         (sd_br
          (sd_lf (sd_zret (by decide +kernel : decode code 1094 = .ok (.ireturn, 1)) rfl))
          (sd_lf (sd_goto (by decide +kernel : decode code 1095 = .ok (.goto 490, 3)) (by decide +kernel))))))))))
def kl_16 (l : Launch) (G : Gc) (pc : Nat) : Tr :=
  if pc < 1123 then
   if pc < 1109 then
    if pc < 1103 then
     if pc < 1100 then
      if pc < 1099 then
       if pc = 1098 then tz_aload 1099 1 else dead
      else
       if pc = 1099 then tz_aload 1100 0 else dead
     else
      if pc < 1102 then
       if pc = 1100 then tz_iload 1102 4 else dead
      else
       if pc = 1102 then tz_const 1103 (.int (nI 1)) else dead
    else
     if pc < 1105 then
      if pc < 1104 then
       if pc = 1103 then tz_i2 1104 (fun a b => a + b) else dead
      else
       if pc = 1104 then tz_iaload 1105 else dead
     else
      if pc < 1106 then
       if pc = 1105 then tz_aload 1106 3 else dead
      else
       if pc = 1106 then tz_callR l G 1109 M_Lw_count 3 else dead
   else
    if pc < 1115 then
     if pc < 1112 then
      if pc < 1111 then
       if pc = 1109 then tz_istore 1111 5 else dead
      else
       if pc = 1111 then tz_aload 1112 2 else dead
     else
      if pc < 1113 then
       if pc = 1112 then tz_aload 1113 0 else dead
      else
       if pc = 1113 then tz_iload 1115 4 else dead
    else
     if pc < 1117 then
      if pc < 1116 then
       if pc = 1115 then tz_const 1116 (.int (nI 1)) else dead
      else
       if pc = 1116 then tz_i2 1117 (fun a b => a + b) else dead
     else
      if pc < 1118 then
       if pc = 1117 then tz_iaload 1118 else dead
      else
       if pc < 1121 then
        if pc = 1118 then tz_callV l G 1121 M_Mo_count 1 7 else dead
       else
        if pc = 1121 then tz_istore 1123 6 else dead
  else
   if pc < 1140 then
    if pc < 1132 then
     if pc < 1127 then
      if pc < 1124 then
       if pc = 1123 then tz_aload 1124 2 else dead
      else
       if pc = 1124 then tz_pureV 1127 0 7 P_Mo_thrown f_Mo_thrown else dead
     else
      if pc < 1129 then
       if pc = 1127 then tz_iload 1129 5 else dead
      else
       if pc = 1129 then tz_icmp 1132 1134 (fun a b => a = b) else dead
    else
     if pc < 1134 then
      if pc < 1133 then
       if pc = 1132 then tz_const 1133 (.int (nI 0)) else dead
      else
       if pc = 1133 then tz_zret else dead
     else
      if pc < 1136 then
       if pc = 1134 then tz_iload 1136 5 else dead
      else
       if pc < 1139 then
        if pc = 1136 then tz_if 1139 1151 (fun a => ¬ a = 0) else dead
       else
        if pc = 1139 then tz_aload 1140 3 else dead
   else
    if pc < 1145 then
     if pc < 1142 then
      if pc < 1141 then
       if pc = 1140 then tz_const 1141 (.int (nI 0)) else dead
      else
       if pc = 1141 then tz_laload 1142 else dead
     else
      if pc < 1144 then
       if pc = 1142 then tz_iload 1144 6 else dead
      else
       if pc = 1144 then tz_i2l 1145 else dead
    else
     if pc < 1149 then
      if pc < 1146 then
       if pc = 1145 then tz_lcmp 1146 else dead
      else
       if pc = 1146 then tz_if 1149 1151 (fun a => a = 0) else dead
     else
      if pc < 1150 then
       if pc = 1149 then tz_const 1150 (.int (nI 0)) else dead
      else
       if pc < 1151 then
        if pc = 1150 then tz_zret else dead
       else
        if pc = 1151 then tz_goto 1585 else dead
set_option maxRecDepth 100000 in
theorem tl_16 (l : Launch) (G : Gc) : TabOK l G M_Lw_law (kl_16 l G) := by
  intro pc
  unfold kl_16
  exact
   (sd_br
    (sd_br
     (sd_br
      (sd_br
       (sd_br
        (sd_lf (sd_aload_n (k := 1) (by decide +kernel : decode code 1098 = .ok (.aload_n 1, 1))))
        (sd_lf (sd_aload_n (k := 0) (by decide +kernel : decode code 1099 = .ok (.aload_n 0, 1)))))
       (sd_br
        (sd_lf (sd_iload (by decide +kernel : decode code 1100 = .ok (.iload 4, 2))))
        (sd_lf (sd_iconst (by decide +kernel : decode code 1102 = .ok (.iconst 1, 1)) (by decide +kernel)))))
      (sd_br
       (sd_br
        (sd_lf (sd_iadd (by decide +kernel : decode code 1103 = .ok (.iadd, 1))))
        (sd_lf (sd_iaload (by decide +kernel : decode code 1104 = .ok (.iaload, 1)))))
       (sd_br
        (sd_lf (sd_aload_n (k := 3) (by decide +kernel : decode code 1105 = .ok (.aload_n 3, 1))))
        (sd_lf (sd_callSH (by decide +kernel : decode code 1106 = .ok (.invokestatic 143, 3)) ok_Lw_count (gm 847 (by decide +kernel) rfl) (gm 848 (by decide +kernel) rfl) (by decide +kernel) rfl)))))
     (sd_br
      (sd_br
       (sd_br
        (sd_lf (sd_istore (by decide +kernel : decode code 1109 = .ok (.istore 5, 2))))
        (sd_lf (sd_aload_n (k := 2) (by decide +kernel : decode code 1111 = .ok (.aload_n 2, 1)))))
       (sd_br
        (sd_lf (sd_aload_n (k := 0) (by decide +kernel : decode code 1112 = .ok (.aload_n 0, 1))))
        (sd_lf (sd_iload (by decide +kernel : decode code 1113 = .ok (.iload 4, 2))))))
      (sd_br
       (sd_br
        (sd_lf (sd_iconst (by decide +kernel : decode code 1115 = .ok (.iconst 1, 1)) (by decide +kernel)))
        (sd_lf (sd_iadd (by decide +kernel : decode code 1116 = .ok (.iadd, 1)))))
       (sd_br
        (sd_lf (sd_iaload (by decide +kernel : decode code 1117 = .ok (.iaload, 1))))
        (sd_br
         (sd_lf (sd_callV (q := (RX7, TX7, 16)) (by decide +kernel : decode code 1118 = .ok (.invokevirtual 145, 3)) ok_Mo_count (gm 1175 (by decide +kernel) rfl) (gm 1176 (by decide +kernel) rfl) (gm 1177 (by decide +kernel) rfl) rfl rfl (by decide +kernel) rfl rfl))
         (sd_lf (sd_istore (by decide +kernel : decode code 1121 = .ok (.istore 6, 2)))))))))
    (sd_br
     (sd_br
      (sd_br
       (sd_br
        (sd_lf (sd_aload_n (k := 2) (by decide +kernel : decode code 1123 = .ok (.aload_n 2, 1))))
        (sd_lf (sd_pureV (sd_callV (q := (RX7, TX7, 16)) (by decide +kernel : decode code 1124 = .ok (.invokevirtual 90, 3)) ok_Mo_thrown (gm 962 (by decide +kernel) rfl) (gm 963 (by decide +kernel) rfl) (gm 964 (by decide +kernel) rfl) rfl rfl (by decide +kernel) rfl rfl) c_Mo_thrown)))
       (sd_br
        (sd_lf (sd_iload (by decide +kernel : decode code 1127 = .ok (.iload 5, 2))))
        (sd_lf (sd_icmp_eq (by decide +kernel : decode code 1129 = .ok (.if_icmp .eq 5, 3)) (by decide +kernel)))))
      (sd_br
       (sd_br
        (sd_lf (sd_iconst (by decide +kernel : decode code 1132 = .ok (.iconst 0, 1)) (by decide +kernel)))
        (sd_lf (sd_zret (by decide +kernel : decode code 1133 = .ok (.ireturn, 1)) rfl)))
       (sd_br
        (sd_lf (sd_iload (by decide +kernel : decode code 1134 = .ok (.iload 5, 2))))
        (sd_br
         (sd_lf (sd_if_ne (by decide +kernel : decode code 1136 = .ok (.ifCond .ne 15, 3)) (by decide +kernel)))
         (sd_lf (sd_aload_n (k := 3) (by decide +kernel : decode code 1139 = .ok (.aload_n 3, 1))))))))
     (sd_br
      (sd_br
       (sd_br
        (sd_lf (sd_iconst (by decide +kernel : decode code 1140 = .ok (.iconst 0, 1)) (by decide +kernel)))
        (sd_lf (sd_laload (by decide +kernel : decode code 1141 = .ok (.laload, 1)))))
       (sd_br
        (sd_lf (sd_iload (by decide +kernel : decode code 1142 = .ok (.iload 6, 2))))
        (sd_lf (sd_i2l (by decide +kernel : decode code 1144 = .ok (.i2l, 1))))))
      (sd_br
       (sd_br
        (sd_lf (sd_lcmp (by decide +kernel : decode code 1145 = .ok (.lcmp, 1))))
        (sd_lf (sd_if_eq (by decide +kernel : decode code 1146 = .ok (.ifCond .eq 5, 3)) (by decide +kernel))))
       (sd_br
        (sd_lf (sd_iconst (by decide +kernel : decode code 1149 = .ok (.iconst 0, 1)) (by decide +kernel)))
        (sd_br
         (sd_lf (sd_zret (by decide +kernel : decode code 1150 = .ok (.ireturn, 1)) rfl))
         (sd_lf (sd_goto (by decide +kernel : decode code 1151 = .ok (.goto 434, 3)) (by decide +kernel)))))))))
def kl_17 (l : Launch) (G : Gc) (pc : Nat) : Tr :=
  if pc < 1183 then
   if pc < 1167 then
    if pc < 1160 then
     if pc < 1156 then
      if pc < 1155 then
       if pc = 1154 then tz_aload 1155 1 else dead
      else
       if pc = 1155 then tz_aload 1156 0 else dead
     else
      if pc < 1158 then
       if pc = 1156 then tz_iload 1158 4 else dead
      else
       if pc < 1159 then
        if pc = 1158 then tz_const 1159 (.int (nI 1)) else dead
       else
        if pc = 1159 then tz_i2 1160 (fun a b => a + b) else dead
    else
     if pc < 1164 then
      if pc < 1161 then
       if pc = 1160 then tz_iaload 1161 else dead
      else
       if pc < 1162 then
        if pc = 1161 then tz_aload 1162 0 else dead
       else
        if pc = 1162 then tz_iload 1164 4 else dead
     else
      if pc < 1165 then
       if pc = 1164 then tz_const 1165 (.int (nI 2)) else dead
      else
       if pc < 1166 then
        if pc = 1165 then tz_i2 1166 (fun a b => a + b) else dead
       else
        if pc = 1166 then tz_iaload 1167 else dead
   else
    if pc < 1175 then
     if pc < 1171 then
      if pc < 1168 then
       if pc = 1167 then tz_aload 1168 3 else dead
      else
       if pc = 1168 then tz_callR l G 1171 M_Lw_node 4 else dead
     else
      if pc < 1173 then
       if pc = 1171 then tz_istore 1173 5 else dead
      else
       if pc < 1174 then
        if pc = 1173 then tz_aload 1174 2 else dead
       else
        if pc = 1174 then tz_aload 1175 0 else dead
    else
     if pc < 1179 then
      if pc < 1177 then
       if pc = 1175 then tz_iload 1177 4 else dead
      else
       if pc < 1178 then
        if pc = 1177 then tz_const 1178 (.int (nI 1)) else dead
       else
        if pc = 1178 then tz_i2 1179 (fun a b => a + b) else dead
     else
      if pc < 1180 then
       if pc = 1179 then tz_iaload 1180 else dead
      else
       if pc < 1181 then
        if pc = 1180 then tz_aload 1181 0 else dead
       else
        if pc = 1181 then tz_iload 1183 4 else dead
  else
   if pc < 1202 then
    if pc < 1191 then
     if pc < 1185 then
      if pc < 1184 then
       if pc = 1183 then tz_const 1184 (.int (nI 2)) else dead
      else
       if pc = 1184 then tz_i2 1185 (fun a b => a + b) else dead
     else
      if pc < 1186 then
       if pc = 1185 then tz_iaload 1186 else dead
      else
       if pc < 1189 then
        if pc = 1186 then tz_callV l G 1189 M_Mo_node 2 7 else dead
       else
        if pc = 1189 then tz_istore 1191 6 else dead
    else
     if pc < 1197 then
      if pc < 1192 then
       if pc = 1191 then tz_aload 1192 2 else dead
      else
       if pc < 1195 then
        if pc = 1192 then tz_pureV 1195 0 7 P_Mo_thrown f_Mo_thrown else dead
       else
        if pc = 1195 then tz_iload 1197 5 else dead
     else
      if pc < 1200 then
       if pc = 1197 then tz_icmp 1200 1202 (fun a b => a = b) else dead
      else
       if pc < 1201 then
        if pc = 1200 then tz_const 1201 (.int (nI 0)) else dead
       else
        if pc = 1201 then tz_zret else dead
   else
    if pc < 1212 then
     if pc < 1208 then
      if pc < 1204 then
       if pc = 1202 then tz_iload 1204 5 else dead
      else
       if pc < 1207 then
        if pc = 1204 then tz_if 1207 1219 (fun a => ¬ a = 0) else dead
       else
        if pc = 1207 then tz_aload 1208 3 else dead
     else
      if pc < 1209 then
       if pc = 1208 then tz_const 1209 (.int (nI 0)) else dead
      else
       if pc < 1210 then
        if pc = 1209 then tz_laload 1210 else dead
       else
        if pc = 1210 then tz_iload 1212 6 else dead
    else
     if pc < 1217 then
      if pc < 1213 then
       if pc = 1212 then tz_i2l 1213 else dead
      else
       if pc < 1214 then
        if pc = 1213 then tz_lcmp 1214 else dead
       else
        if pc = 1214 then tz_if 1217 1219 (fun a => a = 0) else dead
     else
      if pc < 1218 then
       if pc = 1217 then tz_const 1218 (.int (nI 0)) else dead
      else
       if pc < 1219 then
        if pc = 1218 then tz_zret else dead
       else
        if pc = 1219 then tz_goto 1585 else dead
set_option maxRecDepth 100000 in
theorem tl_17 (l : Launch) (G : Gc) : TabOK l G M_Lw_law (kl_17 l G) := by
  intro pc
  unfold kl_17
  exact
   (sd_br
    (sd_br
     (sd_br
      (sd_br
       (sd_br
        (sd_lf (sd_aload_n (k := 1) (by decide +kernel : decode code 1154 = .ok (.aload_n 1, 1))))
        (sd_lf (sd_aload_n (k := 0) (by decide +kernel : decode code 1155 = .ok (.aload_n 0, 1)))))
       (sd_br
        (sd_lf (sd_iload (by decide +kernel : decode code 1156 = .ok (.iload 4, 2))))
        (sd_br
         (sd_lf (sd_iconst (by decide +kernel : decode code 1158 = .ok (.iconst 1, 1)) (by decide +kernel)))
         (sd_lf (sd_iadd (by decide +kernel : decode code 1159 = .ok (.iadd, 1)))))))
      (sd_br
       (sd_br
        (sd_lf (sd_iaload (by decide +kernel : decode code 1160 = .ok (.iaload, 1))))
        (sd_br
         (sd_lf (sd_aload_n (k := 0) (by decide +kernel : decode code 1161 = .ok (.aload_n 0, 1))))
         (sd_lf (sd_iload (by decide +kernel : decode code 1162 = .ok (.iload 4, 2))))))
       (sd_br
        (sd_lf (sd_iconst (by decide +kernel : decode code 1164 = .ok (.iconst 2, 1)) (by decide +kernel)))
        (sd_br
         (sd_lf (sd_iadd (by decide +kernel : decode code 1165 = .ok (.iadd, 1))))
         (sd_lf (sd_iaload (by decide +kernel : decode code 1166 = .ok (.iaload, 1))))))))
     (sd_br
      (sd_br
       (sd_br
        (sd_lf (sd_aload_n (k := 3) (by decide +kernel : decode code 1167 = .ok (.aload_n 3, 1))))
        (sd_lf (sd_callSH (by decide +kernel : decode code 1168 = .ok (.invokestatic 146, 3)) ok_Lw_node (gm 855 (by decide +kernel) rfl) (gm 856 (by decide +kernel) rfl) (by decide +kernel) rfl)))
       (sd_br
        (sd_lf (sd_istore (by decide +kernel : decode code 1171 = .ok (.istore 5, 2))))
        (sd_br
         (sd_lf (sd_aload_n (k := 2) (by decide +kernel : decode code 1173 = .ok (.aload_n 2, 1))))
         (sd_lf (sd_aload_n (k := 0) (by decide +kernel : decode code 1174 = .ok (.aload_n 0, 1)))))))
      (sd_br
       (sd_br
        (sd_lf (sd_iload (by decide +kernel : decode code 1175 = .ok (.iload 4, 2))))
        (sd_br
         (sd_lf (sd_iconst (by decide +kernel : decode code 1177 = .ok (.iconst 1, 1)) (by decide +kernel)))
         (sd_lf (sd_iadd (by decide +kernel : decode code 1178 = .ok (.iadd, 1))))))
       (sd_br
        (sd_lf (sd_iaload (by decide +kernel : decode code 1179 = .ok (.iaload, 1))))
        (sd_br
         (sd_lf (sd_aload_n (k := 0) (by decide +kernel : decode code 1180 = .ok (.aload_n 0, 1))))
         (sd_lf (sd_iload (by decide +kernel : decode code 1181 = .ok (.iload 4, 2)))))))))
    (sd_br
     (sd_br
      (sd_br
       (sd_br
        (sd_lf (sd_iconst (by decide +kernel : decode code 1183 = .ok (.iconst 2, 1)) (by decide +kernel)))
        (sd_lf (sd_iadd (by decide +kernel : decode code 1184 = .ok (.iadd, 1)))))
       (sd_br
        (sd_lf (sd_iaload (by decide +kernel : decode code 1185 = .ok (.iaload, 1))))
        (sd_br
         (sd_lf (sd_callV (q := (RX7, TX7, 16)) (by decide +kernel : decode code 1186 = .ok (.invokevirtual 149, 3)) ok_Mo_node (gm 1191 (by decide +kernel) rfl) (gm 1192 (by decide +kernel) rfl) (gm 1193 (by decide +kernel) rfl) rfl rfl (by decide +kernel) rfl rfl))
         (sd_lf (sd_istore (by decide +kernel : decode code 1189 = .ok (.istore 6, 2)))))))
      (sd_br
       (sd_br
        (sd_lf (sd_aload_n (k := 2) (by decide +kernel : decode code 1191 = .ok (.aload_n 2, 1))))
        (sd_br
         (sd_lf (sd_pureV (sd_callV (q := (RX7, TX7, 16)) (by decide +kernel : decode code 1192 = .ok (.invokevirtual 90, 3)) ok_Mo_thrown (gm 962 (by decide +kernel) rfl) (gm 963 (by decide +kernel) rfl) (gm 964 (by decide +kernel) rfl) rfl rfl (by decide +kernel) rfl rfl) c_Mo_thrown))
         (sd_lf (sd_iload (by decide +kernel : decode code 1195 = .ok (.iload 5, 2))))))
       (sd_br
        (sd_lf (sd_icmp_eq (by decide +kernel : decode code 1197 = .ok (.if_icmp .eq 5, 3)) (by decide +kernel)))
        (sd_br
         (sd_lf (sd_iconst (by decide +kernel : decode code 1200 = .ok (.iconst 0, 1)) (by decide +kernel)))
         (sd_lf (sd_zret (by decide +kernel : decode code 1201 = .ok (.ireturn, 1)) rfl))))))
     (sd_br
      (sd_br
       (sd_br
        (sd_lf (sd_iload (by decide +kernel : decode code 1202 = .ok (.iload 5, 2))))
        (sd_br
         (sd_lf (sd_if_ne (by decide +kernel : decode code 1204 = .ok (.ifCond .ne 15, 3)) (by decide +kernel)))
         (sd_lf (sd_aload_n (k := 3) (by decide +kernel : decode code 1207 = .ok (.aload_n 3, 1))))))
       (sd_br
        (sd_lf (sd_iconst (by decide +kernel : decode code 1208 = .ok (.iconst 0, 1)) (by decide +kernel)))
        (sd_br
         (sd_lf (sd_laload (by decide +kernel : decode code 1209 = .ok (.laload, 1))))
         (sd_lf (sd_iload (by decide +kernel : decode code 1210 = .ok (.iload 6, 2)))))))
      (sd_br
       (sd_br
        (sd_lf (sd_i2l (by decide +kernel : decode code 1212 = .ok (.i2l, 1))))
        (sd_br
         (sd_lf (sd_lcmp (by decide +kernel : decode code 1213 = .ok (.lcmp, 1))))
         (sd_lf (sd_if_eq (by decide +kernel : decode code 1214 = .ok (.ifCond .eq 5, 3)) (by decide +kernel)))))
       (sd_br
        (sd_lf (sd_iconst (by decide +kernel : decode code 1217 = .ok (.iconst 0, 1)) (by decide +kernel)))
        (sd_br
         (sd_lf (sd_zret (by decide +kernel : decode code 1218 = .ok (.ireturn, 1)) rfl))
         (sd_lf (sd_goto (by decide +kernel : decode code 1219 = .ok (.goto 366, 3)) (by decide +kernel)))))))))
def kl_18 (l : Launch) (G : Gc) (pc : Nat) : Tr :=
  if pc < 1251 then
   if pc < 1235 then
    if pc < 1228 then
     if pc < 1224 then
      if pc < 1223 then
       if pc = 1222 then tz_aload 1223 1 else dead
      else
       if pc = 1223 then tz_aload 1224 0 else dead
     else
      if pc < 1226 then
       if pc = 1224 then tz_iload 1226 4 else dead
      else
       if pc < 1227 then
        if pc = 1226 then tz_const 1227 (.int (nI 1)) else dead
       else
        if pc = 1227 then tz_i2 1228 (fun a b => a + b) else dead
    else
     if pc < 1232 then
      if pc < 1229 then
       if pc = 1228 then tz_iaload 1229 else dead
      else
       if pc < 1230 then
        if pc = 1229 then tz_aload 1230 0 else dead
       else
        if pc = 1230 then tz_iload 1232 4 else dead
     else
      if pc < 1233 then
       if pc = 1232 then tz_const 1233 (.int (nI 2)) else dead
      else
       if pc < 1234 then
        if pc = 1233 then tz_i2 1234 (fun a b => a + b) else dead
       else
        if pc = 1234 then tz_iaload 1235 else dead
   else
    if pc < 1243 then
     if pc < 1239 then
      if pc < 1236 then
       if pc = 1235 then tz_aload 1236 3 else dead
      else
       if pc = 1236 then tz_callR l G 1239 M_Lw_translator 4 else dead
     else
      if pc < 1241 then
       if pc = 1239 then tz_istore 1241 5 else dead
      else
       if pc < 1242 then
        if pc = 1241 then tz_aload 1242 2 else dead
       else
        if pc = 1242 then tz_aload 1243 0 else dead
    else
     if pc < 1247 then
      if pc < 1245 then
       if pc = 1243 then tz_iload 1245 4 else dead
      else
       if pc < 1246 then
        if pc = 1245 then tz_const 1246 (.int (nI 1)) else dead
       else
        if pc = 1246 then tz_i2 1247 (fun a b => a + b) else dead
     else
      if pc < 1248 then
       if pc = 1247 then tz_iaload 1248 else dead
      else
       if pc < 1249 then
        if pc = 1248 then tz_aload 1249 0 else dead
       else
        if pc = 1249 then tz_iload 1251 4 else dead
  else
   if pc < 1270 then
    if pc < 1259 then
     if pc < 1253 then
      if pc < 1252 then
       if pc = 1251 then tz_const 1252 (.int (nI 2)) else dead
      else
       if pc = 1252 then tz_i2 1253 (fun a b => a + b) else dead
     else
      if pc < 1254 then
       if pc = 1253 then tz_iaload 1254 else dead
      else
       if pc < 1257 then
        if pc = 1254 then tz_callV l G 1257 M_Mo_translator 2 7 else dead
       else
        if pc = 1257 then tz_istore 1259 6 else dead
    else
     if pc < 1265 then
      if pc < 1260 then
       if pc = 1259 then tz_aload 1260 2 else dead
      else
       if pc < 1263 then
        if pc = 1260 then tz_pureV 1263 0 7 P_Mo_thrown f_Mo_thrown else dead
       else
        if pc = 1263 then tz_iload 1265 5 else dead
     else
      if pc < 1268 then
       if pc = 1265 then tz_icmp 1268 1270 (fun a b => a = b) else dead
      else
       if pc < 1269 then
        if pc = 1268 then tz_const 1269 (.int (nI 0)) else dead
       else
        if pc = 1269 then tz_zret else dead
   else
    if pc < 1280 then
     if pc < 1276 then
      if pc < 1272 then
       if pc = 1270 then tz_iload 1272 5 else dead
      else
       if pc < 1275 then
        if pc = 1272 then tz_if 1275 1287 (fun a => ¬ a = 0) else dead
       else
        if pc = 1275 then tz_aload 1276 3 else dead
     else
      if pc < 1277 then
       if pc = 1276 then tz_const 1277 (.int (nI 0)) else dead
      else
       if pc < 1278 then
        if pc = 1277 then tz_laload 1278 else dead
       else
        if pc = 1278 then tz_iload 1280 6 else dead
    else
     if pc < 1285 then
      if pc < 1281 then
       if pc = 1280 then tz_i2l 1281 else dead
      else
       if pc < 1282 then
        if pc = 1281 then tz_lcmp 1282 else dead
       else
        if pc = 1282 then tz_if 1285 1287 (fun a => a = 0) else dead
     else
      if pc < 1286 then
       if pc = 1285 then tz_const 1286 (.int (nI 0)) else dead
      else
       if pc < 1287 then
        if pc = 1286 then tz_zret else dead
       else
        if pc = 1287 then tz_goto 1585 else dead
set_option maxRecDepth 100000 in
theorem tl_18 (l : Launch) (G : Gc) : TabOK l G M_Lw_law (kl_18 l G) := by
  intro pc
  unfold kl_18
  exact
   (sd_br
    (sd_br
     (sd_br
      (sd_br
       (sd_br
        (sd_lf (sd_aload_n (k := 1) (by decide +kernel : decode code 1222 = .ok (.aload_n 1, 1))))
        (sd_lf (sd_aload_n (k := 0) (by decide +kernel : decode code 1223 = .ok (.aload_n 0, 1)))))
       (sd_br
        (sd_lf (sd_iload (by decide +kernel : decode code 1224 = .ok (.iload 4, 2))))
        (sd_br
         (sd_lf (sd_iconst (by decide +kernel : decode code 1226 = .ok (.iconst 1, 1)) (by decide +kernel)))
         (sd_lf (sd_iadd (by decide +kernel : decode code 1227 = .ok (.iadd, 1)))))))
      (sd_br
       (sd_br
        (sd_lf (sd_iaload (by decide +kernel : decode code 1228 = .ok (.iaload, 1))))
        (sd_br
         (sd_lf (sd_aload_n (k := 0) (by decide +kernel : decode code 1229 = .ok (.aload_n 0, 1))))
         (sd_lf (sd_iload (by decide +kernel : decode code 1230 = .ok (.iload 4, 2))))))
       (sd_br
        (sd_lf (sd_iconst (by decide +kernel : decode code 1232 = .ok (.iconst 2, 1)) (by decide +kernel)))
        (sd_br
         (sd_lf (sd_iadd (by decide +kernel : decode code 1233 = .ok (.iadd, 1))))
         (sd_lf (sd_iaload (by decide +kernel : decode code 1234 = .ok (.iaload, 1))))))))
     (sd_br
      (sd_br
       (sd_br
        (sd_lf (sd_aload_n (k := 3) (by decide +kernel : decode code 1235 = .ok (.aload_n 3, 1))))
        (sd_lf (sd_callSH (by decide +kernel : decode code 1236 = .ok (.invokestatic 150, 3)) ok_Lw_translator (gm 864 (by decide +kernel) rfl) (gm 865 (by decide +kernel) rfl) (by decide +kernel) rfl)))
       (sd_br
        (sd_lf (sd_istore (by decide +kernel : decode code 1239 = .ok (.istore 5, 2))))
        (sd_br
         (sd_lf (sd_aload_n (k := 2) (by decide +kernel : decode code 1241 = .ok (.aload_n 2, 1))))
         (sd_lf (sd_aload_n (k := 0) (by decide +kernel : decode code 1242 = .ok (.aload_n 0, 1)))))))
      (sd_br
       (sd_br
        (sd_lf (sd_iload (by decide +kernel : decode code 1243 = .ok (.iload 4, 2))))
        (sd_br
         (sd_lf (sd_iconst (by decide +kernel : decode code 1245 = .ok (.iconst 1, 1)) (by decide +kernel)))
         (sd_lf (sd_iadd (by decide +kernel : decode code 1246 = .ok (.iadd, 1))))))
       (sd_br
        (sd_lf (sd_iaload (by decide +kernel : decode code 1247 = .ok (.iaload, 1))))
        (sd_br
         (sd_lf (sd_aload_n (k := 0) (by decide +kernel : decode code 1248 = .ok (.aload_n 0, 1))))
         (sd_lf (sd_iload (by decide +kernel : decode code 1249 = .ok (.iload 4, 2)))))))))
    (sd_br
     (sd_br
      (sd_br
       (sd_br
        (sd_lf (sd_iconst (by decide +kernel : decode code 1251 = .ok (.iconst 2, 1)) (by decide +kernel)))
        (sd_lf (sd_iadd (by decide +kernel : decode code 1252 = .ok (.iadd, 1)))))
       (sd_br
        (sd_lf (sd_iaload (by decide +kernel : decode code 1253 = .ok (.iaload, 1))))
        (sd_br
         (sd_lf (sd_callV (q := (RX7, TX7, 16)) (by decide +kernel : decode code 1254 = .ok (.invokevirtual 152, 3)) ok_Mo_translator (gm 1211 (by decide +kernel) rfl) (gm 1212 (by decide +kernel) rfl) (gm 1213 (by decide +kernel) rfl) rfl rfl (by decide +kernel) rfl rfl))
         (sd_lf (sd_istore (by decide +kernel : decode code 1257 = .ok (.istore 6, 2)))))))
      (sd_br
       (sd_br
        (sd_lf (sd_aload_n (k := 2) (by decide +kernel : decode code 1259 = .ok (.aload_n 2, 1))))
        (sd_br
         (sd_lf (sd_pureV (sd_callV (q := (RX7, TX7, 16)) (by decide +kernel : decode code 1260 = .ok (.invokevirtual 90, 3)) ok_Mo_thrown (gm 962 (by decide +kernel) rfl) (gm 963 (by decide +kernel) rfl) (gm 964 (by decide +kernel) rfl) rfl rfl (by decide +kernel) rfl rfl) c_Mo_thrown))
         (sd_lf (sd_iload (by decide +kernel : decode code 1263 = .ok (.iload 5, 2))))))
       (sd_br
        (sd_lf (sd_icmp_eq (by decide +kernel : decode code 1265 = .ok (.if_icmp .eq 5, 3)) (by decide +kernel)))
        (sd_br
         (sd_lf (sd_iconst (by decide +kernel : decode code 1268 = .ok (.iconst 0, 1)) (by decide +kernel)))
         (sd_lf (sd_zret (by decide +kernel : decode code 1269 = .ok (.ireturn, 1)) rfl))))))
     (sd_br
      (sd_br
       (sd_br
        (sd_lf (sd_iload (by decide +kernel : decode code 1270 = .ok (.iload 5, 2))))
        (sd_br
         (sd_lf (sd_if_ne (by decide +kernel : decode code 1272 = .ok (.ifCond .ne 15, 3)) (by decide +kernel)))
         (sd_lf (sd_aload_n (k := 3) (by decide +kernel : decode code 1275 = .ok (.aload_n 3, 1))))))
       (sd_br
        (sd_lf (sd_iconst (by decide +kernel : decode code 1276 = .ok (.iconst 0, 1)) (by decide +kernel)))
        (sd_br
         (sd_lf (sd_laload (by decide +kernel : decode code 1277 = .ok (.laload, 1))))
         (sd_lf (sd_iload (by decide +kernel : decode code 1278 = .ok (.iload 6, 2)))))))
      (sd_br
       (sd_br
        (sd_lf (sd_i2l (by decide +kernel : decode code 1280 = .ok (.i2l, 1))))
        (sd_br
         (sd_lf (sd_lcmp (by decide +kernel : decode code 1281 = .ok (.lcmp, 1))))
         (sd_lf (sd_if_eq (by decide +kernel : decode code 1282 = .ok (.ifCond .eq 5, 3)) (by decide +kernel)))))
       (sd_br
        (sd_lf (sd_iconst (by decide +kernel : decode code 1285 = .ok (.iconst 0, 1)) (by decide +kernel)))
        (sd_br
         (sd_lf (sd_zret (by decide +kernel : decode code 1286 = .ok (.ireturn, 1)) rfl))
         (sd_lf (sd_goto (by decide +kernel : decode code 1287 = .ok (.goto 298, 3)) (by decide +kernel)))))))))
def kl_19 (l : Launch) (G : Gc) (pc : Nat) : Tr :=
  if pc < 1325 then
   if pc < 1306 then
    if pc < 1297 then
     if pc < 1294 then
      if pc < 1291 then
       if pc = 1290 then tz_aload 1291 1 else dead
      else
       if pc < 1292 then
        if pc = 1291 then tz_aload 1292 0 else dead
       else
        if pc = 1292 then tz_iload 1294 4 else dead
     else
      if pc < 1295 then
       if pc = 1294 then tz_const 1295 (.int (nI 1)) else dead
      else
       if pc < 1296 then
        if pc = 1295 then tz_i2 1296 (fun a b => a + b) else dead
       else
        if pc = 1296 then tz_iaload 1297 else dead
    else
     if pc < 1301 then
      if pc < 1298 then
       if pc = 1297 then tz_aload 1298 0 else dead
      else
       if pc < 1300 then
        if pc = 1298 then tz_iload 1300 4 else dead
       else
        if pc = 1300 then tz_const 1301 (.int (nI 2)) else dead
     else
      if pc < 1303 then
       if pc < 1302 then
        if pc = 1301 then tz_i2 1302 (fun a b => a + b) else dead
       else
        if pc = 1302 then tz_iaload 1303 else dead
      else
       if pc < 1304 then
        if pc = 1303 then tz_aload 1304 0 else dead
       else
        if pc = 1304 then tz_iload 1306 4 else dead
   else
    if pc < 1316 then
     if pc < 1309 then
      if pc < 1307 then
       if pc = 1306 then tz_const 1307 (.int (nI 3)) else dead
      else
       if pc < 1308 then
        if pc = 1307 then tz_i2 1308 (fun a b => a + b) else dead
       else
        if pc = 1308 then tz_iaload 1309 else dead
     else
      if pc < 1313 then
       if pc < 1310 then
        if pc = 1309 then tz_aload 1310 3 else dead
       else
        if pc = 1310 then tz_callR l G 1313 M_Lw_mapping 5 else dead
      else
       if pc < 1315 then
        if pc = 1313 then tz_istore 1315 5 else dead
       else
        if pc = 1315 then tz_aload 1316 2 else dead
    else
     if pc < 1320 then
      if pc < 1317 then
       if pc = 1316 then tz_aload 1317 0 else dead
      else
       if pc < 1319 then
        if pc = 1317 then tz_iload 1319 4 else dead
       else
        if pc = 1319 then tz_const 1320 (.int (nI 1)) else dead
     else
      if pc < 1322 then
       if pc < 1321 then
        if pc = 1320 then tz_i2 1321 (fun a b => a + b) else dead
       else
        if pc = 1321 then tz_iaload 1322 else dead
      else
       if pc < 1323 then
        if pc = 1322 then tz_aload 1323 0 else dead
       else
        if pc = 1323 then tz_iload 1325 4 else dead
  else
   if pc < 1348 then
    if pc < 1333 then
     if pc < 1328 then
      if pc < 1326 then
       if pc = 1325 then tz_const 1326 (.int (nI 2)) else dead
      else
       if pc < 1327 then
        if pc = 1326 then tz_i2 1327 (fun a b => a + b) else dead
       else
        if pc = 1327 then tz_iaload 1328 else dead
     else
      if pc < 1331 then
       if pc < 1329 then
        if pc = 1328 then tz_aload 1329 0 else dead
       else
        if pc = 1329 then tz_iload 1331 4 else dead
      else
       if pc < 1332 then
        if pc = 1331 then tz_const 1332 (.int (nI 3)) else dead
       else
        if pc = 1332 then tz_i2 1333 (fun a b => a + b) else dead
    else
     if pc < 1339 then
      if pc < 1334 then
       if pc = 1333 then tz_iaload 1334 else dead
      else
       if pc < 1337 then
        if pc = 1334 then tz_callV l G 1337 M_Mo_mapping 3 7 else dead
       else
        if pc = 1337 then tz_istore 1339 6 else dead
     else
      if pc < 1343 then
       if pc < 1340 then
        if pc = 1339 then tz_aload 1340 2 else dead
       else
        if pc = 1340 then tz_pureV 1343 0 7 P_Mo_thrown f_Mo_thrown else dead
      else
       if pc < 1345 then
        if pc = 1343 then tz_iload 1345 5 else dead
       else
        if pc = 1345 then tz_icmp 1348 1350 (fun a b => a = b) else dead
   else
    if pc < 1358 then
     if pc < 1352 then
      if pc < 1349 then
       if pc = 1348 then tz_const 1349 (.int (nI 0)) else dead
      else
       if pc < 1350 then
        if pc = 1349 then tz_zret else dead
       else
        if pc = 1350 then tz_iload 1352 5 else dead
     else
      if pc < 1356 then
       if pc < 1355 then
        if pc = 1352 then tz_if 1355 1367 (fun a => ¬ a = 0) else dead
       else
        if pc = 1355 then tz_aload 1356 3 else dead
      else
       if pc < 1357 then
        if pc = 1356 then tz_const 1357 (.int (nI 0)) else dead
       else
        if pc = 1357 then tz_laload 1358 else dead
    else
     if pc < 1362 then
      if pc < 1360 then
       if pc = 1358 then tz_iload 1360 6 else dead
      else
       if pc < 1361 then
        if pc = 1360 then tz_i2l 1361 else dead
       else
        if pc = 1361 then tz_lcmp 1362 else dead
     else
      if pc < 1366 then
       if pc < 1365 then
        if pc = 1362 then tz_if 1365 1367 (fun a => a = 0) else dead
       else
        if pc = 1365 then tz_const 1366 (.int (nI 0)) else dead
      else
       if pc < 1367 then
        if pc = 1366 then tz_zret else dead
       else
        if pc = 1367 then tz_goto 1585 else dead
set_option maxRecDepth 100000 in
theorem tl_19 (l : Launch) (G : Gc) : TabOK l G M_Lw_law (kl_19 l G) := by
  intro pc
  unfold kl_19
  exact
   (sd_br
    (sd_br
     (sd_br
      (sd_br
       (sd_br
        (sd_lf (sd_aload_n (k := 1) (by decide +kernel : decode code 1290 = .ok (.aload_n 1, 1))))
        (sd_br
         (sd_lf (sd_aload_n (k := 0) (by decide +kernel : decode code 1291 = .ok (.aload_n 0, 1))))
         (sd_lf (sd_iload (by decide +kernel : decode code 1292 = .ok (.iload 4, 2))))))
       (sd_br
        (sd_lf (sd_iconst (by decide +kernel : decode code 1294 = .ok (.iconst 1, 1)) (by decide +kernel)))
        (sd_br
         (sd_lf (sd_iadd (by decide +kernel : decode code 1295 = .ok (.iadd, 1))))
         (sd_lf (sd_iaload (by decide +kernel : decode code 1296 = .ok (.iaload, 1)))))))
      (sd_br
       (sd_br
        (sd_lf (sd_aload_n (k := 0) (by decide +kernel : decode code 1297 = .ok (.aload_n 0, 1))))
        (sd_br
         (sd_lf (sd_iload (by decide +kernel : decode code 1298 = .ok (.iload 4, 2))))
         (sd_lf (sd_iconst (by decide +kernel : decode code 1300 = .ok (.iconst 2, 1)) (by decide +kernel)))))
       (sd_br
        (sd_br
         (sd_lf (sd_iadd (by decide +kernel : decode code 1301 = .ok (.iadd, 1))))
         (sd_lf (sd_iaload (by decide +kernel : decode code 1302 = .ok (.iaload, 1)))))
        (sd_br
         (sd_lf (sd_aload_n (k := 0) (by decide +kernel : decode code 1303 = .ok (.aload_n 0, 1))))
         (sd_lf (sd_iload (by decide +kernel : decode code 1304 = .ok (.iload 4, 2))))))))
     (sd_br
      (sd_br
       (sd_br
        (sd_lf (sd_iconst (by decide +kernel : decode code 1306 = .ok (.iconst 3, 1)) (by decide +kernel)))
        (sd_br
         (sd_lf (sd_iadd (by decide +kernel : decode code 1307 = .ok (.iadd, 1))))
         (sd_lf (sd_iaload (by decide +kernel : decode code 1308 = .ok (.iaload, 1))))))
       (sd_br
        (sd_br
         (sd_lf (sd_aload_n (k := 3) (by decide +kernel : decode code 1309 = .ok (.aload_n 3, 1))))
         (sd_lf (sd_callSH (by decide +kernel : decode code 1310 = .ok (.invokestatic 153, 3)) ok_Lw_mapping (gm 872 (by decide +kernel) rfl) (gm 873 (by decide +kernel) rfl) (by decide +kernel) rfl)))
        (sd_br
         (sd_lf (sd_istore (by decide +kernel : decode code 1313 = .ok (.istore 5, 2))))
         (sd_lf (sd_aload_n (k := 2) (by decide +kernel : decode code 1315 = .ok (.aload_n 2, 1)))))))
      (sd_br
       (sd_br
        (sd_lf (sd_aload_n (k := 0) (by decide +kernel : decode code 1316 = .ok (.aload_n 0, 1))))
        (sd_br
         (sd_lf (sd_iload (by decide +kernel : decode code 1317 = .ok (.iload 4, 2))))
         (sd_lf (sd_iconst (by decide +kernel : decode code 1319 = .ok (.iconst 1, 1)) (by decide +kernel)))))
       (sd_br
        (sd_br
         (sd_lf (sd_iadd (by decide +kernel : decode code 1320 = .ok (.iadd, 1))))
         (sd_lf (sd_iaload (by decide +kernel : decode code 1321 = .ok (.iaload, 1)))))
        (sd_br
         (sd_lf (sd_aload_n (k := 0) (by decide +kernel : decode code 1322 = .ok (.aload_n 0, 1))))
         (sd_lf (sd_iload (by decide +kernel : decode code 1323 = .ok (.iload 4, 2)))))))))
    (sd_br
     (sd_br
      (sd_br
       (sd_br
        (sd_lf (sd_iconst (by decide +kernel : decode code 1325 = .ok (.iconst 2, 1)) (by decide +kernel)))
        (sd_br
         (sd_lf (sd_iadd (by decide +kernel : decode code 1326 = .ok (.iadd, 1))))
         (sd_lf (sd_iaload (by decide +kernel : decode code 1327 = .ok (.iaload, 1))))))
       (sd_br
        (sd_br
         (sd_lf (sd_aload_n (k := 0) (by decide +kernel : decode code 1328 = .ok (.aload_n 0, 1))))
         (sd_lf (sd_iload (by decide +kernel : decode code 1329 = .ok (.iload 4, 2)))))
        (sd_br
         (sd_lf (sd_iconst (by decide +kernel : decode code 1331 = .ok (.iconst 3, 1)) (by decide +kernel)))
         (sd_lf (sd_iadd (by decide +kernel : decode code 1332 = .ok (.iadd, 1)))))))
      (sd_br
       (sd_br
        (sd_lf (sd_iaload (by decide +kernel : decode code 1333 = .ok (.iaload, 1))))
        (sd_br
         (sd_lf (sd_callV (q := (RX7, TX7, 16)) (by decide +kernel : decode code 1334 = .ok (.invokevirtual 155, 3)) ok_Mo_mapping (gm 1219 (by decide +kernel) rfl) (gm 1220 (by decide +kernel) rfl) (gm 1221 (by decide +kernel) rfl) rfl rfl (by decide +kernel) rfl rfl))
         (sd_lf (sd_istore (by decide +kernel : decode code 1337 = .ok (.istore 6, 2))))))
       (sd_br
        (sd_br
         (sd_lf (sd_aload_n (k := 2) (by decide +kernel : decode code 1339 = .ok (.aload_n 2, 1))))
         (sd_lf (sd_pureV (sd_callV (q := (RX7, TX7, 16)) (by decide +kernel : decode code 1340 = .ok (.invokevirtual 90, 3)) ok_Mo_thrown (gm 962 (by decide +kernel) rfl) (gm 963 (by decide +kernel) rfl) (gm 964 (by decide +kernel) rfl) rfl rfl (by decide +kernel) rfl rfl) c_Mo_thrown)))
        (sd_br
         (sd_lf (sd_iload (by decide +kernel : decode code 1343 = .ok (.iload 5, 2))))
         (sd_lf (sd_icmp_eq (by decide +kernel : decode code 1345 = .ok (.if_icmp .eq 5, 3)) (by decide +kernel)))))))
     (sd_br
      (sd_br
       (sd_br
        (sd_lf (sd_iconst (by decide +kernel : decode code 1348 = .ok (.iconst 0, 1)) (by decide +kernel)))
        (sd_br
         (sd_lf (sd_zret (by decide +kernel : decode code 1349 = .ok (.ireturn, 1)) rfl))
         (sd_lf (sd_iload (by decide +kernel : decode code 1350 = .ok (.iload 5, 2))))))
       (sd_br
        (sd_br
         (sd_lf (sd_if_ne (by decide +kernel : decode code 1352 = .ok (.ifCond .ne 15, 3)) (by decide +kernel)))
         (sd_lf (sd_aload_n (k := 3) (by decide +kernel : decode code 1355 = .ok (.aload_n 3, 1)))))
        (sd_br
         (sd_lf (sd_iconst (by decide +kernel : decode code 1356 = .ok (.iconst 0, 1)) (by decide +kernel)))
         (sd_lf (sd_laload (by decide +kernel : decode code 1357 = .ok (.laload, 1)))))))
      (sd_br
       (sd_br
        (sd_lf (sd_iload (by decide +kernel : decode code 1358 = .ok (.iload 6, 2))))
        (sd_br
         (sd_lf (sd_i2l (by decide +kernel : decode code 1360 = .ok (.i2l, 1))))
         (sd_lf (sd_lcmp (by decide +kernel : decode code 1361 = .ok (.lcmp, 1))))))
       (sd_br
        (sd_br
         (sd_lf (sd_if_eq (by decide +kernel : decode code 1362 = .ok (.ifCond .eq 5, 3)) (by decide +kernel)))
         (sd_lf (sd_iconst (by decide +kernel : decode code 1365 = .ok (.iconst 0, 1)) (by decide +kernel))))
        (sd_br
         (sd_lf (sd_zret (by decide +kernel : decode code 1366 = .ok (.ireturn, 1)) rfl))
         (sd_lf (sd_goto (by decide +kernel : decode code 1367 = .ok (.goto 218, 3)) (by decide +kernel)))))))))
def kl_20 (l : Launch) (G : Gc) (pc : Nat) : Tr :=
  if pc < 1411 then
   if pc < 1389 then
    if pc < 1380 then
     if pc < 1375 then
      if pc < 1372 then
       if pc < 1371 then
        if pc = 1370 then tz_aload 1371 1 else dead
       else
        if pc = 1371 then tz_aload 1372 0 else dead
      else
       if pc < 1374 then
        if pc = 1372 then tz_iload 1374 4 else dead
       else
        if pc = 1374 then tz_const 1375 (.int (nI 1)) else dead
     else
      if pc < 1377 then
       if pc < 1376 then
        if pc = 1375 then tz_i2 1376 (fun a b => a + b) else dead
       else
        if pc = 1376 then tz_iaload 1377 else dead
      else
       if pc < 1378 then
        if pc = 1377 then tz_aload 1378 0 else dead
       else
        if pc = 1378 then tz_iload 1380 4 else dead
    else
     if pc < 1384 then
      if pc < 1382 then
       if pc < 1381 then
        if pc = 1380 then tz_const 1381 (.int (nI 2)) else dead
       else
        if pc = 1381 then tz_i2 1382 (fun a b => a + b) else dead
      else
       if pc < 1383 then
        if pc = 1382 then tz_iaload 1383 else dead
       else
        if pc = 1383 then tz_aload 1384 0 else dead
     else
      if pc < 1387 then
       if pc < 1386 then
        if pc = 1384 then tz_iload 1386 4 else dead
       else
        if pc = 1386 then tz_const 1387 (.int (nI 3)) else dead
      else
       if pc < 1388 then
        if pc = 1387 then tz_i2 1388 (fun a b => a + b) else dead
       else
        if pc = 1388 then tz_iaload 1389 else dead
   else
    if pc < 1401 then
     if pc < 1394 then
      if pc < 1392 then
       if pc < 1390 then
        if pc = 1389 then tz_aload 1390 0 else dead
       else
        if pc = 1390 then tz_iload 1392 4 else dead
      else
       if pc < 1393 then
        if pc = 1392 then tz_const 1393 (.int (nI 4)) else dead
       else
        if pc = 1393 then tz_i2 1394 (fun a b => a + b) else dead
     else
      if pc < 1396 then
       if pc < 1395 then
        if pc = 1394 then tz_iaload 1395 else dead
       else
        if pc = 1395 then tz_aload 1396 3 else dead
      else
       if pc < 1399 then
        if pc = 1396 then tz_callR l G 1399 M_Lw_timeLeft 6 else dead
       else
        if pc = 1399 then tz_istore 1401 5 else dead
    else
     if pc < 1406 then
      if pc < 1403 then
       if pc < 1402 then
        if pc = 1401 then tz_aload 1402 2 else dead
       else
        if pc = 1402 then tz_aload 1403 0 else dead
      else
       if pc < 1405 then
        if pc = 1403 then tz_iload 1405 4 else dead
       else
        if pc = 1405 then tz_const 1406 (.int (nI 1)) else dead
     else
      if pc < 1408 then
       if pc < 1407 then
        if pc = 1406 then tz_i2 1407 (fun a b => a + b) else dead
       else
        if pc = 1407 then tz_iaload 1408 else dead
      else
       if pc < 1409 then
        if pc = 1408 then tz_aload 1409 0 else dead
       else
        if pc = 1409 then tz_iload 1411 4 else dead
  else
   if pc < 1432 then
    if pc < 1420 then
     if pc < 1415 then
      if pc < 1413 then
       if pc < 1412 then
        if pc = 1411 then tz_const 1412 (.int (nI 2)) else dead
       else
        if pc = 1412 then tz_i2 1413 (fun a b => a + b) else dead
      else
       if pc < 1414 then
        if pc = 1413 then tz_iaload 1414 else dead
       else
        if pc = 1414 then tz_aload 1415 0 else dead
     else
      if pc < 1418 then
       if pc < 1417 then
        if pc = 1415 then tz_iload 1417 4 else dead
       else
        if pc = 1417 then tz_const 1418 (.int (nI 3)) else dead
      else
       if pc < 1419 then
        if pc = 1418 then tz_i2 1419 (fun a b => a + b) else dead
       else
        if pc = 1419 then tz_iaload 1420 else dead
    else
     if pc < 1425 then
      if pc < 1423 then
       if pc < 1421 then
        if pc = 1420 then tz_aload 1421 0 else dead
       else
        if pc = 1421 then tz_iload 1423 4 else dead
      else
       if pc < 1424 then
        if pc = 1423 then tz_const 1424 (.int (nI 4)) else dead
       else
        if pc = 1424 then tz_i2 1425 (fun a b => a + b) else dead
     else
      if pc < 1429 then
       if pc < 1426 then
        if pc = 1425 then tz_iaload 1426 else dead
       else
        if pc = 1426 then tz_callV l G 1429 M_Mo_timeLeft 4 7 else dead
      else
       if pc < 1431 then
        if pc = 1429 then tz_istore 1431 6 else dead
       else
        if pc = 1431 then tz_aload 1432 2 else dead
   else
    if pc < 1448 then
     if pc < 1441 then
      if pc < 1437 then
       if pc < 1435 then
        if pc = 1432 then tz_pureV 1435 0 7 P_Mo_thrown f_Mo_thrown else dead
       else
        if pc = 1435 then tz_iload 1437 5 else dead
      else
       if pc < 1440 then
        if pc = 1437 then tz_icmp 1440 1442 (fun a b => a = b) else dead
       else
        if pc = 1440 then tz_const 1441 (.int (nI 0)) else dead
     else
      if pc < 1444 then
       if pc < 1442 then
        if pc = 1441 then tz_zret else dead
       else
        if pc = 1442 then tz_iload 1444 5 else dead
      else
       if pc < 1447 then
        if pc = 1444 then tz_if 1447 1459 (fun a => ¬ a = 0) else dead
       else
        if pc = 1447 then tz_aload 1448 3 else dead
    else
     if pc < 1453 then
      if pc < 1450 then
       if pc < 1449 then
        if pc = 1448 then tz_const 1449 (.int (nI 0)) else dead
       else
        if pc = 1449 then tz_laload 1450 else dead
      else
       if pc < 1452 then
        if pc = 1450 then tz_iload 1452 6 else dead
       else
        if pc = 1452 then tz_i2l 1453 else dead
     else
      if pc < 1457 then
       if pc < 1454 then
        if pc = 1453 then tz_lcmp 1454 else dead
       else
        if pc = 1454 then tz_if 1457 1459 (fun a => a = 0) else dead
      else
       if pc < 1458 then
        if pc = 1457 then tz_const 1458 (.int (nI 0)) else dead
       else
        if pc < 1459 then
         if pc = 1458 then tz_zret else dead
        else
         if pc = 1459 then tz_goto 1585 else dead
set_option maxRecDepth 100000 in
theorem tl_20 (l : Launch) (G : Gc) : TabOK l G M_Lw_law (kl_20 l G) := by
  intro pc
  unfold kl_20
  exact
   (sd_br
    (sd_br
     (sd_br
      (sd_br
       (sd_br
        (sd_br
         (sd_lf (sd_aload_n (k := 1) (by decide +kernel : decode code 1370 = .ok (.aload_n 1, 1))))
         (sd_lf (sd_aload_n (k := 0) (by decide +kernel : decode code 1371 = .ok (.aload_n 0, 1)))))
        (sd_br
         (sd_lf (sd_iload (by decide +kernel : decode code 1372 = .ok (.iload 4, 2))))
         (sd_lf (sd_iconst (by decide +kernel : decode code 1374 = .ok (.iconst 1, 1)) (by decide +kernel)))))
       (sd_br
        (sd_br
         (sd_lf (sd_iadd (by decide +kernel : decode code 1375 = .ok (.iadd, 1))))
         (sd_lf (sd_iaload (by decide +kernel : decode code 1376 = .ok (.iaload, 1)))))
        (sd_br
         (sd_lf (sd_aload_n (k := 0) (by decide +kernel : decode code 1377 = .ok (.aload_n 0, 1))))
         (sd_lf (sd_iload (by decide +kernel : decode code 1378 = .ok (.iload 4, 2)))))))
      (sd_br
       (sd_br
        (sd_br
         (sd_lf (sd_iconst (by decide +kernel : decode code 1380 = .ok (.iconst 2, 1)) (by decide +kernel)))
         (sd_lf (sd_iadd (by decide +kernel : decode code 1381 = .ok (.iadd, 1)))))
        (sd_br
         (sd_lf (sd_iaload (by decide +kernel : decode code 1382 = .ok (.iaload, 1))))
         (sd_lf (sd_aload_n (k := 0) (by decide +kernel : decode code 1383 = .ok (.aload_n 0, 1))))))
       (sd_br
        (sd_br
         (sd_lf (sd_iload (by decide +kernel : decode code 1384 = .ok (.iload 4, 2))))
         (sd_lf (sd_iconst (by decide +kernel : decode code 1386 = .ok (.iconst 3, 1)) (by decide +kernel))))
        (sd_br
         (sd_lf (sd_iadd (by decide +kernel : decode code 1387 = .ok (.iadd, 1))))
         (sd_lf (sd_iaload (by decide +kernel : decode code 1388 = .ok (.iaload, 1))))))))
     (sd_br
      (sd_br
       (sd_br
        (sd_br
         (sd_lf (sd_aload_n (k := 0) (by decide +kernel : decode code 1389 = .ok (.aload_n 0, 1))))
         (sd_lf (sd_iload (by decide +kernel : decode code 1390 = .ok (.iload 4, 2)))))
        (sd_br
         (sd_lf (sd_iconst (by decide +kernel : decode code 1392 = .ok (.iconst 4, 1)) (by decide +kernel)))
         (sd_lf (sd_iadd (by decide +kernel : decode code 1393 = .ok (.iadd, 1))))))
       (sd_br
        (sd_br
         (sd_lf (sd_iaload (by decide +kernel : decode code 1394 = .ok (.iaload, 1))))
         (sd_lf (sd_aload_n (k := 3) (by decide +kernel : decode code 1395 = .ok (.aload_n 3, 1)))))
        (sd_br
         (sd_lf (sd_callSH (by decide +kernel : decode code 1396 = .ok (.invokestatic 156, 3)) ok_Lw_timeLeft (gm 880 (by decide +kernel) rfl) (gm 881 (by decide +kernel) rfl) (by decide +kernel) rfl))
         (sd_lf (sd_istore (by decide +kernel : decode code 1399 = .ok (.istore 5, 2)))))))
      (sd_br
       (sd_br
        (sd_br
         (sd_lf (sd_aload_n (k := 2) (by decide +kernel : decode code 1401 = .ok (.aload_n 2, 1))))
         (sd_lf (sd_aload_n (k := 0) (by decide +kernel : decode code 1402 = .ok (.aload_n 0, 1)))))
        (sd_br
         (sd_lf (sd_iload (by decide +kernel : decode code 1403 = .ok (.iload 4, 2))))
         (sd_lf (sd_iconst (by decide +kernel : decode code 1405 = .ok (.iconst 1, 1)) (by decide +kernel)))))
       (sd_br
        (sd_br
         (sd_lf (sd_iadd (by decide +kernel : decode code 1406 = .ok (.iadd, 1))))
         (sd_lf (sd_iaload (by decide +kernel : decode code 1407 = .ok (.iaload, 1)))))
        (sd_br
         (sd_lf (sd_aload_n (k := 0) (by decide +kernel : decode code 1408 = .ok (.aload_n 0, 1))))
         (sd_lf (sd_iload (by decide +kernel : decode code 1409 = .ok (.iload 4, 2)))))))))
    (sd_br
     (sd_br
      (sd_br
       (sd_br
        (sd_br
         (sd_lf (sd_iconst (by decide +kernel : decode code 1411 = .ok (.iconst 2, 1)) (by decide +kernel)))
         (sd_lf (sd_iadd (by decide +kernel : decode code 1412 = .ok (.iadd, 1)))))
        (sd_br
         (sd_lf (sd_iaload (by decide +kernel : decode code 1413 = .ok (.iaload, 1))))
         (sd_lf (sd_aload_n (k := 0) (by decide +kernel : decode code 1414 = .ok (.aload_n 0, 1))))))
       (sd_br
        (sd_br
         (sd_lf (sd_iload (by decide +kernel : decode code 1415 = .ok (.iload 4, 2))))
         (sd_lf (sd_iconst (by decide +kernel : decode code 1417 = .ok (.iconst 3, 1)) (by decide +kernel))))
        (sd_br
         (sd_lf (sd_iadd (by decide +kernel : decode code 1418 = .ok (.iadd, 1))))
         (sd_lf (sd_iaload (by decide +kernel : decode code 1419 = .ok (.iaload, 1)))))))
      (sd_br
       (sd_br
        (sd_br
         (sd_lf (sd_aload_n (k := 0) (by decide +kernel : decode code 1420 = .ok (.aload_n 0, 1))))
         (sd_lf (sd_iload (by decide +kernel : decode code 1421 = .ok (.iload 4, 2)))))
        (sd_br
         (sd_lf (sd_iconst (by decide +kernel : decode code 1423 = .ok (.iconst 4, 1)) (by decide +kernel)))
         (sd_lf (sd_iadd (by decide +kernel : decode code 1424 = .ok (.iadd, 1))))))
       (sd_br
        (sd_br
         (sd_lf (sd_iaload (by decide +kernel : decode code 1425 = .ok (.iaload, 1))))
         (sd_lf (sd_callV (q := (RX7, TX7, 16)) (by decide +kernel : decode code 1426 = .ok (.invokevirtual 158, 3)) ok_Mo_timeLeft (gm 1227 (by decide +kernel) rfl) (gm 1228 (by decide +kernel) rfl) (gm 1229 (by decide +kernel) rfl) rfl rfl (by decide +kernel) rfl rfl)))
        (sd_br
         (sd_lf (sd_istore (by decide +kernel : decode code 1429 = .ok (.istore 6, 2))))
         (sd_lf (sd_aload_n (k := 2) (by decide +kernel : decode code 1431 = .ok (.aload_n 2, 1))))))))
     (sd_br
      (sd_br
       (sd_br
        (sd_br
         (sd_lf (sd_pureV (sd_callV (q := (RX7, TX7, 16)) (by decide +kernel : decode code 1432 = .ok (.invokevirtual 90, 3)) ok_Mo_thrown (gm 962 (by decide +kernel) rfl) (gm 963 (by decide +kernel) rfl) (gm 964 (by decide +kernel) rfl) rfl rfl (by decide +kernel) rfl rfl) c_Mo_thrown))
         (sd_lf (sd_iload (by decide +kernel : decode code 1435 = .ok (.iload 5, 2)))))
        (sd_br
         (sd_lf (sd_icmp_eq (by decide +kernel : decode code 1437 = .ok (.if_icmp .eq 5, 3)) (by decide +kernel)))
         (sd_lf (sd_iconst (by decide +kernel : decode code 1440 = .ok (.iconst 0, 1)) (by decide +kernel)))))
       (sd_br
        (sd_br
         (sd_lf (sd_zret (by decide +kernel : decode code 1441 = .ok (.ireturn, 1)) rfl))
         (sd_lf (sd_iload (by decide +kernel : decode code 1442 = .ok (.iload 5, 2)))))
        (sd_br
         (sd_lf (sd_if_ne (by decide +kernel : decode code 1444 = .ok (.ifCond .ne 15, 3)) (by decide +kernel)))
         (sd_lf (sd_aload_n (k := 3) (by decide +kernel : decode code 1447 = .ok (.aload_n 3, 1)))))))
      (sd_br
       (sd_br
        (sd_br
         (sd_lf (sd_iconst (by decide +kernel : decode code 1448 = .ok (.iconst 0, 1)) (by decide +kernel)))
         (sd_lf (sd_laload (by decide +kernel : decode code 1449 = .ok (.laload, 1)))))
        (sd_br
         (sd_lf (sd_iload (by decide +kernel : decode code 1450 = .ok (.iload 6, 2))))
         (sd_lf (sd_i2l (by decide +kernel : decode code 1452 = .ok (.i2l, 1))))))
       (sd_br
        (sd_br
         (sd_lf (sd_lcmp (by decide +kernel : decode code 1453 = .ok (.lcmp, 1))))
         (sd_lf (sd_if_eq (by decide +kernel : decode code 1454 = .ok (.ifCond .eq 5, 3)) (by decide +kernel))))
        (sd_br
         (sd_lf (sd_iconst (by decide +kernel : decode code 1457 = .ok (.iconst 0, 1)) (by decide +kernel)))
         (sd_br
          (sd_lf (sd_zret (by decide +kernel : decode code 1458 = .ok (.ireturn, 1)) rfl))
          (sd_lf (sd_goto (by decide +kernel : decode code 1459 = .ok (.goto 126, 3)) (by decide +kernel))))))))))
def kl_21 (l : Launch) (G : Gc) (pc : Nat) : Tr :=
  if pc < 1491 then
   if pc < 1475 then
    if pc < 1468 then
     if pc < 1464 then
      if pc < 1463 then
       if pc = 1462 then tz_aload 1463 1 else dead
      else
       if pc = 1463 then tz_aload 1464 0 else dead
     else
      if pc < 1466 then
       if pc = 1464 then tz_iload 1466 4 else dead
      else
       if pc < 1467 then
        if pc = 1466 then tz_const 1467 (.int (nI 1)) else dead
       else
        if pc = 1467 then tz_i2 1468 (fun a b => a + b) else dead
    else
     if pc < 1472 then
      if pc < 1469 then
       if pc = 1468 then tz_iaload 1469 else dead
      else
       if pc < 1470 then
        if pc = 1469 then tz_aload 1470 0 else dead
       else
        if pc = 1470 then tz_iload 1472 4 else dead
     else
      if pc < 1473 then
       if pc = 1472 then tz_const 1473 (.int (nI 2)) else dead
      else
       if pc < 1474 then
        if pc = 1473 then tz_i2 1474 (fun a b => a + b) else dead
       else
        if pc = 1474 then tz_iaload 1475 else dead
   else
    if pc < 1483 then
     if pc < 1479 then
      if pc < 1476 then
       if pc = 1475 then tz_aload 1476 3 else dead
      else
       if pc = 1476 then tz_callR l G 1479 M_Lw_common 4 else dead
     else
      if pc < 1481 then
       if pc = 1479 then tz_istore 1481 5 else dead
      else
       if pc < 1482 then
        if pc = 1481 then tz_aload 1482 2 else dead
       else
        if pc = 1482 then tz_aload 1483 0 else dead
    else
     if pc < 1487 then
      if pc < 1485 then
       if pc = 1483 then tz_iload 1485 4 else dead
      else
       if pc < 1486 then
        if pc = 1485 then tz_const 1486 (.int (nI 1)) else dead
       else
        if pc = 1486 then tz_i2 1487 (fun a b => a + b) else dead
     else
      if pc < 1488 then
       if pc = 1487 then tz_iaload 1488 else dead
      else
       if pc < 1489 then
        if pc = 1488 then tz_aload 1489 0 else dead
       else
        if pc = 1489 then tz_iload 1491 4 else dead
  else
   if pc < 1510 then
    if pc < 1499 then
     if pc < 1493 then
      if pc < 1492 then
       if pc = 1491 then tz_const 1492 (.int (nI 2)) else dead
      else
       if pc = 1492 then tz_i2 1493 (fun a b => a + b) else dead
     else
      if pc < 1494 then
       if pc = 1493 then tz_iaload 1494 else dead
      else
       if pc < 1497 then
        if pc = 1494 then tz_callV l G 1497 M_Mo_common 2 7 else dead
       else
        if pc = 1497 then tz_istore 1499 6 else dead
    else
     if pc < 1505 then
      if pc < 1500 then
       if pc = 1499 then tz_aload 1500 2 else dead
      else
       if pc < 1503 then
        if pc = 1500 then tz_pureV 1503 0 7 P_Mo_thrown f_Mo_thrown else dead
       else
        if pc = 1503 then tz_iload 1505 5 else dead
     else
      if pc < 1508 then
       if pc = 1505 then tz_icmp 1508 1510 (fun a b => a = b) else dead
      else
       if pc < 1509 then
        if pc = 1508 then tz_const 1509 (.int (nI 0)) else dead
       else
        if pc = 1509 then tz_zret else dead
   else
    if pc < 1520 then
     if pc < 1516 then
      if pc < 1512 then
       if pc = 1510 then tz_iload 1512 5 else dead
      else
       if pc < 1515 then
        if pc = 1512 then tz_if 1515 1527 (fun a => ¬ a = 0) else dead
       else
        if pc = 1515 then tz_aload 1516 3 else dead
     else
      if pc < 1517 then
       if pc = 1516 then tz_const 1517 (.int (nI 0)) else dead
      else
       if pc < 1518 then
        if pc = 1517 then tz_laload 1518 else dead
       else
        if pc = 1518 then tz_iload 1520 6 else dead
    else
     if pc < 1525 then
      if pc < 1521 then
       if pc = 1520 then tz_i2l 1521 else dead
      else
       if pc < 1522 then
        if pc = 1521 then tz_lcmp 1522 else dead
       else
        if pc = 1522 then tz_if 1525 1527 (fun a => a = 0) else dead
     else
      if pc < 1526 then
       if pc = 1525 then tz_const 1526 (.int (nI 0)) else dead
      else
       if pc < 1527 then
        if pc = 1526 then tz_zret else dead
       else
        if pc = 1527 then tz_goto 1585 else dead
set_option maxRecDepth 100000 in
theorem tl_21 (l : Launch) (G : Gc) : TabOK l G M_Lw_law (kl_21 l G) := by
  intro pc
  unfold kl_21
  exact
   (sd_br
    (sd_br
     (sd_br
      (sd_br
       (sd_br
        (sd_lf (sd_aload_n (k := 1) (by decide +kernel : decode code 1462 = .ok (.aload_n 1, 1))))
        (sd_lf (sd_aload_n (k := 0) (by decide +kernel : decode code 1463 = .ok (.aload_n 0, 1)))))
       (sd_br
        (sd_lf (sd_iload (by decide +kernel : decode code 1464 = .ok (.iload 4, 2))))
        (sd_br
         (sd_lf (sd_iconst (by decide +kernel : decode code 1466 = .ok (.iconst 1, 1)) (by decide +kernel)))
         (sd_lf (sd_iadd (by decide +kernel : decode code 1467 = .ok (.iadd, 1)))))))
      (sd_br
       (sd_br
        (sd_lf (sd_iaload (by decide +kernel : decode code 1468 = .ok (.iaload, 1))))
        (sd_br
         (sd_lf (sd_aload_n (k := 0) (by decide +kernel : decode code 1469 = .ok (.aload_n 0, 1))))
         (sd_lf (sd_iload (by decide +kernel : decode code 1470 = .ok (.iload 4, 2))))))
       (sd_br
        (sd_lf (sd_iconst (by decide +kernel : decode code 1472 = .ok (.iconst 2, 1)) (by decide +kernel)))
        (sd_br
         (sd_lf (sd_iadd (by decide +kernel : decode code 1473 = .ok (.iadd, 1))))
         (sd_lf (sd_iaload (by decide +kernel : decode code 1474 = .ok (.iaload, 1))))))))
     (sd_br
      (sd_br
       (sd_br
        (sd_lf (sd_aload_n (k := 3) (by decide +kernel : decode code 1475 = .ok (.aload_n 3, 1))))
        (sd_lf (sd_callSH (by decide +kernel : decode code 1476 = .ok (.invokestatic 159, 3)) ok_Lw_common (gm 895 (by decide +kernel) rfl) (gm 896 (by decide +kernel) rfl) (by decide +kernel) rfl)))
       (sd_br
        (sd_lf (sd_istore (by decide +kernel : decode code 1479 = .ok (.istore 5, 2))))
        (sd_br
         (sd_lf (sd_aload_n (k := 2) (by decide +kernel : decode code 1481 = .ok (.aload_n 2, 1))))
         (sd_lf (sd_aload_n (k := 0) (by decide +kernel : decode code 1482 = .ok (.aload_n 0, 1)))))))
      (sd_br
       (sd_br
        (sd_lf (sd_iload (by decide +kernel : decode code 1483 = .ok (.iload 4, 2))))
        (sd_br
         (sd_lf (sd_iconst (by decide +kernel : decode code 1485 = .ok (.iconst 1, 1)) (by decide +kernel)))
         (sd_lf (sd_iadd (by decide +kernel : decode code 1486 = .ok (.iadd, 1))))))
       (sd_br
        (sd_lf (sd_iaload (by decide +kernel : decode code 1487 = .ok (.iaload, 1))))
        (sd_br
         (sd_lf (sd_aload_n (k := 0) (by decide +kernel : decode code 1488 = .ok (.aload_n 0, 1))))
         (sd_lf (sd_iload (by decide +kernel : decode code 1489 = .ok (.iload 4, 2)))))))))
    (sd_br
     (sd_br
      (sd_br
       (sd_br
        (sd_lf (sd_iconst (by decide +kernel : decode code 1491 = .ok (.iconst 2, 1)) (by decide +kernel)))
        (sd_lf (sd_iadd (by decide +kernel : decode code 1492 = .ok (.iadd, 1)))))
       (sd_br
        (sd_lf (sd_iaload (by decide +kernel : decode code 1493 = .ok (.iaload, 1))))
        (sd_br
         (sd_lf (sd_callV (q := (RX7, TX7, 16)) (by decide +kernel : decode code 1494 = .ok (.invokevirtual 161, 3)) ok_Mo_common (gm 1235 (by decide +kernel) rfl) (gm 1236 (by decide +kernel) rfl) (gm 1237 (by decide +kernel) rfl) rfl rfl (by decide +kernel) rfl rfl))
         (sd_lf (sd_istore (by decide +kernel : decode code 1497 = .ok (.istore 6, 2)))))))
      (sd_br
       (sd_br
        (sd_lf (sd_aload_n (k := 2) (by decide +kernel : decode code 1499 = .ok (.aload_n 2, 1))))
        (sd_br
         (sd_lf (sd_pureV (sd_callV (q := (RX7, TX7, 16)) (by decide +kernel : decode code 1500 = .ok (.invokevirtual 90, 3)) ok_Mo_thrown (gm 962 (by decide +kernel) rfl) (gm 963 (by decide +kernel) rfl) (gm 964 (by decide +kernel) rfl) rfl rfl (by decide +kernel) rfl rfl) c_Mo_thrown))
         (sd_lf (sd_iload (by decide +kernel : decode code 1503 = .ok (.iload 5, 2))))))
       (sd_br
        (sd_lf (sd_icmp_eq (by decide +kernel : decode code 1505 = .ok (.if_icmp .eq 5, 3)) (by decide +kernel)))
        (sd_br
         (sd_lf (sd_iconst (by decide +kernel : decode code 1508 = .ok (.iconst 0, 1)) (by decide +kernel)))
         (sd_lf (sd_zret (by decide +kernel : decode code 1509 = .ok (.ireturn, 1)) rfl))))))
     (sd_br
      (sd_br
       (sd_br
        (sd_lf (sd_iload (by decide +kernel : decode code 1510 = .ok (.iload 5, 2))))
        (sd_br
         (sd_lf (sd_if_ne (by decide +kernel : decode code 1512 = .ok (.ifCond .ne 15, 3)) (by decide +kernel)))
         (sd_lf (sd_aload_n (k := 3) (by decide +kernel : decode code 1515 = .ok (.aload_n 3, 1))))))
       (sd_br
        (sd_lf (sd_iconst (by decide +kernel : decode code 1516 = .ok (.iconst 0, 1)) (by decide +kernel)))
        (sd_br
         (sd_lf (sd_laload (by decide +kernel : decode code 1517 = .ok (.laload, 1))))
         (sd_lf (sd_iload (by decide +kernel : decode code 1518 = .ok (.iload 6, 2)))))))
      (sd_br
       (sd_br
        (sd_lf (sd_i2l (by decide +kernel : decode code 1520 = .ok (.i2l, 1))))
        (sd_br
         (sd_lf (sd_lcmp (by decide +kernel : decode code 1521 = .ok (.lcmp, 1))))
         (sd_lf (sd_if_eq (by decide +kernel : decode code 1522 = .ok (.ifCond .eq 5, 3)) (by decide +kernel)))))
       (sd_br
        (sd_lf (sd_iconst (by decide +kernel : decode code 1525 = .ok (.iconst 0, 1)) (by decide +kernel)))
        (sd_br
         (sd_lf (sd_zret (by decide +kernel : decode code 1526 = .ok (.ireturn, 1)) rfl))
         (sd_lf (sd_goto (by decide +kernel : decode code 1527 = .ok (.goto 58, 3)) (by decide +kernel)))))))))
def kl_22 (l : Launch) (G : Gc) (pc : Nat) : Tr :=
  if pc < 1550 then
   if pc < 1540 then
    if pc < 1534 then
     if pc < 1531 then
      if pc = 1530 then tz_aload 1531 1 else dead
     else
      if pc = 1531 then tz_callV l G 1534 M_Hp_delivery 0 6 else dead
    else
     if pc < 1536 then
      if pc = 1534 then tz_dstore 1536 5 else dead
     else
      if pc < 1537 then
       if pc = 1536 then tz_aload 1537 2 else dead
      else
       if pc = 1537 then tz_callV l G 1540 M_Mo_delivery 0 7 else dead
   else
    if pc < 1544 then
     if pc < 1542 then
      if pc = 1540 then tz_dstore 1542 7 else dead
     else
      if pc = 1542 then tz_dload 1544 5 else dead
    else
     if pc < 1546 then
      if pc = 1544 then tz_dload 1546 7 else dead
     else
      if pc < 1547 then
       if pc = 1546 then tz_dcmp 1547 .l else dead
      else
       if pc = 1547 then tz_if 1550 1568 (fun a => a = 0) else dead
  else
   if pc < 1560 then
    if pc < 1554 then
     if pc < 1552 then
      if pc = 1550 then tz_dload 1552 5 else dead
     else
      if pc = 1552 then tz_dload 1554 5 else dead
    else
     if pc < 1555 then
      if pc = 1554 then tz_dcmp 1555 .l else dead
     else
      if pc < 1558 then
       if pc = 1555 then tz_if 1558 1566 (fun a => a = 0) else dead
      else
       if pc = 1558 then tz_dload 1560 7 else dead
   else
    if pc < 1566 then
     if pc < 1562 then
      if pc = 1560 then tz_dload 1562 7 else dead
     else
      if pc < 1563 then
       if pc = 1562 then tz_dcmp 1563 .l else dead
      else
       if pc = 1563 then tz_if 1566 1568 (fun a => ¬ a = 0) else dead
    else
     if pc < 1567 then
      if pc = 1566 then tz_const 1567 (.int (nI 0)) else dead
     else
      if pc < 1568 then
       if pc = 1567 then tz_zret else dead
      else
       if pc = 1568 then tz_goto 1585 else dead
set_option maxRecDepth 100000 in
theorem tl_22 (l : Launch) (G : Gc) : TabOK l G M_Lw_law (kl_22 l G) := by
  intro pc
  unfold kl_22
  exact
   (sd_br
    (sd_br
     (sd_br
      (sd_br
       (sd_lf (sd_aload_n (k := 1) (by decide +kernel : decode code 1530 = .ok (.aload_n 1, 1))))
       (sd_lf (sd_callV (q := (RX6, TX6, 7)) (by decide +kernel : decode code 1531 = .ok (.invokevirtual 162, 3)) ok_Hp_delivery (gm 393 (by decide +kernel) rfl) (gm 394 (by decide +kernel) rfl) (gm 395 (by decide +kernel) rfl) rfl rfl (by decide +kernel) rfl rfl)))
      (sd_br
       (sd_lf (sd_dstore (by decide +kernel : decode code 1534 = .ok (.dstore 5, 2))))
       (sd_br
        (sd_lf (sd_aload_n (k := 2) (by decide +kernel : decode code 1536 = .ok (.aload_n 2, 1))))
        (sd_lf (sd_callV (q := (RX7, TX7, 16)) (by decide +kernel : decode code 1537 = .ok (.invokevirtual 166, 3)) ok_Mo_delivery (gm 1243 (by decide +kernel) rfl) (gm 1244 (by decide +kernel) rfl) (gm 1245 (by decide +kernel) rfl) rfl rfl (by decide +kernel) rfl rfl)))))
     (sd_br
      (sd_br
       (sd_lf (sd_dstore (by decide +kernel : decode code 1540 = .ok (.dstore 7, 2))))
       (sd_lf (sd_dload (by decide +kernel : decode code 1542 = .ok (.dload 5, 2)))))
      (sd_br
       (sd_lf (sd_dload (by decide +kernel : decode code 1544 = .ok (.dload 7, 2))))
       (sd_br
        (sd_lf (sd_dcmp (by decide +kernel : decode code 1546 = .ok (.dcmp .l, 1))))
        (sd_lf (sd_if_eq (by decide +kernel : decode code 1547 = .ok (.ifCond .eq 21, 3)) (by decide +kernel)))))))
    (sd_br
     (sd_br
      (sd_br
       (sd_lf (sd_dload (by decide +kernel : decode code 1550 = .ok (.dload 5, 2))))
       (sd_lf (sd_dload (by decide +kernel : decode code 1552 = .ok (.dload 5, 2)))))
      (sd_br
       (sd_lf (sd_dcmp (by decide +kernel : decode code 1554 = .ok (.dcmp .l, 1))))
       (sd_br
        (sd_lf (sd_if_eq (by decide +kernel : decode code 1555 = .ok (.ifCond .eq 11, 3)) (by decide +kernel)))
        (sd_lf (sd_dload (by decide +kernel : decode code 1558 = .ok (.dload 7, 2)))))))
     (sd_br
      (sd_br
       (sd_lf (sd_dload (by decide +kernel : decode code 1560 = .ok (.dload 7, 2))))
       (sd_br
        (sd_lf (sd_dcmp (by decide +kernel : decode code 1562 = .ok (.dcmp .l, 1))))
        (sd_lf (sd_if_ne (by decide +kernel : decode code 1563 = .ok (.ifCond .ne 5, 3)) (by decide +kernel)))))
      (sd_br
       (sd_lf (sd_iconst (by decide +kernel : decode code 1566 = .ok (.iconst 0, 1)) (by decide +kernel)))
       (sd_br
        (sd_lf (sd_zret (by decide +kernel : decode code 1567 = .ok (.ireturn, 1)) rfl))
        (sd_lf (sd_goto (by decide +kernel : decode code 1568 = .ok (.goto 17, 3)) (by decide +kernel))))))))
def kl_23 (l : Launch) (G : Gc) (pc : Nat) : Tr :=
  if pc < 1579 then
   if pc < 1575 then
    if pc < 1572 then
     if pc = 1571 then tz_aload 1572 1 else dead
    else
     if pc = 1572 then tz_callV l G 1575 M_Hp_digest 0 6 else dead
   else
    if pc < 1576 then
     if pc = 1575 then tz_aload 1576 2 else dead
    else
     if pc = 1576 then tz_callV l G 1579 M_Mo_digest 0 7 else dead
  else
   if pc < 1583 then
    if pc < 1580 then
     if pc = 1579 then tz_lcmp 1580 else dead
    else
     if pc = 1580 then tz_if 1583 1585 (fun a => a = 0) else dead
   else
    if pc < 1584 then
     if pc = 1583 then tz_const 1584 (.int (nI 0)) else dead
    else
     if pc = 1584 then tz_zret else dead
set_option maxRecDepth 100000 in
theorem tl_23 (l : Launch) (G : Gc) : TabOK l G M_Lw_law (kl_23 l G) := by
  intro pc
  unfold kl_23
  exact
   (sd_br
    (sd_br
     (sd_br
      (sd_lf (sd_aload_n (k := 1) (by decide +kernel : decode code 1571 = .ok (.aload_n 1, 1))))
      (sd_lf (sd_callV (q := (RX6, TX6, 7)) (by decide +kernel : decode code 1572 = .ok (.invokevirtual 167, 3)) ok_Hp_digest (gm 397 (by decide +kernel) rfl) (gm 398 (by decide +kernel) rfl) (gm 399 (by decide +kernel) rfl) rfl rfl (by decide +kernel) rfl rfl)))
     (sd_br
      (sd_lf (sd_aload_n (k := 2) (by decide +kernel : decode code 1575 = .ok (.aload_n 2, 1))))
      (sd_lf (sd_callV (q := (RX7, TX7, 16)) (by decide +kernel : decode code 1576 = .ok (.invokevirtual 171, 3)) ok_Mo_digest (gm 1247 (by decide +kernel) rfl) (gm 1248 (by decide +kernel) rfl) (gm 1249 (by decide +kernel) rfl) rfl rfl (by decide +kernel) rfl rfl))))
    (sd_br
     (sd_br
      (sd_lf (sd_lcmp (by decide +kernel : decode code 1579 = .ok (.lcmp, 1))))
      (sd_lf (sd_if_eq (by decide +kernel : decode code 1580 = .ok (.ifCond .eq 5, 3)) (by decide +kernel))))
     (sd_br
      (sd_lf (sd_iconst (by decide +kernel : decode code 1583 = .ok (.iconst 0, 1)) (by decide +kernel)))
      (sd_lf (sd_zret (by decide +kernel : decode code 1584 = .ok (.ireturn, 1)) rfl)))))
def kl_e (l : Launch) (G : Gc) (pc : Nat) : Tr :=
  if pc < 1591 then
   if pc < 1588 then
    if pc = 1585 then tz_iinc 1588 4 (nI 7) else dead
   else
    if pc = 1588 then tz_goto 23 else dead
  else
   if pc < 1592 then
    if pc = 1591 then tz_const 1592 (.int (nI 1)) else dead
   else
    if pc = 1592 then tz_zret else dead
set_option maxRecDepth 100000 in
theorem tl_e (l : Launch) (G : Gc) : TabOK l G M_Lw_law (kl_e l G) := by
  intro pc
  unfold kl_e
  exact
   (sd_br
    (sd_br
     (sd_lf (sd_iinc (by decide +kernel : decode code 1585 = .ok (.iinc 4 7, 3)) (by decide +kernel)))
     (sd_lf (sd_goto (by decide +kernel : decode code 1588 = .ok (.goto (-1565), 3)) (by decide +kernel))))
    (sd_br
     (sd_lf (sd_iconst (by decide +kernel : decode code 1591 = .ok (.iconst 1, 1)) (by decide +kernel)))
     (sd_lf (sd_zret (by decide +kernel : decode code 1592 = .ok (.ireturn, 1)) rfl))))
def k_Lw_law (l : Launch) (G : Gc) (pc : Nat) : Tr :=
  if pc < 724 then
   if pc < 449 then
    if pc < 221 then
     if pc < 152 then
      kl_h l G pc
     else
      if pc < 165 then
       kl_0 l G pc
      else
       kl_1 l G pc
    else
     if pc < 313 then
      kl_2 l G pc
     else
      if pc < 393 then
       kl_3 l G pc
      else
       kl_4 l G pc
   else
    if pc < 562 then
     if pc < 462 then
      kl_5 l G pc
     else
      if pc < 506 then
       kl_6 l G pc
      else
       kl_7 l G pc
    else
     if pc < 588 then
      if pc < 575 then
       kl_8 l G pc
      else
       kl_9 l G pc
     else
      if pc < 632 then
       kl_10 l G pc
      else
       kl_11 l G pc
  else
   if pc < 1222 then
    if pc < 1006 then
     if pc < 780 then
      kl_12 l G pc
     else
      if pc < 898 then
       kl_13 l G pc
      else
       kl_14 l G pc
    else
     if pc < 1098 then
      kl_15 l G pc
     else
      if pc < 1154 then
       kl_16 l G pc
      else
       kl_17 l G pc
   else
    if pc < 1462 then
     if pc < 1290 then
      kl_18 l G pc
     else
      if pc < 1370 then
       kl_19 l G pc
      else
       kl_20 l G pc
    else
     if pc < 1571 then
      if pc < 1530 then
       kl_21 l G pc
      else
       kl_22 l G pc
     else
      if pc < 1585 then
       kl_23 l G pc
      else
       kl_e l G pc
theorem T_Lw_law (l : Launch) (G : Gc) : TabOK l G M_Lw_law (k_Lw_law l G) := by
  intro pc
  unfold k_Lw_law
  exact
   (sd_br
    (sd_br
     (sd_br
      (sd_br
       (tl_h l G pc)
       (sd_br
        (tl_0 l G pc)
        (tl_1 l G pc)))
      (sd_br
       (tl_2 l G pc)
       (sd_br
        (tl_3 l G pc)
        (tl_4 l G pc))))
     (sd_br
      (sd_br
       (tl_5 l G pc)
       (sd_br
        (tl_6 l G pc)
        (tl_7 l G pc)))
      (sd_br
       (sd_br
        (tl_8 l G pc)
        (tl_9 l G pc))
       (sd_br
        (tl_10 l G pc)
        (tl_11 l G pc)))))
    (sd_br
     (sd_br
      (sd_br
       (tl_12 l G pc)
       (sd_br
        (tl_13 l G pc)
        (tl_14 l G pc)))
      (sd_br
       (tl_15 l G pc)
       (sd_br
        (tl_16 l G pc)
        (tl_17 l G pc))))
     (sd_br
      (sd_br
       (tl_18 l G pc)
       (sd_br
        (tl_19 l G pc)
        (tl_20 l G pc)))
      (sd_br
       (sd_br
        (tl_21 l G pc)
        (tl_22 l G pc))
       (sd_br
        (tl_23 l G pc)
        (tl_e l G pc))))))

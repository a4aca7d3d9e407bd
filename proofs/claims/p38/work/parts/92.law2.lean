/-! the law's turns, 2: nest, rules, bar, word, read -/
section
variable {T S : am_T} {o : Nat → Int64} {n m v t c : Nat}
theorem nest_t (h : qR T S o n m v t c) {l q : Nat} (hl : l < n) (hq : q < n) (hb : (S 5 l >>> (nI q &&& 31)) &&& 1 = 1) : bt (T 13 l) q = true := by
  have h4 := h.1.1.2.2.1
  rw [(h.1.2.2.2.1.2 l hl).1]
  exact (bt_iff (by omega)).mp hb
theorem nest_f (h : qR T S o n m v t c) {l q : Nat} (hl : l < n) (hq : q < n) (hb : ¬ (S 5 l >>> (nI q &&& 31)) &&& 1 = 1) : bt (T 13 l) q = false := by
  have h4 := h.1.1.2.2.1
  rw [(h.1.2.2.2.1.2 l hl).1]
  exact bt_false.mp (fun h9 => hb ((bt_iff (by omega)).mpr h9))
theorem down_t (h : qR T S o n m v t c) {l q : Nat} (hl : l < n) (hq : q < n) (hb : (lWin S q >>> (nI l &&& 31)) &&& 1 = 1) : bt (tDown T n q) l = true := by
  have h4 := h.1.1.2.2.1
  rw [← qB_win h.1 hq]
  exact (bt_iff (by omega)).mp hb
theorem down_f (h : qR T S o n m v t c) {l q : Nat} (hl : l < n) (hq : q < n) (hb : ¬ (lWin S q >>> (nI l &&& 31)) &&& 1 = 1) : bt (tDown T n q) l = false := by
  have h4 := h.1.1.2.2.1
  rw [← qB_win h.1 hq]
  exact bt_false.mp (fun h9 => hb ((bt_iff (by omega)).mpr h9))
theorem bar_ans (h : qR T S o n m v t c) {l p : Nat} {x : Int32} (hl : l < n) (hp : p < 8) : zb (bt (T 14 l ^^^ x) p) = ((S 4 l ^^^ x) >>> (nI p &&& 31)) &&& 1 := by
  rw [and1_b (by omega), (h.1.2.2.1 l hl).2.2.2.2.2.2.2]
theorem zb_01 {x : Int32} {p : Nat} (hp : p < 32) : ¬ (x >>> (nI p &&& 31)) &&& 1 = 1 → (x >>> (nI p &&& 31)) &&& 1 = 0 := by
  rw [and1_b hp]
  cases bt x p <;> decide
theorem nI_btw {z a b : Nat} (h1 : a ≤ z) (h2 : z ≤ b) (hb : b < 2 ^ 31) : nI a ≤ nI z ∧ nI z ≤ nI b := ⟨nI_le h1 (by omega), nI_le h2 hb⟩
theorem word_rng : ∀ z, z < 31 → (-20 : Int32) ≤ nI z - 10 ∧ nI z - 10 ≤ (50 : Int32) := by decide +kernel
theorem box_pos (h : qR T S o n m v t c) {p : Nat} (hp : p < 8) (h0 : ¬ S 33 p = 0) : ∃ b, b < 10 ∧ S 33 p = nI (b + 1) := by
  obtain ⟨_, _, _, _, _, _, _, b, hb, e, _⟩ := h.1.2.1.1 p hp
  cases b with
  | zero => exact absurd e h0
  | succ b => exact ⟨b, by omega, e⟩
theorem box_t (h : qR T S o n m v t c) {p : Nat} (hp : p < 8) : T 8 p = S 33 p := (h.1.2.1.1 p hp).2.2.2.2.2.2.1
end
theorem dL_law_1392 : decode code 1392 = .ok (.if_icmp .ne 189, 3) := by decide +kernel
theorem dL_law_1585 : decode code 1585 = .ok (.if_icmp .ge 272, 3) := by decide +kernel
theorem dL_law_1861 : decode code 1861 = .ok (.if_icmp .ge 456, 3) := by decide +kernel
theorem dL_law_2321 : decode code 2321 = .ok (.if_icmp .ne 74, 3) := by decide +kernel
theorem dL_law_2332 : decode code 2332 = .ok (.iaload, 1) := by decide +kernel
theorem dL_law_2333 : decode code 2333 = .ok (.ifCond .ne 7, 3) := by decide +kernel
theorem dL_law_2344 : decode code 2344 = .ok (.laload, 1) := by decide +kernel
theorem dL_law_2345 : decode code 2345 = .ok (.ldc2_w 103, 3) := by decide +kernel
theorem dL_law_2354 : decode code 2354 = .ok (.ifCond .lt 25, 3) := by decide +kernel
theorem dL_law_2362 : decode code 2362 = .ok (.laload, 1) := by decide +kernel
theorem dL_law_2365 : decode code 2365 = .ok (.lastore, 1) := by decide +kernel
theorem dL_law_2375 : decode code 2375 = .ok (.iaload, 1) := by decide +kernel
theorem dL_law_2378 : decode code 2378 = .ok (.iastore, 1) := by decide +kernel
theorem dL_law_2382 : decode code 2382 = .ok (.invokevirtual 155, 3) := by decide +kernel
theorem dL_law_2387 : decode code 2387 = .ok (.if_icmp .eq 5, 3) := by decide +kernel
theorem dL_law_603 : decode code 603 = .ok (.if_icmp .ge 112, 3) := by decide +kernel
theorem dL_law_614 : decode code 614 = .ok (.iaload, 1) := by decide +kernel
theorem dL_law_615 : decode code 615 = .ok (.invokestatic 131, 3) := by decide +kernel
theorem dL_law_628 : decode code 628 = .ok (.iaload, 1) := by decide +kernel
theorem dL_law_635 : decode code 635 = .ok (.if_icmp .ne 7, 3) := by decide +kernel
theorem dL_law_647 : decode code 647 = .ok (.ifCond .ne 34, 3) := by decide +kernel
theorem dL_law_653 : decode code 653 = .ok (.invokestatic 10, 3) := by decide +kernel
theorem dL_law_662 : decode code 662 = .ok (.if_icmp .ne 19, 3) := by decide +kernel
theorem dL_law_672 : decode code 672 = .ok (.invokestatic 137, 3) := by decide +kernel
theorem dL_law_676 : decode code 676 = .ok (.if_icmp .eq 1950, 3) := by decide +kernel
theorem dL_law_690 : decode code 690 = .ok (.iaload, 1) := by decide +kernel
theorem dL_law_696 : decode code 696 = .ok (.iastore, 1) := by decide +kernel
theorem dL_law_702 : decode code 702 = .ok (.invokevirtual 36, 3) := by decide +kernel
theorem dL_law_707 : decode code 707 = .ok (.if_icmp .ne 5, 3) := by decide +kernel
theorem dL_law_719 : decode code 719 = .ok (.if_icmp .ne 134, 3) := by decide +kernel
theorem dL_law_730 : decode code 730 = .ok (.iaload, 1) := by decide +kernel
theorem dL_law_749 : decode code 749 = .ok (.invokestatic 131, 3) := by decide +kernel
theorem dL_law_753 : decode code 753 = .ok (.iastore, 1) := by decide +kernel
theorem dL_law_770 : decode code 770 = .ok (.invokestatic 131, 3) := by decide +kernel
theorem dL_law_774 : decode code 774 = .ok (.iastore, 1) := by decide +kernel
theorem dL_law_789 : decode code 789 = .ok (.invokestatic 131, 3) := by decide +kernel
theorem dL_law_792 : decode code 792 = .ok (.ifCond .ne 7, 3) := by decide +kernel
theorem dL_law_800 : decode code 800 = .ok (.iastore, 1) := by decide +kernel
theorem dL_law_812 : decode code 812 = .ok (.iaload, 1) := by decide +kernel
theorem dL_law_821 : decode code 821 = .ok (.iaload, 1) := by decide +kernel
theorem dL_law_830 : decode code 830 = .ok (.iaload, 1) := by decide +kernel
theorem dL_law_832 : decode code 832 = .ok (.if_icmp .ne 7, 3) := by decide +kernel
theorem dL_law_840 : decode code 840 = .ok (.invokevirtual 141, 3) := by decide +kernel
theorem dL_law_845 : decode code 845 = .ok (.if_icmp .eq 5, 3) := by decide +kernel
theorem dL_law_857 : decode code 857 = .ok (.if_icmp .ne 55, 3) := by decide +kernel
theorem dL_law_869 : decode code 869 = .ok (.iaload, 1) := by decide +kernel
theorem dL_law_875 : decode code 875 = .ok (.iastore, 1) := by decide +kernel
theorem dL_law_881 : decode code 881 = .ok (.invokevirtual 145, 3) := by decide +kernel
theorem dL_law_892 : decode code 892 = .ok (.iaload, 1) := by decide +kernel
theorem dL_law_899 : decode code 899 = .ok (.if_icmp .ne 7, 3) := by decide +kernel
theorem dL_law_907 : decode code 907 = .ok (.if_icmp .eq 1679, 3) := by decide +kernel
theorem dL_law_916 : decode code 916 = .ok (.if_icmp .ne 57, 3) := by decide +kernel
theorem dL_law_925 : decode code 925 = .ok (.invokestatic 131, 3) := by decide +kernel
theorem dL_law_934 : decode code 934 = .ok (.iaload, 1) := by decide +kernel
theorem dL_law_945 : decode code 945 = .ok (.invokestatic 131, 3) := by decide +kernel
theorem dL_law_951 : decode code 951 = .ok (.iastore, 1) := by decide +kernel
theorem dL_law_959 : decode code 959 = .ok (.iaload, 1) := by decide +kernel
theorem dL_law_960 : decode code 960 = .ok (.invokevirtual 148, 3) := by decide +kernel
theorem dL_law_965 : decode code 965 = .ok (.if_icmp .eq 5, 3) := by decide +kernel
theorem dL_law_977 : decode code 977 = .ok (.if_icmp .ge 411, 3) := by decide +kernel
def sgL_law_1388_0ba45 : List Instr := [.iload 16, .bipush 18]
theorem sgL_law_1388_0ba45d : am_dec code 1388 sgL_law_1388_0ba45 = true := by decide +kernel
def sgL_law_1581_f6cf3 : List Instr := [.iload 16, .bipush 21]
theorem sgL_law_1581_f6cf3d : am_dec code 1581 sgL_law_1581_f6cf3 = true := by decide +kernel
def sgL_law_1857_8b990 : List Instr := [.iload 16, .bipush 24]
theorem sgL_law_1857_8b990d : am_dec code 1857 sgL_law_1857_8b990 = true := by decide +kernel
def sgL_law_2317_8b990 : List Instr := [.iload 16, .bipush 24]
theorem sgL_law_2317_8b990d : am_dec code 2317 sgL_law_2317_8b990 = true := by decide +kernel
def sgL_law_2324_df4e2 : List Instr := [.aload 5, .iconst 4, .iload 17, .imul, .iconst 3, .iadd]
theorem sgL_law_2324_df4e2d : am_dec code 2324 sgL_law_2324_df4e2 = true := by decide +kernel
def sgL_law_2336_02a5f : List Instr := [.iconst (-1), .goto 13, .istore 20, .iload 20]
theorem sgL_law_2336_02a5fd : am_dec code 2336 sgL_law_2336_02a5f = true := by decide +kernel
def sgL_law_2340_96833 : List Instr := [.aload 6, .iload 17]
theorem sgL_law_2340_96833d : am_dec code 2340 sgL_law_2340_96833 = true := by decide +kernel
def sgL_law_2348_20563 : List Instr := [.land, .l2i, .istore 20]
theorem sgL_law_2348_20563d : am_dec code 2348 sgL_law_2348_20563 = true := by decide +kernel
def sgL_law_2352_91f46 : List Instr := [.iload 20]
theorem sgL_law_2352_91f46d : am_dec code 2352 sgL_law_2352_91f46 = true := by decide +kernel
def sgL_law_2357_8df18 : List Instr := [.aload 6, .iload 17, .dup2]
theorem sgL_law_2357_8df18d : am_dec code 2357 sgL_law_2357_8df18 = true := by decide +kernel
def sgL_law_2363_41398 : List Instr := [.iconst 4, .lshr]
theorem sgL_law_2363_41398d : am_dec code 2363 sgL_law_2363_41398 = true := by decide +kernel
def sgL_law_2366_7a3b3 : List Instr := [.aload 5, .iconst 4, .iload 17, .imul, .iconst 3, .iadd, .dup2]
theorem sgL_law_2366_7a3b3d : am_dec code 2366 sgL_law_2366_7a3b3 = true := by decide +kernel
def sgL_law_2376_d80e0 : List Instr := [.iconst 1, .isub]
theorem sgL_law_2376_d80e0d : am_dec code 2376 sgL_law_2376_d80e0 = true := by decide +kernel
def sgL_law_2379_4b851 : List Instr := [.aload_n 1, .iload 17]
theorem sgL_law_2379_4b851d : am_dec code 2379 sgL_law_2379_4b851 = true := by decide +kernel
def sgL_law_2385_91f46 : List Instr := [.iload 20]
theorem sgL_law_2385_91f46d : am_dec code 2385 sgL_law_2385_91f46 = true := by decide +kernel
def sgL_law_2392_c60e9 : List Instr := [.goto 194]
theorem sgL_law_2392_c60e9d : am_dec code 2392 sgL_law_2392_c60e9 = true := by decide +kernel
def sgL_law_599_b4725 : List Instr := [.iload 16, .bipush 9]
theorem sgL_law_599_b4725d : am_dec code 599 sgL_law_599_b4725 = true := by decide +kernel
def sgL_law_606_86fee : List Instr := [.iload 14, .bipush 9, .ishr, .aload 10, .iconst 1]
theorem sgL_law_606_86feed : am_dec code 606 sgL_law_606_86fee = true := by decide +kernel
def sgL_law_618_71a89 : List Instr := [.istore 20, .aload_n 2, .bipush 8, .iload 18, .imul, .iconst 5, .iadd]
theorem sgL_law_618_71a89d : am_dec code 618 sgL_law_618_71a89 = true := by decide +kernel
def sgL_law_629_7d88d : List Instr := [.iload 20, .ishr, .iconst 1, .iand, .iconst 1]
theorem sgL_law_629_7d88dd : am_dec code 629 sgL_law_629_7d88d = true := by decide +kernel
def sgL_law_638_0eb7c : List Instr := [.iconst 1, .goto 4, .istore 21, .iload 21]
theorem sgL_law_638_0eb7cd : am_dec code 638 sgL_law_638_0eb7c = true := by decide +kernel
def sgL_law_642_851f6 : List Instr := [.iconst 0, .istore 21, .iload 21]
theorem sgL_law_642_851f6d : am_dec code 642 sgL_law_642_851f6 = true := by decide +kernel
def sgL_law_650_51f07 : List Instr := [.aload_n 2, .iload 20]
theorem sgL_law_650_51f07d : am_dec code 650 sgL_law_650_51f07 = true := by decide +kernel
def sgL_law_656_010a5 : List Instr := [.iload 18, .ishr, .iconst 1, .iand, .iconst 1]
theorem sgL_law_656_010a5d : am_dec code 656 sgL_law_656_010a5 = true := by decide +kernel
def sgL_law_665_723fd : List Instr := [.aload_n 1, .iconst 3, .iload 18, .iload 20, .iconst 0]
theorem sgL_law_665_723fdd : am_dec code 665 sgL_law_665_723fd = true := by decide +kernel
def sgL_law_675_d5620 : List Instr := [.iconst 2]
theorem sgL_law_675_d5620d : am_dec code 675 sgL_law_675_d5620 = true := by decide +kernel
def sgL_law_681_ac27c : List Instr := [.aload_n 2, .bipush 8, .iload 18, .imul, .iconst 5, .iadd, .dup2]
theorem sgL_law_681_ac27cd : am_dec code 681 sgL_law_681_ac27c = true := by decide +kernel
def sgL_law_691_4fdde : List Instr := [.iconst 1, .iload 20, .ishl, .ixor]
theorem sgL_law_691_4fdded : am_dec code 691 sgL_law_691_4fdde = true := by decide +kernel
def sgL_law_697_fb490 : List Instr := [.aload_n 1, .iload 18, .iload 20]
theorem sgL_law_697_fb490d : am_dec code 697 sgL_law_697_fb490 = true := by decide +kernel
def sgL_law_705_79960 : List Instr := [.iload 21]
theorem sgL_law_705_79960d : am_dec code 705 sgL_law_705_79960 = true := by decide +kernel
def sgL_law_712_25ba4 : List Instr := [.goto 1874]
theorem sgL_law_712_25ba4d : am_dec code 712 sgL_law_712_25ba4 = true := by decide +kernel
def sgL_law_715_b4725 : List Instr := [.iload 16, .bipush 9]
theorem sgL_law_715_b4725d : am_dec code 715 sgL_law_715_b4725 = true := by decide +kernel
def sgL_law_722_fac95 : List Instr := [.aload_n 2, .bipush 8, .iload 18, .imul, .iconst 1, .iadd]
theorem sgL_law_722_fac95d : am_dec code 722 sgL_law_722_fac95 = true := by decide +kernel
def sgL_law_731_520c9 : List Instr := [.istore 20, .aload_n 2, .bipush 8, .iload 18, .imul, .iconst 1, .iadd, .iconst 1, .iload 14, .bipush 6, .ishr, .bipush 12]
theorem sgL_law_731_520c9d : am_dec code 731 sgL_law_731_520c9 = true := by decide +kernel
def sgL_law_752_830a0 : List Instr := [.iadd]
theorem sgL_law_752_830a0d : am_dec code 752 sgL_law_752_830a0 = true := by decide +kernel
def sgL_law_754_cfc26 : List Instr := [.aload_n 2, .bipush 8, .iload 18, .imul, .iconst 2, .iadd, .iconst 1, .iload 14, .bipush 10, .ishr, .bipush 6]
theorem sgL_law_754_cfc26d : am_dec code 754 sgL_law_754_cfc26 = true := by decide +kernel
def sgL_law_773_830a0 : List Instr := [.iadd]
theorem sgL_law_773_830a0d : am_dec code 773 sgL_law_773_830a0 = true := by decide +kernel
def sgL_law_775_43bd7 : List Instr := [.aload_n 2, .bipush 8, .iload 18, .imul, .iconst 3, .iadd, .iload 13, .bipush 9, .ishr, .iconst 3]
theorem sgL_law_775_43bd7d : am_dec code 775 sgL_law_775_43bd7 = true := by decide +kernel
def sgL_law_795_1c64c : List Instr := [.iconst 1, .goto 4]
theorem sgL_law_795_1c64cd : am_dec code 795 sgL_law_795_1c64c = true := by decide +kernel
def sgL_law_799_56c54 : List Instr := [.iconst 0]
theorem sgL_law_799_56c54d : am_dec code 799 sgL_law_799_56c54 = true := by decide +kernel
def sgL_law_801_ef3db : List Instr := [.aload_n 1, .iload 18, .aload_n 2, .bipush 8, .iload 18, .imul, .iconst 1, .iadd]
theorem sgL_law_801_ef3dbd : am_dec code 801 sgL_law_801_ef3db = true := by decide +kernel
def sgL_law_813_e5d76 : List Instr := [.aload_n 2, .bipush 8, .iload 18, .imul, .iconst 2, .iadd]
theorem sgL_law_813_e5d76d : am_dec code 813 sgL_law_813_e5d76 = true := by decide +kernel
def sgL_law_822_47d1f : List Instr := [.aload_n 2, .bipush 8, .iload 18, .imul, .iconst 3, .iadd]
theorem sgL_law_822_47d1fd : am_dec code 822 sgL_law_822_47d1f = true := by decide +kernel
def sgL_law_831_4de0a : List Instr := [.iconst 1]
theorem sgL_law_831_4de0ad : am_dec code 831 sgL_law_831_4de0a = true := by decide +kernel
def sgL_law_835_1c64c : List Instr := [.iconst 1, .goto 4]
theorem sgL_law_835_1c64cd : am_dec code 835 sgL_law_835_1c64c = true := by decide +kernel
def sgL_law_839_56c54 : List Instr := [.iconst 0]
theorem sgL_law_839_56c54d : am_dec code 839 sgL_law_839_56c54 = true := by decide +kernel
def sgL_law_843_91f46 : List Instr := [.iload 20]
theorem sgL_law_843_91f46d : am_dec code 843 sgL_law_843_91f46 = true := by decide +kernel
def sgL_law_850_ad608 : List Instr := [.goto 1736]
theorem sgL_law_850_ad608d : am_dec code 850 sgL_law_850_ad608 = true := by decide +kernel
def sgL_law_853_d5f12 : List Instr := [.iload 16, .bipush 10]
theorem sgL_law_853_d5f12d : am_dec code 853 sgL_law_853_d5f12 = true := by decide +kernel
def sgL_law_860_b1759 : List Instr := [.aload_n 2, .bipush 8, .iload 18, .imul, .iconst 4, .iadd, .dup2]
theorem sgL_law_860_b1759d : am_dec code 860 sgL_law_860_b1759 = true := by decide +kernel
def sgL_law_870_48e34 : List Instr := [.iconst 1, .iload 17, .ishl, .ixor]
theorem sgL_law_870_48e34d : am_dec code 870 sgL_law_870_48e34 = true := by decide +kernel
def sgL_law_876_a2e5e : List Instr := [.aload_n 1, .iload 18, .iload 17]
theorem sgL_law_876_a2e5ed : am_dec code 876 sgL_law_876_a2e5e = true := by decide +kernel
def sgL_law_884_45220 : List Instr := [.aload_n 2, .bipush 8, .iload 18, .imul, .iconst 4, .iadd]
theorem sgL_law_884_45220d : am_dec code 884 sgL_law_884_45220 = true := by decide +kernel
def sgL_law_893_8d34b : List Instr := [.iload 17, .ishr, .iconst 1, .iand, .iconst 1]
theorem sgL_law_893_8d34bd : am_dec code 893 sgL_law_893_8d34b = true := by decide +kernel
def sgL_law_902_1c64c : List Instr := [.iconst 1, .goto 4]
theorem sgL_law_902_1c64cd : am_dec code 902 sgL_law_902_1c64c = true := by decide +kernel
def sgL_law_906_56c54 : List Instr := [.iconst 0]
theorem sgL_law_906_56c54d : am_dec code 906 sgL_law_906_56c54 = true := by decide +kernel
def sgL_law_912_8491f : List Instr := [.iload 16, .bipush 11]
theorem sgL_law_912_8491fd : am_dec code 912 sgL_law_912_8491f = true := by decide +kernel
def sgL_law_919_8459e : List Instr := [.iload 13, .bipush 9, .ishr, .iconst 4]
theorem sgL_law_919_8459ed : am_dec code 919 sgL_law_919_8459e = true := by decide +kernel
def sgL_law_928_b11ac : List Instr := [.istore 20]
theorem sgL_law_928_b11acd : am_dec code 928 sgL_law_928_b11ac = true := by decide +kernel
def sgL_law_930_0b1a1 : List Instr := [.aload 11, .iload 20]
theorem sgL_law_930_0b1a1d : am_dec code 930 sgL_law_930_0b1a1 = true := by decide +kernel
def sgL_law_935_e20f3 : List Instr := [.istore 21, .aload 11, .iload 20, .iload 14, .bipush 31]
theorem sgL_law_935_e20f3d : am_dec code 935 sgL_law_935_e20f3 = true := by decide +kernel
def sgL_law_948_c4396 : List Instr := [.bipush 10, .isub]
theorem sgL_law_948_c4396d : am_dec code 948 sgL_law_948_c4396 = true := by decide +kernel
def sgL_law_952_05618 : List Instr := [.aload_n 1, .iload 20, .aload 11, .iload 20]
theorem sgL_law_952_05618d : am_dec code 952 sgL_law_952_05618 = true := by decide +kernel
def sgL_law_963_79960 : List Instr := [.iload 21]
theorem sgL_law_963_79960d : am_dec code 963 sgL_law_963_79960 = true := by decide +kernel
def sgL_law_970_0db0f : List Instr := [.goto 1616]
theorem sgL_law_970_0db0fd : am_dec code 970 sgL_law_970_0db0f = true := by decide +kernel
def sgL_law_973_0ba45 : List Instr := [.iload 16, .bipush 18]
theorem sgL_law_973_0ba45d : am_dec code 973 sgL_law_973_0ba45 = true := by decide +kernel
set_option maxRecDepth 100000 in
set_option maxHeartbeats 8000000 in
theorem law_k7 {C : am_Cx} {X0 : am_H} {P0 : am_H → Option Value → Prop} {w0 : Cond} (hF : am_F C code 25 RL (w0 :: am_G)) (hO : am_O C X0 P0 room_1) (hG : C.la.stackTraces = false) {b tn k0 n0 c : Nat} (hc : c ≤ 63) (hk0 : k0 + 8 ≤ 600104) (hn0 : n0 + 64 ≤ 7301313) (Kc : ∀ (T S : am_T) (o : Nat → Int64) (n m v t : Nat), qR T S o n m v t (c + 1) → S 91 0 = 1 → 1 ≤ n → am_W C (hp T S o) (k0 + 8) (n0 + 64) 2626 [(0, .retAddr b), (1, .ref 0), (2, .ref 500), (3, .ref 501), (4, .ref 502), (5, .ref 503), (6, .ref 464), (7, .ref 504), (8, .ref 505), (9, .ref 506), (10, .ref 507), (11, .ref 508), (12, .int (nI tn))] []) {T S : am_T} {o : Nat → Int64} {n m v t : Nat} (h : qR T S o n m v t c) {A B : Int32} {kd p l k : Nat} (hp8 : p < 8) (hk26 : kd < 26) (hl : l < n ∨ n = 0 ∧ l = 0) (hk9 : k < m ∨ m = 0 ∧ k = 0) (hkd : 7 ≤ kd ∧ kd ≤ 8) (hn1 : 1 ≤ n) : am_W C (hp T (z90 S) o) k0 n0 177 [(0, .retAddr b), (1, .ref 0), (2, .ref 500), (3, .ref 501), (4, .ref 502), (5, .ref 503), (6, .ref 464), (7, .ref 504), (8, .ref 505), (9, .ref 506), (10, .ref 507), (11, .ref 508), (12, .int (nI tn)), (13, .int A), (14, .int B), (15, .ref 509), (16, .int (nI kd)), (17, .int (nI p)), (18, .int (nI l)), (19, .int (nI k))] [] := by
  obtain ⟨a1, a2, hn4, a4, a5, hm10, a7, hvm, a9, a10, ht14, a12⟩ := id h.1.1
  have hs := qB_safe h.1
  have hr9 := q_z90 h
  have z71 : z90 S 71 0 = nI n := a2
  have z72 : z90 S 72 0 = nI m := a5
  have z70 : z90 S 70 0 = nI t := a10
  refine am_drop [0, 1, 2, 3, 4, 5, 6, 7, 8, 9, 10, 11, 12, 13, 14, 16, 17, 18, 19] [(0, .retAddr b), (1, .ref 0), (2, .ref 500), (3, .ref 501), (4, .ref 502), (5, .ref 503), (6, .ref 464), (7, .ref 504), (8, .ref 505), (9, .ref 506), (10, .ref 507), (11, .ref 508), (12, .int (nI tn)), (13, .int A), (14, .int B), (16, .int (nI kd)), (17, .int (nI p)), (18, .int (nI l)), (19, .int (nI k))] rfl ?_
  have hl : l < n := by omega
  refine am_go hF sgL_law_177_426d9 180 [(0, .retAddr b), (1, .ref 0), (2, .ref 500), (3, .ref 501), (4, .ref 502), (5, .ref 503), (6, .ref 464), (7, .ref 504), (8, .ref 505), (9, .ref 506), (10, .ref 507), (11, .ref 508), (12, .int (nI tn)), (13, .int A), (14, .int B), (16, .int (nI kd)), (17, .int (nI p)), (18, .int (nI l)), (19, .int (nI k))] [.int 2, .int (nI kd)] sgL_law_177_426d9d rfl ?_
  refine am_icmpge hF 253 dL_law_180 (by decide) (fun _ => ?_) (fun h9 => False.elim (absurd (nc_ge (show 2 ≤ kd by omega) (by omega) (by omega) rfl rfl) h9))
  refine am_go hF sgL_law_253_6a8f4 257 [(0, .retAddr b), (1, .ref 0), (2, .ref 500), (3, .ref 501), (4, .ref 502), (5, .ref 503), (6, .ref 464), (7, .ref 504), (8, .ref 505), (9, .ref 506), (10, .ref 507), (11, .ref 508), (12, .int (nI tn)), (13, .int A), (14, .int B), (16, .int (nI kd)), (17, .int (nI p)), (18, .int (nI l)), (19, .int (nI k))] [.int 6, .int (nI kd)] sgL_law_253_6a8f4d rfl ?_
  refine am_icmpge hF 401 dL_law_257 (by decide) (fun _ => ?_) (fun h9 => False.elim (absurd (nc_ge (show 6 ≤ kd by omega) (by omega) (by omega) rfl rfl) h9))
  refine am_go hF sgL_law_401_6a8f4 405 [(0, .retAddr b), (1, .ref 0), (2, .ref 500), (3, .ref 501), (4, .ref 502), (5, .ref 503), (6, .ref 464), (7, .ref 504), (8, .ref 505), (9, .ref 506), (10, .ref 507), (11, .ref 508), (12, .int (nI tn)), (13, .int A), (14, .int B), (16, .int (nI kd)), (17, .int (nI p)), (18, .int (nI l)), (19, .int (nI k))] [.int 6, .int (nI kd)] sgL_law_401_6a8f4d rfl ?_
  refine am_icmpne hF 599 dL_law_405 (by decide) (fun _ => ?_) (fun h9 => False.elim (absurd h9 (nc_ne (show kd ≠ 6 by omega) (by omega) (by omega) rfl rfl)))
  refine am_go hF sgL_law_599_b4725 603 [(0, .retAddr b), (1, .ref 0), (2, .ref 500), (3, .ref 501), (4, .ref 502), (5, .ref 503), (6, .ref 464), (7, .ref 504), (8, .ref 505), (9, .ref 506), (10, .ref 507), (11, .ref 508), (12, .int (nI tn)), (13, .int A), (14, .int B), (16, .int (nI kd)), (17, .int (nI p)), (18, .int (nI l)), (19, .int (nI k))] [.int 9, .int (nI kd)] sgL_law_599_b4725d rfl ?_
  refine am_icmpge hF 715 dL_law_603 (by decide) (fun h9 => False.elim (nc_lt_f (show kd < 9 by omega) (by omega) (by omega) rfl rfl h9)) (fun _ => ?_)
  refine am_go hF sgL_law_606_86fee 614 [(0, .retAddr b), (1, .ref 0), (2, .ref 500), (3, .ref 501), (4, .ref 502), (5, .ref 503), (6, .ref 464), (7, .ref 504), (8, .ref 505), (9, .ref 506), (10, .ref 507), (11, .ref 508), (12, .int (nI tn)), (13, .int A), (14, .int B), (16, .int (nI kd)), (17, .int (nI p)), (18, .int (nI l)), (19, .int (nI k))] [.int 1, .ref 507, .int (B >>> (9 &&& 31))] sgL_law_606_86feed rfl ?_
  refine sv_iald hF 7 1 0 71 (by decide) (by decide) rfl rfl (show 3 * 0 + 1 < 3 by omega) (by decide) dL_law_614 ?_
  refine am_top (nI n) z71 ?_
  obtain ⟨z1, hz1, ez1⟩ := low_ex (B >>> (9 &&& 31)) (m := n) (by omega) (by omega)
  refine am_dS hF hO [.int (B >>> (9 &&& 31)), .int (nI n)] [] (c_low (v := B >>> (9 &&& 31)) (m := n) (by omega) (by omega)) myL_low syL_low lm_RL_131 rfl k0 n0 ⟨Nat.le_of_ble_eq_true rfl, Nat.le_of_ble_eq_true rfl⟩ ⟨Nat.le_refl _, Nat.le_refl _, by show _ ≤ 600104; omega, by show _ ≤ 7301313; omega⟩ rfl (am_lv_raw (am_lv_ref (hp_main _ _ _) (am_lv_ref (hp_a _ _ _ (f := 0) (by decide)) (am_lv_ref (hp_a _ _ _ (f := 1) (by decide)) (am_lv_ref (hp_a _ _ _ (f := 2) (by decide)) (am_lv_ref (hp_a _ _ _ (f := 3) (by decide)) (am_lv_ref (hp_o _ _ _) (am_lv_ref (hp_a _ _ _ (f := 4) (by decide)) (am_lv_ref (hp_a _ _ _ (f := 5) (by decide)) (am_lv_ref (hp_a _ _ _ (f := 6) (by decide)) (am_lv_ref (hp_a _ _ _ (f := 7) (by decide)) (am_lv_ref (hp_a _ _ _ (f := 8) (by decide)) (am_lv_int (am_lv_int (am_lv_int (am_lv_int (am_lv_int (am_lv_int (am_lv_int am_lv_nil))))))))))))))))))) (Nat.le_of_ble_eq_true rfl) dL_law_615 [.int (lLow (B >>> (9 &&& 31)) n)] rfl ?_
  refine am_top (nI z1) ez1 ?_
  refine am_go hF sgL_law_618_71a89 628 [(20, .int (nI z1)), (0, .retAddr b), (1, .ref 0), (2, .ref 500), (3, .ref 501), (4, .ref 502), (5, .ref 503), (6, .ref 464), (7, .ref 504), (8, .ref 505), (9, .ref 506), (10, .ref 507), (11, .ref 508), (12, .int (nI tn)), (13, .int A), (14, .int B), (16, .int (nI kd)), (17, .int (nI p)), (18, .int (nI l)), (19, .int (nI k))] [.int ((8 * (nI l)) + 5), .ref 500] sgL_law_618_71a89d rfl ?_
  refine sv_iald hF 0 5 l 5 (by decide) (by decide) rfl (am_ad (am_mu rfl rfl) rfl) (show 8 * l + 5 < 32 by omega) (by decide) dL_law_628 ?_
  refine am_go hF sgL_law_629_7d88d 635 [(20, .int (nI z1)), (0, .retAddr b), (1, .ref 0), (2, .ref 500), (3, .ref 501), (4, .ref 502), (5, .ref 503), (6, .ref 464), (7, .ref 504), (8, .ref 505), (9, .ref 506), (10, .ref 507), (11, .ref 508), (12, .int (nI tn)), (13, .int A), (14, .int B), (16, .int (nI kd)), (17, .int (nI p)), (18, .int (nI l)), (19, .int (nI k))] [.int 1, .int ((((z90 S) 5 l) >>> ((nI z1) &&& 31)) &&& 1)] sgL_law_629_7d88dd rfl ?_
  refine am_icmpne hF 642 dL_law_635 (by decide) (fun c1 => ?_) (fun c1 => ?_)
  · skip
    refine am_go hF sgL_law_642_851f6 647 [(21, .int 0), (20, .int (nI z1)), (0, .retAddr b), (1, .ref 0), (2, .ref 500), (3, .ref 501), (4, .ref 502), (5, .ref 503), (6, .ref 464), (7, .ref 504), (8, .ref 505), (9, .ref 506), (10, .ref 507), (11, .ref 508), (12, .int (nI tn)), (13, .int A), (14, .int B), (16, .int (nI kd)), (17, .int (nI p)), (18, .int (nI l)), (19, .int (nI k))] [.int 0] sgL_law_642_851f6d rfl ?_
    refine am_ifne hF 681 dL_law_647 (by decide) (fun h9 => False.elim (by revert h9; decide)) (fun _ => ?_)
    refine am_go hF sgL_law_650_51f07 653 [(21, .int 0), (20, .int (nI z1)), (0, .retAddr b), (1, .ref 0), (2, .ref 500), (3, .ref 501), (4, .ref 502), (5, .ref 503), (6, .ref 464), (7, .ref 504), (8, .ref 505), (9, .ref 506), (10, .ref 507), (11, .ref 508), (12, .int (nI tn)), (13, .int A), (14, .int B), (16, .int (nI kd)), (17, .int (nI p)), (18, .int (nI l)), (19, .int (nI k))] [.int (nI z1), .ref 500] sgL_law_650_51f07d rfl ?_
    refine am_dS hF hO [.ref 500, .int (nI z1)] [] (c_within (l := z1) (by omega)) myL_within syL_within lm_RL_10 rfl k0 n0 ⟨Nat.le_of_ble_eq_true rfl, Nat.le_of_ble_eq_true rfl⟩ ⟨Nat.le_refl _, Nat.le_refl _, by show _ ≤ 600104; omega, by show _ ≤ 7301313; omega⟩ rfl (am_lv_int (am_lv_int (am_lv_raw (am_lv_ref (hp_main _ _ _) (am_lv_ref (hp_a _ _ _ (f := 0) (by decide)) (am_lv_ref (hp_a _ _ _ (f := 1) (by decide)) (am_lv_ref (hp_a _ _ _ (f := 2) (by decide)) (am_lv_ref (hp_a _ _ _ (f := 3) (by decide)) (am_lv_ref (hp_o _ _ _) (am_lv_ref (hp_a _ _ _ (f := 4) (by decide)) (am_lv_ref (hp_a _ _ _ (f := 5) (by decide)) (am_lv_ref (hp_a _ _ _ (f := 6) (by decide)) (am_lv_ref (hp_a _ _ _ (f := 7) (by decide)) (am_lv_ref (hp_a _ _ _ (f := 8) (by decide)) (am_lv_int (am_lv_int (am_lv_int (am_lv_int (am_lv_int (am_lv_int (am_lv_int am_lv_nil))))))))))))))))))))) (Nat.le_of_ble_eq_true rfl) dL_law_653 [.int (lWin (z90 S) z1)] rfl ?_
    refine am_go hF sgL_law_656_010a5 662 [(21, .int 0), (20, .int (nI z1)), (0, .retAddr b), (1, .ref 0), (2, .ref 500), (3, .ref 501), (4, .ref 502), (5, .ref 503), (6, .ref 464), (7, .ref 504), (8, .ref 505), (9, .ref 506), (10, .ref 507), (11, .ref 508), (12, .int (nI tn)), (13, .int A), (14, .int B), (16, .int (nI kd)), (17, .int (nI p)), (18, .int (nI l)), (19, .int (nI k))] [.int 1, .int (((lWin (z90 S) z1) >>> ((nI l) &&& 31)) &&& 1)] sgL_law_656_010a5d rfl ?_
    refine am_icmpne hF 681 dL_law_662 (by decide) (fun c2 => ?_) (fun c2 => ?_)
    · skip
      refine am_go hF sgL_law_681_ac27c 690 [(21, .int 0), (20, .int (nI z1)), (0, .retAddr b), (1, .ref 0), (2, .ref 500), (3, .ref 501), (4, .ref 502), (5, .ref 503), (6, .ref 464), (7, .ref 504), (8, .ref 505), (9, .ref 506), (10, .ref 507), (11, .ref 508), (12, .int (nI tn)), (13, .int A), (14, .int B), (16, .int (nI kd)), (17, .int (nI p)), (18, .int (nI l)), (19, .int (nI k))] [.int ((8 * (nI l)) + 5), .ref 500, .int ((8 * (nI l)) + 5), .ref 500] sgL_law_681_ac27cd rfl ?_
      refine sv_iald hF 0 5 l 5 (by decide) (by decide) rfl (am_ad (am_mu rfl rfl) rfl) (show 8 * l + 5 < 32 by omega) (by decide) dL_law_690 ?_
      refine am_go hF sgL_law_691_4fdde 696 [(21, .int 0), (20, .int (nI z1)), (0, .retAddr b), (1, .ref 0), (2, .ref 500), (3, .ref 501), (4, .ref 502), (5, .ref 503), (6, .ref 464), (7, .ref 504), (8, .ref 505), (9, .ref 506), (10, .ref 507), (11, .ref 508), (12, .int (nI tn)), (13, .int A), (14, .int B), (16, .int (nI kd)), (17, .int (nI p)), (18, .int (nI l)), (19, .int (nI k))] [.int (((z90 S) 5 l) ^^^ (1 <<< ((nI z1) &&& 31))), .int ((8 * (nI l)) + 5), .ref 500] sgL_law_691_4fdded rfl ?_
      refine sv_iast hF 0 5 l 5 (by decide) (by decide) rfl (am_ad (am_mu rfl rfl) rfl) (show 8 * l + 5 < 32 by omega) (by decide) dL_law_696 ?_
      refine am_go hF sgL_law_697_fb490 702 [(21, .int 0), (20, .int (nI z1)), (0, .retAddr b), (1, .ref 0), (2, .ref 500), (3, .ref 501), (4, .ref 502), (5, .ref 503), (6, .ref 464), (7, .ref 504), (8, .ref 505), (9, .ref 506), (10, .ref 507), (11, .ref 508), (12, .int (nI tn)), (13, .int A), (14, .int B), (16, .int (nI kd)), (17, .int (nI p)), (18, .int (nI l)), (19, .int (nI k))] [.int (nI z1), .int (nI l), .ref 0] sgL_law_697_fb490d rfl ?_
      refine am_dV hF hO [.int (nI l), .int (nI z1)] [] (c_p_nest_n0 a1 (by omega) hl hz1 (nest_f hr9 hl hz1 c1) (down_f hr9 hl hz1 c2)) myX5_nest vyX5_nest lm_RL_36 (hp_main _ _ _) rfl rfl (k0 + 8) (n0 + 64) ⟨Nat.le_of_ble_eq_true rfl, Nat.le_of_ble_eq_true rfl⟩ ⟨Nat.add_le_add_left (Nat.le_of_ble_eq_true rfl) _, Nat.add_le_add_left (Nat.le_of_ble_eq_true rfl) _, by show _ ≤ 600104; omega, by show _ ≤ 7301313; omega⟩ rfl (am_lv_int (am_lv_int (am_lv_raw (am_lv_ref (hp_main _ _ _) (am_lv_ref (hp_a _ _ _ (f := 0) (by decide)) (am_lv_ref (hp_a _ _ _ (f := 1) (by decide)) (am_lv_ref (hp_a _ _ _ (f := 2) (by decide)) (am_lv_ref (hp_a _ _ _ (f := 3) (by decide)) (am_lv_ref (hp_o _ _ _) (am_lv_ref (hp_a _ _ _ (f := 4) (by decide)) (am_lv_ref (hp_a _ _ _ (f := 5) (by decide)) (am_lv_ref (hp_a _ _ _ (f := 6) (by decide)) (am_lv_ref (hp_a _ _ _ (f := 7) (by decide)) (am_lv_ref (hp_a _ _ _ (f := 8) (by decide)) (am_lv_int (am_lv_int (am_lv_int (am_lv_int (am_lv_int (am_lv_int (am_lv_int am_lv_nil))))))))))))))))))))) (Nat.le_of_ble_eq_true rfl) dL_law_702 [.int 1] rfl ?_
      refine am_go hF sgL_law_705_79960 707 [(21, .int 0), (20, .int (nI z1)), (0, .retAddr b), (1, .ref 0), (2, .ref 500), (3, .ref 501), (4, .ref 502), (5, .ref 503), (6, .ref 464), (7, .ref 504), (8, .ref 505), (9, .ref 506), (10, .ref 507), (11, .ref 508), (12, .int (nI tn)), (13, .int A), (14, .int B), (16, .int (nI kd)), (17, .int (nI p)), (18, .int (nI l)), (19, .int (nI k))] [.int 0, .int 1] sgL_law_705_79960d rfl ?_
      refine am_icmpne hF 712 dL_law_707 (by decide) (fun _ => ?_) (fun h9 => False.elim (by revert h9; decide))
      refine am_go hF sgL_law_712_25ba4 2586 [(21, .int 0), (20, .int (nI z1)), (0, .retAddr b), (1, .ref 0), (2, .ref 500), (3, .ref 501), (4, .ref 502), (5, .ref 503), (6, .ref 464), (7, .ref 504), (8, .ref 505), (9, .ref 506), (10, .ref 507), (11, .ref 508), (12, .int (nI tn)), (13, .int A), (14, .int B), (16, .int (nI kd)), (17, .int (nI p)), (18, .int (nI l)), (19, .int (nI k))] [] sgL_law_712_25ba4d rfl ?_
      refine am_drop [2, 3, 4, 5, 6, 7, 8, 9, 10, 11, 12, 13, 14, 15, 19] [(0, .retAddr b), (1, .ref 0), (2, .ref 500), (3, .ref 501), (4, .ref 502), (5, .ref 503), (6, .ref 464), (7, .ref 504), (8, .ref 505), (9, .ref 506), (10, .ref 507), (11, .ref 508), (12, .int (nI tn)), (13, .int A), (18, .int (nI l))] rfl ?_
      exact law_same hF hO hG hc hk0 hn0 Kc (qR_m (q_nest hr9 hl hz1) (Nat.le_succ c)) rfl hl
    · skip
      refine am_go hF sgL_law_665_723fd 672 [(21, .int 0), (20, .int (nI z1)), (0, .retAddr b), (1, .ref 0), (2, .ref 500), (3, .ref 501), (4, .ref 502), (5, .ref 503), (6, .ref 464), (7, .ref 504), (8, .ref 505), (9, .ref 506), (10, .ref 507), (11, .ref 508), (12, .int (nI tn)), (13, .int A), (14, .int B), (16, .int (nI kd)), (17, .int (nI p)), (18, .int (nI l)), (19, .int (nI k))] [.int 0, .int (nI z1), .int (nI l), .int 3, .ref 0] sgL_law_665_723fdd rfl ?_
      refine am_dSW hF hO [.ref 0, .int 3, .int (nI l), .int (nI z1), .int 0] [] (w_nest_2 ⟨by decide, by decide, by decide, by decide⟩ (c_p_nest_2 (G := C.se) hG a1 (by omega) hl hz1 (nest_f hr9 hl hz1 c1) (down_t hr9 hl hz1 c2))) mwyL_refused swyL_refused lm_RL_137 rfl (k0 + 8) (n0 + 64) ⟨Nat.le_of_ble_eq_true rfl, Nat.le_of_ble_eq_true rfl⟩ ⟨Nat.add_le_add_left (Nat.le_of_ble_eq_true rfl) _, Nat.add_le_add_left (Nat.le_of_ble_eq_true rfl) _, by show _ ≤ 600104; omega, by show _ ≤ 7301313; omega⟩ rfl (am_lv_int (am_lv_int (am_lv_raw (am_lv_ref (hp_main _ _ _) (am_lv_ref (hp_a _ _ _ (f := 0) (by decide)) (am_lv_ref (hp_a _ _ _ (f := 1) (by decide)) (am_lv_ref (hp_a _ _ _ (f := 2) (by decide)) (am_lv_ref (hp_a _ _ _ (f := 3) (by decide)) (am_lv_ref (hp_o _ _ _) (am_lv_ref (hp_a _ _ _ (f := 4) (by decide)) (am_lv_ref (hp_a _ _ _ (f := 5) (by decide)) (am_lv_ref (hp_a _ _ _ (f := 6) (by decide)) (am_lv_ref (hp_a _ _ _ (f := 7) (by decide)) (am_lv_ref (hp_a _ _ _ (f := 8) (by decide)) (am_lv_int (am_lv_int (am_lv_int (am_lv_int (am_lv_int (am_lv_int (am_lv_int am_lv_nil))))))))))))))))))))) (Nat.le_of_ble_eq_true rfl) dL_law_672 [.int 2] rfl ?_
      refine am_go hF sgL_law_675_d5620 676 [(21, .int 0), (20, .int (nI z1)), (0, .retAddr b), (1, .ref 0), (2, .ref 500), (3, .ref 501), (4, .ref 502), (5, .ref 503), (6, .ref 464), (7, .ref 504), (8, .ref 505), (9, .ref 506), (10, .ref 507), (11, .ref 508), (12, .int (nI tn)), (13, .int A), (14, .int B), (16, .int (nI kd)), (17, .int (nI p)), (18, .int (nI l)), (19, .int (nI k))] [.int 2, .int 2] sgL_law_675_d5620d rfl ?_
      refine am_icmpeq hF 2626 dL_law_676 (by decide) (fun _ => ?_) (fun h9 => False.elim (absurd rfl h9))
      refine am_drop [2, 3, 4, 5, 6, 7, 8, 9, 10, 11, 12, 13, 14] [(0, .retAddr b), (1, .ref 0), (2, .ref 500), (3, .ref 501), (4, .ref 502), (5, .ref 503), (6, .ref 464), (7, .ref 504), (8, .ref 505), (9, .ref 506), (10, .ref 507), (11, .ref 508), (12, .int (nI tn))] rfl ?_
      exact Kc _ _ _ _ _ _ _ (qR_m hr9 (Nat.le_succ c)) rfl (by omega)
  · skip
    refine am_go hF sgL_law_638_0eb7c 647 [(21, .int 1), (20, .int (nI z1)), (0, .retAddr b), (1, .ref 0), (2, .ref 500), (3, .ref 501), (4, .ref 502), (5, .ref 503), (6, .ref 464), (7, .ref 504), (8, .ref 505), (9, .ref 506), (10, .ref 507), (11, .ref 508), (12, .int (nI tn)), (13, .int A), (14, .int B), (16, .int (nI kd)), (17, .int (nI p)), (18, .int (nI l)), (19, .int (nI k))] [.int 1] sgL_law_638_0eb7cd rfl ?_
    refine am_ifne hF 681 dL_law_647 (by decide) (fun _ => ?_) (fun h9 => False.elim (by revert h9; decide))
    refine am_go hF sgL_law_681_ac27c 690 [(21, .int 1), (20, .int (nI z1)), (0, .retAddr b), (1, .ref 0), (2, .ref 500), (3, .ref 501), (4, .ref 502), (5, .ref 503), (6, .ref 464), (7, .ref 504), (8, .ref 505), (9, .ref 506), (10, .ref 507), (11, .ref 508), (12, .int (nI tn)), (13, .int A), (14, .int B), (16, .int (nI kd)), (17, .int (nI p)), (18, .int (nI l)), (19, .int (nI k))] [.int ((8 * (nI l)) + 5), .ref 500, .int ((8 * (nI l)) + 5), .ref 500] sgL_law_681_ac27cd rfl ?_
    refine sv_iald hF 0 5 l 5 (by decide) (by decide) rfl (am_ad (am_mu rfl rfl) rfl) (show 8 * l + 5 < 32 by omega) (by decide) dL_law_690 ?_
    refine am_go hF sgL_law_691_4fdde 696 [(21, .int 1), (20, .int (nI z1)), (0, .retAddr b), (1, .ref 0), (2, .ref 500), (3, .ref 501), (4, .ref 502), (5, .ref 503), (6, .ref 464), (7, .ref 504), (8, .ref 505), (9, .ref 506), (10, .ref 507), (11, .ref 508), (12, .int (nI tn)), (13, .int A), (14, .int B), (16, .int (nI kd)), (17, .int (nI p)), (18, .int (nI l)), (19, .int (nI k))] [.int (((z90 S) 5 l) ^^^ (1 <<< ((nI z1) &&& 31))), .int ((8 * (nI l)) + 5), .ref 500] sgL_law_691_4fdded rfl ?_
    refine sv_iast hF 0 5 l 5 (by decide) (by decide) rfl (am_ad (am_mu rfl rfl) rfl) (show 8 * l + 5 < 32 by omega) (by decide) dL_law_696 ?_
    refine am_go hF sgL_law_697_fb490 702 [(21, .int 1), (20, .int (nI z1)), (0, .retAddr b), (1, .ref 0), (2, .ref 500), (3, .ref 501), (4, .ref 502), (5, .ref 503), (6, .ref 464), (7, .ref 504), (8, .ref 505), (9, .ref 506), (10, .ref 507), (11, .ref 508), (12, .int (nI tn)), (13, .int A), (14, .int B), (16, .int (nI kd)), (17, .int (nI p)), (18, .int (nI l)), (19, .int (nI k))] [.int (nI z1), .int (nI l), .ref 0] sgL_law_697_fb490d rfl ?_
    refine am_dV hF hO [.int (nI l), .int (nI z1)] [] (c_p_nest_n1 a1 (by omega) hl hz1 (nest_t hr9 hl hz1 c1)) myX5_nest vyX5_nest lm_RL_36 (hp_main _ _ _) rfl rfl (k0 + 8) (n0 + 64) ⟨Nat.le_of_ble_eq_true rfl, Nat.le_of_ble_eq_true rfl⟩ ⟨Nat.add_le_add_left (Nat.le_of_ble_eq_true rfl) _, Nat.add_le_add_left (Nat.le_of_ble_eq_true rfl) _, by show _ ≤ 600104; omega, by show _ ≤ 7301313; omega⟩ rfl (am_lv_int (am_lv_int (am_lv_raw (am_lv_ref (hp_main _ _ _) (am_lv_ref (hp_a _ _ _ (f := 0) (by decide)) (am_lv_ref (hp_a _ _ _ (f := 1) (by decide)) (am_lv_ref (hp_a _ _ _ (f := 2) (by decide)) (am_lv_ref (hp_a _ _ _ (f := 3) (by decide)) (am_lv_ref (hp_o _ _ _) (am_lv_ref (hp_a _ _ _ (f := 4) (by decide)) (am_lv_ref (hp_a _ _ _ (f := 5) (by decide)) (am_lv_ref (hp_a _ _ _ (f := 6) (by decide)) (am_lv_ref (hp_a _ _ _ (f := 7) (by decide)) (am_lv_ref (hp_a _ _ _ (f := 8) (by decide)) (am_lv_int (am_lv_int (am_lv_int (am_lv_int (am_lv_int (am_lv_int (am_lv_int am_lv_nil))))))))))))))))))))) (Nat.le_of_ble_eq_true rfl) dL_law_702 [.int 0] rfl ?_
    refine am_go hF sgL_law_705_79960 707 [(21, .int 1), (20, .int (nI z1)), (0, .retAddr b), (1, .ref 0), (2, .ref 500), (3, .ref 501), (4, .ref 502), (5, .ref 503), (6, .ref 464), (7, .ref 504), (8, .ref 505), (9, .ref 506), (10, .ref 507), (11, .ref 508), (12, .int (nI tn)), (13, .int A), (14, .int B), (16, .int (nI kd)), (17, .int (nI p)), (18, .int (nI l)), (19, .int (nI k))] [.int 1, .int 0] sgL_law_705_79960d rfl ?_
    refine am_icmpne hF 712 dL_law_707 (by decide) (fun _ => ?_) (fun h9 => False.elim (by revert h9; decide))
    refine am_go hF sgL_law_712_25ba4 2586 [(21, .int 1), (20, .int (nI z1)), (0, .retAddr b), (1, .ref 0), (2, .ref 500), (3, .ref 501), (4, .ref 502), (5, .ref 503), (6, .ref 464), (7, .ref 504), (8, .ref 505), (9, .ref 506), (10, .ref 507), (11, .ref 508), (12, .int (nI tn)), (13, .int A), (14, .int B), (16, .int (nI kd)), (17, .int (nI p)), (18, .int (nI l)), (19, .int (nI k))] [] sgL_law_712_25ba4d rfl ?_
    refine am_drop [2, 3, 4, 5, 6, 7, 8, 9, 10, 11, 12, 13, 14, 15, 19] [(0, .retAddr b), (1, .ref 0), (2, .ref 500), (3, .ref 501), (4, .ref 502), (5, .ref 503), (6, .ref 464), (7, .ref 504), (8, .ref 505), (9, .ref 506), (10, .ref 507), (11, .ref 508), (12, .int (nI tn)), (13, .int A), (18, .int (nI l))] rfl ?_
    exact law_same hF hO hG hc hk0 hn0 Kc (qR_m (q_nest hr9 hl hz1) (Nat.le_succ c)) rfl hl
set_option maxRecDepth 100000 in
set_option maxHeartbeats 8000000 in
theorem law_k9 {C : am_Cx} {X0 : am_H} {P0 : am_H → Option Value → Prop} {w0 : Cond} (hF : am_F C code 25 RL (w0 :: am_G)) (hO : am_O C X0 P0 room_1) (hG : C.la.stackTraces = false) {b tn k0 n0 c : Nat} (hc : c ≤ 63) (hk0 : k0 + 8 ≤ 600104) (hn0 : n0 + 64 ≤ 7301313) (Kc : ∀ (T S : am_T) (o : Nat → Int64) (n m v t : Nat), qR T S o n m v t (c + 1) → S 91 0 = 1 → 1 ≤ n → am_W C (hp T S o) (k0 + 8) (n0 + 64) 2626 [(0, .retAddr b), (1, .ref 0), (2, .ref 500), (3, .ref 501), (4, .ref 502), (5, .ref 503), (6, .ref 464), (7, .ref 504), (8, .ref 505), (9, .ref 506), (10, .ref 507), (11, .ref 508), (12, .int (nI tn))] []) {T S : am_T} {o : Nat → Int64} {n m v t : Nat} (h : qR T S o n m v t c) {A B : Int32} {kd p l k : Nat} (hp8 : p < 8) (hk26 : kd < 26) (hl : l < n ∨ n = 0 ∧ l = 0) (hk9 : k < m ∨ m = 0 ∧ k = 0) (hkd : 9 ≤ kd ∧ kd ≤ 9) (hn1 : 1 ≤ n) : am_W C (hp T (z90 S) o) k0 n0 177 [(0, .retAddr b), (1, .ref 0), (2, .ref 500), (3, .ref 501), (4, .ref 502), (5, .ref 503), (6, .ref 464), (7, .ref 504), (8, .ref 505), (9, .ref 506), (10, .ref 507), (11, .ref 508), (12, .int (nI tn)), (13, .int A), (14, .int B), (15, .ref 509), (16, .int (nI kd)), (17, .int (nI p)), (18, .int (nI l)), (19, .int (nI k))] [] := by
  obtain ⟨a1, a2, hn4, a4, a5, hm10, a7, hvm, a9, a10, ht14, a12⟩ := id h.1.1
  have hs := qB_safe h.1
  have hr9 := q_z90 h
  have z71 : z90 S 71 0 = nI n := a2
  have z72 : z90 S 72 0 = nI m := a5
  have z70 : z90 S 70 0 = nI t := a10
  refine am_drop [0, 1, 2, 3, 4, 5, 6, 7, 8, 9, 10, 11, 12, 13, 14, 16, 17, 18, 19] [(0, .retAddr b), (1, .ref 0), (2, .ref 500), (3, .ref 501), (4, .ref 502), (5, .ref 503), (6, .ref 464), (7, .ref 504), (8, .ref 505), (9, .ref 506), (10, .ref 507), (11, .ref 508), (12, .int (nI tn)), (13, .int A), (14, .int B), (16, .int (nI kd)), (17, .int (nI p)), (18, .int (nI l)), (19, .int (nI k))] rfl ?_
  have hl : l < n := by omega
  refine am_go hF sgL_law_177_426d9 180 [(0, .retAddr b), (1, .ref 0), (2, .ref 500), (3, .ref 501), (4, .ref 502), (5, .ref 503), (6, .ref 464), (7, .ref 504), (8, .ref 505), (9, .ref 506), (10, .ref 507), (11, .ref 508), (12, .int (nI tn)), (13, .int A), (14, .int B), (16, .int (nI kd)), (17, .int (nI p)), (18, .int (nI l)), (19, .int (nI k))] [.int 2, .int (nI kd)] sgL_law_177_426d9d rfl ?_
  refine am_icmpge hF 253 dL_law_180 (by decide) (fun _ => ?_) (fun h9 => False.elim (absurd (nc_ge (show 2 ≤ kd by omega) (by omega) (by omega) rfl rfl) h9))
  refine am_go hF sgL_law_253_6a8f4 257 [(0, .retAddr b), (1, .ref 0), (2, .ref 500), (3, .ref 501), (4, .ref 502), (5, .ref 503), (6, .ref 464), (7, .ref 504), (8, .ref 505), (9, .ref 506), (10, .ref 507), (11, .ref 508), (12, .int (nI tn)), (13, .int A), (14, .int B), (16, .int (nI kd)), (17, .int (nI p)), (18, .int (nI l)), (19, .int (nI k))] [.int 6, .int (nI kd)] sgL_law_253_6a8f4d rfl ?_
  refine am_icmpge hF 401 dL_law_257 (by decide) (fun _ => ?_) (fun h9 => False.elim (absurd (nc_ge (show 6 ≤ kd by omega) (by omega) (by omega) rfl rfl) h9))
  refine am_go hF sgL_law_401_6a8f4 405 [(0, .retAddr b), (1, .ref 0), (2, .ref 500), (3, .ref 501), (4, .ref 502), (5, .ref 503), (6, .ref 464), (7, .ref 504), (8, .ref 505), (9, .ref 506), (10, .ref 507), (11, .ref 508), (12, .int (nI tn)), (13, .int A), (14, .int B), (16, .int (nI kd)), (17, .int (nI p)), (18, .int (nI l)), (19, .int (nI k))] [.int 6, .int (nI kd)] sgL_law_401_6a8f4d rfl ?_
  refine am_icmpne hF 599 dL_law_405 (by decide) (fun _ => ?_) (fun h9 => False.elim (absurd h9 (nc_ne (show kd ≠ 6 by omega) (by omega) (by omega) rfl rfl)))
  refine am_go hF sgL_law_599_b4725 603 [(0, .retAddr b), (1, .ref 0), (2, .ref 500), (3, .ref 501), (4, .ref 502), (5, .ref 503), (6, .ref 464), (7, .ref 504), (8, .ref 505), (9, .ref 506), (10, .ref 507), (11, .ref 508), (12, .int (nI tn)), (13, .int A), (14, .int B), (16, .int (nI kd)), (17, .int (nI p)), (18, .int (nI l)), (19, .int (nI k))] [.int 9, .int (nI kd)] sgL_law_599_b4725d rfl ?_
  refine am_icmpge hF 715 dL_law_603 (by decide) (fun _ => ?_) (fun h9 => False.elim (absurd (nc_ge (show 9 ≤ kd by omega) (by omega) (by omega) rfl rfl) h9))
  refine am_go hF sgL_law_715_b4725 719 [(0, .retAddr b), (1, .ref 0), (2, .ref 500), (3, .ref 501), (4, .ref 502), (5, .ref 503), (6, .ref 464), (7, .ref 504), (8, .ref 505), (9, .ref 506), (10, .ref 507), (11, .ref 508), (12, .int (nI tn)), (13, .int A), (14, .int B), (16, .int (nI kd)), (17, .int (nI p)), (18, .int (nI l)), (19, .int (nI k))] [.int 9, .int (nI kd)] sgL_law_715_b4725d rfl ?_
  refine am_icmpne hF 853 dL_law_719 (by decide) (fun h9 => False.elim (nc_eq_f (show kd = 9 by omega) (by omega) (by omega) rfl rfl h9)) (fun _ => ?_)
  refine am_go hF sgL_law_722_fac95 730 [(0, .retAddr b), (1, .ref 0), (2, .ref 500), (3, .ref 501), (4, .ref 502), (5, .ref 503), (6, .ref 464), (7, .ref 504), (8, .ref 505), (9, .ref 506), (10, .ref 507), (11, .ref 508), (12, .int (nI tn)), (13, .int A), (14, .int B), (16, .int (nI kd)), (17, .int (nI p)), (18, .int (nI l)), (19, .int (nI k))] [.int ((8 * (nI l)) + 1), .ref 500] sgL_law_722_fac95d rfl ?_
  refine sv_iald hF 0 1 l 1 (by decide) (by decide) rfl (am_ad (am_mu rfl rfl) rfl) (show 8 * l + 1 < 32 by omega) (by decide) dL_law_730 ?_
  refine am_go hF sgL_law_731_520c9 749 [(20, .int ((z90 S) 1 l)), (0, .retAddr b), (1, .ref 0), (2, .ref 500), (3, .ref 501), (4, .ref 502), (5, .ref 503), (6, .ref 464), (7, .ref 504), (8, .ref 505), (9, .ref 506), (10, .ref 507), (11, .ref 508), (12, .int (nI tn)), (13, .int A), (14, .int B), (16, .int (nI kd)), (17, .int (nI p)), (18, .int (nI l)), (19, .int (nI k))] [.int 12, .int (B >>> (6 &&& 31)), .int 1, .int ((8 * (nI l)) + 1), .ref 500] sgL_law_731_520c9d rfl ?_
  obtain ⟨z2, hz2, ez2⟩ := low_ex (B >>> (6 &&& 31)) (m := 12) (by omega) (by omega)
  refine am_dS hF hO [.int (B >>> (6 &&& 31)), .int 12] [.int 1, .int ((8 * (nI l)) + 1), .ref 500] (c_low (v := B >>> (6 &&& 31)) (m := 12) (by omega) (by omega)) myL_low syL_low lm_RL_131 rfl k0 n0 ⟨Nat.le_of_ble_eq_true rfl, Nat.le_of_ble_eq_true rfl⟩ ⟨Nat.le_refl _, Nat.le_refl _, by show _ ≤ 600104; omega, by show _ ≤ 7301313; omega⟩ rfl (am_lv_int (am_lv_raw (am_lv_ref (hp_main _ _ _) (am_lv_ref (hp_a _ _ _ (f := 0) (by decide)) (am_lv_ref (hp_a _ _ _ (f := 1) (by decide)) (am_lv_ref (hp_a _ _ _ (f := 2) (by decide)) (am_lv_ref (hp_a _ _ _ (f := 3) (by decide)) (am_lv_ref (hp_o _ _ _) (am_lv_ref (hp_a _ _ _ (f := 4) (by decide)) (am_lv_ref (hp_a _ _ _ (f := 5) (by decide)) (am_lv_ref (hp_a _ _ _ (f := 6) (by decide)) (am_lv_ref (hp_a _ _ _ (f := 7) (by decide)) (am_lv_ref (hp_a _ _ _ (f := 8) (by decide)) (am_lv_int (am_lv_int (am_lv_int (am_lv_int (am_lv_int (am_lv_int (am_lv_int (am_lv_int (am_lv_int (am_lv_ref (hp_a _ _ _ (f := 0) (by decide)) am_lv_nil))))))))))))))))))))))) (Nat.le_of_ble_eq_true rfl) dL_law_749 [.int (lLow (B >>> (6 &&& 31)) 12), .int 1, .int ((8 * (nI l)) + 1), .ref 500] rfl ?_
  refine am_top (nI z2) ez2 ?_
  refine am_go hF sgL_law_752_830a0 753 [(20, .int ((z90 S) 1 l)), (0, .retAddr b), (1, .ref 0), (2, .ref 500), (3, .ref 501), (4, .ref 502), (5, .ref 503), (6, .ref 464), (7, .ref 504), (8, .ref 505), (9, .ref 506), (10, .ref 507), (11, .ref 508), (12, .int (nI tn)), (13, .int A), (14, .int B), (16, .int (nI kd)), (17, .int (nI p)), (18, .int (nI l)), (19, .int (nI k))] [.int (1 + (nI z2)), .int ((8 * (nI l)) + 1), .ref 500] sgL_law_752_830a0d rfl ?_
  refine am_top (nI (1 + z2)) (am_ad rfl rfl) ?_
  refine sv_iast hF 0 1 l 1 (by decide) (by decide) rfl (am_ad (am_mu rfl rfl) rfl) (show 8 * l + 1 < 32 by omega) (by decide) dL_law_753 ?_
  refine am_go hF sgL_law_754_cfc26 770 [(20, .int ((z90 S) 1 l)), (0, .retAddr b), (1, .ref 0), (2, .ref 500), (3, .ref 501), (4, .ref 502), (5, .ref 503), (6, .ref 464), (7, .ref 504), (8, .ref 505), (9, .ref 506), (10, .ref 507), (11, .ref 508), (12, .int (nI tn)), (13, .int A), (14, .int B), (16, .int (nI kd)), (17, .int (nI p)), (18, .int (nI l)), (19, .int (nI k))] [.int 6, .int (B >>> (10 &&& 31)), .int 1, .int ((8 * (nI l)) + 2), .ref 500] sgL_law_754_cfc26d rfl ?_
  obtain ⟨z3, hz3, ez3⟩ := low_ex (B >>> (10 &&& 31)) (m := 6) (by omega) (by omega)
  refine am_dS hF hO [.int (B >>> (10 &&& 31)), .int 6] [.int 1, .int ((8 * (nI l)) + 2), .ref 500] (c_low (v := B >>> (10 &&& 31)) (m := 6) (by omega) (by omega)) myL_low syL_low lm_RL_131 rfl k0 n0 ⟨Nat.le_of_ble_eq_true rfl, Nat.le_of_ble_eq_true rfl⟩ ⟨Nat.le_refl _, Nat.le_refl _, by show _ ≤ 600104; omega, by show _ ≤ 7301313; omega⟩ rfl (am_lv_int (am_lv_raw (am_lv_ref (hp_main _ _ _) (am_lv_ref (hp_a _ _ _ (f := 0) (by decide)) (am_lv_ref (hp_a _ _ _ (f := 1) (by decide)) (am_lv_ref (hp_a _ _ _ (f := 2) (by decide)) (am_lv_ref (hp_a _ _ _ (f := 3) (by decide)) (am_lv_ref (hp_o _ _ _) (am_lv_ref (hp_a _ _ _ (f := 4) (by decide)) (am_lv_ref (hp_a _ _ _ (f := 5) (by decide)) (am_lv_ref (hp_a _ _ _ (f := 6) (by decide)) (am_lv_ref (hp_a _ _ _ (f := 7) (by decide)) (am_lv_ref (hp_a _ _ _ (f := 8) (by decide)) (am_lv_int (am_lv_int (am_lv_int (am_lv_int (am_lv_int (am_lv_int (am_lv_int (am_lv_int (am_lv_int (am_lv_ref (hp_a _ _ _ (f := 0) (by decide)) am_lv_nil))))))))))))))))))))))) (Nat.le_of_ble_eq_true rfl) dL_law_770 [.int (lLow (B >>> (10 &&& 31)) 6), .int 1, .int ((8 * (nI l)) + 2), .ref 500] rfl ?_
  refine am_top (nI z3) ez3 ?_
  refine am_go hF sgL_law_773_830a0 774 [(20, .int ((z90 S) 1 l)), (0, .retAddr b), (1, .ref 0), (2, .ref 500), (3, .ref 501), (4, .ref 502), (5, .ref 503), (6, .ref 464), (7, .ref 504), (8, .ref 505), (9, .ref 506), (10, .ref 507), (11, .ref 508), (12, .int (nI tn)), (13, .int A), (14, .int B), (16, .int (nI kd)), (17, .int (nI p)), (18, .int (nI l)), (19, .int (nI k))] [.int (1 + (nI z3)), .int ((8 * (nI l)) + 2), .ref 500] sgL_law_773_830a0d rfl ?_
  refine am_top (nI (1 + z3)) (am_ad rfl rfl) ?_
  refine sv_iast hF 0 2 l 2 (by decide) (by decide) rfl (am_ad (am_mu rfl rfl) rfl) (show 8 * l + 2 < 32 by omega) (by decide) dL_law_774 ?_
  refine am_go hF sgL_law_775_43bd7 789 [(20, .int ((z90 S) 1 l)), (0, .retAddr b), (1, .ref 0), (2, .ref 500), (3, .ref 501), (4, .ref 502), (5, .ref 503), (6, .ref 464), (7, .ref 504), (8, .ref 505), (9, .ref 506), (10, .ref 507), (11, .ref 508), (12, .int (nI tn)), (13, .int A), (14, .int B), (16, .int (nI kd)), (17, .int (nI p)), (18, .int (nI l)), (19, .int (nI k))] [.int 3, .int (A >>> (9 &&& 31)), .int ((8 * (nI l)) + 3), .ref 500] sgL_law_775_43bd7d rfl ?_
  obtain ⟨z4, hz4, ez4⟩ := low_ex (A >>> (9 &&& 31)) (m := 3) (by omega) (by omega)
  refine am_dS hF hO [.int (A >>> (9 &&& 31)), .int 3] [.int ((8 * (nI l)) + 3), .ref 500] (c_low (v := A >>> (9 &&& 31)) (m := 3) (by omega) (by omega)) myL_low syL_low lm_RL_131 rfl k0 n0 ⟨Nat.le_of_ble_eq_true rfl, Nat.le_of_ble_eq_true rfl⟩ ⟨Nat.le_refl _, Nat.le_refl _, by show _ ≤ 600104; omega, by show _ ≤ 7301313; omega⟩ rfl (am_lv_int (am_lv_raw (am_lv_ref (hp_main _ _ _) (am_lv_ref (hp_a _ _ _ (f := 0) (by decide)) (am_lv_ref (hp_a _ _ _ (f := 1) (by decide)) (am_lv_ref (hp_a _ _ _ (f := 2) (by decide)) (am_lv_ref (hp_a _ _ _ (f := 3) (by decide)) (am_lv_ref (hp_o _ _ _) (am_lv_ref (hp_a _ _ _ (f := 4) (by decide)) (am_lv_ref (hp_a _ _ _ (f := 5) (by decide)) (am_lv_ref (hp_a _ _ _ (f := 6) (by decide)) (am_lv_ref (hp_a _ _ _ (f := 7) (by decide)) (am_lv_ref (hp_a _ _ _ (f := 8) (by decide)) (am_lv_int (am_lv_int (am_lv_int (am_lv_int (am_lv_int (am_lv_int (am_lv_int (am_lv_int (am_lv_ref (hp_a _ _ _ (f := 0) (by decide)) am_lv_nil)))))))))))))))))))))) (Nat.le_of_ble_eq_true rfl) dL_law_789 [.int (lLow (A >>> (9 &&& 31)) 3), .int ((8 * (nI l)) + 3), .ref 500] rfl ?_
  refine am_top (nI z4) ez4 ?_
  refine am_ifne hF 799 dL_law_792 (by decide) (fun c1 => ?_) (fun c1 => ?_)
  · skip
    refine am_go hF sgL_law_799_56c54 800 [(20, .int ((z90 S) 1 l)), (0, .retAddr b), (1, .ref 0), (2, .ref 500), (3, .ref 501), (4, .ref 502), (5, .ref 503), (6, .ref 464), (7, .ref 504), (8, .ref 505), (9, .ref 506), (10, .ref 507), (11, .ref 508), (12, .int (nI tn)), (13, .int A), (14, .int B), (16, .int (nI kd)), (17, .int (nI p)), (18, .int (nI l)), (19, .int (nI k))] [.int 0, .int ((8 * (nI l)) + 3), .ref 500] sgL_law_799_56c54d rfl ?_
    refine sv_iast hF 0 3 l 3 (by decide) (by decide) rfl (am_ad (am_mu rfl rfl) rfl) (show 8 * l + 3 < 32 by omega) (by decide) dL_law_800 ?_
    refine am_go hF sgL_law_801_ef3db 812 [(20, .int ((z90 S) 1 l)), (0, .retAddr b), (1, .ref 0), (2, .ref 500), (3, .ref 501), (4, .ref 502), (5, .ref 503), (6, .ref 464), (7, .ref 504), (8, .ref 505), (9, .ref 506), (10, .ref 507), (11, .ref 508), (12, .int (nI tn)), (13, .int A), (14, .int B), (16, .int (nI kd)), (17, .int (nI p)), (18, .int (nI l)), (19, .int (nI k))] [.int ((8 * (nI l)) + 1), .ref 500, .int (nI l), .ref 0] sgL_law_801_ef3dbd rfl ?_
    refine sv_iald hF 0 1 l 1 (by decide) (by decide) rfl (am_ad (am_mu rfl rfl) rfl) (show 8 * l + 1 < 32 by omega) (by decide) dL_law_812 ?_
    refine am_top (nI (1 + z2)) (st1_same (z90 S) 1 l (nI (1 + z2))) ?_
    refine am_go hF sgL_law_813_e5d76 821 [(20, .int ((z90 S) 1 l)), (0, .retAddr b), (1, .ref 0), (2, .ref 500), (3, .ref 501), (4, .ref 502), (5, .ref 503), (6, .ref 464), (7, .ref 504), (8, .ref 505), (9, .ref 506), (10, .ref 507), (11, .ref 508), (12, .int (nI tn)), (13, .int A), (14, .int B), (16, .int (nI kd)), (17, .int (nI p)), (18, .int (nI l)), (19, .int (nI k))] [.int ((8 * (nI l)) + 2), .ref 500, .int (nI (1 + z2)), .int (nI l), .ref 0] sgL_law_813_e5d76d rfl ?_
    refine sv_iald hF 0 2 l 2 (by decide) (by decide) rfl (am_ad (am_mu rfl rfl) rfl) (show 8 * l + 2 < 32 by omega) (by decide) dL_law_821 ?_
    refine am_top (nI (1 + z3)) (st1_same (st1 (z90 S) 1 l (nI (1 + z2))) 2 l (nI (1 + z3))) ?_
    refine am_go hF sgL_law_822_47d1f 830 [(20, .int ((z90 S) 1 l)), (0, .retAddr b), (1, .ref 0), (2, .ref 500), (3, .ref 501), (4, .ref 502), (5, .ref 503), (6, .ref 464), (7, .ref 504), (8, .ref 505), (9, .ref 506), (10, .ref 507), (11, .ref 508), (12, .int (nI tn)), (13, .int A), (14, .int B), (16, .int (nI kd)), (17, .int (nI p)), (18, .int (nI l)), (19, .int (nI k))] [.int ((8 * (nI l)) + 3), .ref 500, .int (nI (1 + z3)), .int (nI (1 + z2)), .int (nI l), .ref 0] sgL_law_822_47d1fd rfl ?_
    refine sv_iald hF 0 3 l 3 (by decide) (by decide) rfl (am_ad (am_mu rfl rfl) rfl) (show 8 * l + 3 < 32 by omega) (by decide) dL_law_830 ?_
    refine am_top 0 (st1_same (st1 (st1 (z90 S) 1 l (nI (1 + z2))) 2 l (nI (1 + z3))) 3 l 0) ?_
    refine am_go hF sgL_law_831_4de0a 832 [(20, .int ((z90 S) 1 l)), (0, .retAddr b), (1, .ref 0), (2, .ref 500), (3, .ref 501), (4, .ref 502), (5, .ref 503), (6, .ref 464), (7, .ref 504), (8, .ref 505), (9, .ref 506), (10, .ref 507), (11, .ref 508), (12, .int (nI tn)), (13, .int A), (14, .int B), (16, .int (nI kd)), (17, .int (nI p)), (18, .int (nI l)), (19, .int (nI k))] [.int 1, .int 0, .int (nI (1 + z3)), .int (nI (1 + z2)), .int (nI l), .ref 0] sgL_law_831_4de0ad rfl ?_
    refine am_icmpne hF 839 dL_law_832 (by decide) (fun _ => ?_) (fun h9 => False.elim (by revert h9; decide))
    refine am_go hF sgL_law_839_56c54 840 [(20, .int ((z90 S) 1 l)), (0, .retAddr b), (1, .ref 0), (2, .ref 500), (3, .ref 501), (4, .ref 502), (5, .ref 503), (6, .ref 464), (7, .ref 504), (8, .ref 505), (9, .ref 506), (10, .ref 507), (11, .ref 508), (12, .int (nI tn)), (13, .int A), (14, .int B), (16, .int (nI kd)), (17, .int (nI p)), (18, .int (nI l)), (19, .int (nI k))] [.int 0, .int (nI (1 + z3)), .int (nI (1 + z2)), .int (nI l), .ref 0] sgL_law_839_56c54d rfl ?_
    refine am_dV hF hO [.int (nI l), .int (nI (1 + z2)), .int (nI (1 + z3)), .int 0] [] (c_p_rules_n0 a1 (by omega) hl (nI_btw (z := 1 + z2) (a := 1) (b := 200) (by omega) (by omega) (by omega)) (nI_btw (z := 1 + z3) (a := 1) (b := 30) (by omega) (by omega) (by omega))) myX5_rules vyX5_rules lm_RL_141 (hp_main _ _ _) rfl rfl (k0 + 8) (n0 + 64) ⟨Nat.le_of_ble_eq_true rfl, Nat.le_of_ble_eq_true rfl⟩ ⟨Nat.add_le_add_left (Nat.le_of_ble_eq_true rfl) _, Nat.add_le_add_left (Nat.le_of_ble_eq_true rfl) _, by show _ ≤ 600104; omega, by show _ ≤ 7301313; omega⟩ rfl (am_lv_int (am_lv_raw (am_lv_ref (hp_main _ _ _) (am_lv_ref (hp_a _ _ _ (f := 0) (by decide)) (am_lv_ref (hp_a _ _ _ (f := 1) (by decide)) (am_lv_ref (hp_a _ _ _ (f := 2) (by decide)) (am_lv_ref (hp_a _ _ _ (f := 3) (by decide)) (am_lv_ref (hp_o _ _ _) (am_lv_ref (hp_a _ _ _ (f := 4) (by decide)) (am_lv_ref (hp_a _ _ _ (f := 5) (by decide)) (am_lv_ref (hp_a _ _ _ (f := 6) (by decide)) (am_lv_ref (hp_a _ _ _ (f := 7) (by decide)) (am_lv_ref (hp_a _ _ _ (f := 8) (by decide)) (am_lv_int (am_lv_int (am_lv_int (am_lv_int (am_lv_int (am_lv_int (am_lv_int am_lv_nil)))))))))))))))))))) (Nat.le_of_ble_eq_true rfl) dL_law_840 [.int (T 15 l)] rfl ?_
    refine am_go hF sgL_law_843_91f46 845 [(20, .int ((z90 S) 1 l)), (0, .retAddr b), (1, .ref 0), (2, .ref 500), (3, .ref 501), (4, .ref 502), (5, .ref 503), (6, .ref 464), (7, .ref 504), (8, .ref 505), (9, .ref 506), (10, .ref 507), (11, .ref 508), (12, .int (nI tn)), (13, .int A), (14, .int B), (16, .int (nI kd)), (17, .int (nI p)), (18, .int (nI l)), (19, .int (nI k))] [.int ((z90 S) 1 l), .int (T 15 l)] sgL_law_843_91f46d rfl ?_
    refine am_icmpeq hF 850 dL_law_845 (by decide) (fun _ => ?_) (fun h9 => False.elim (absurd ((hr9.1.2.2.1 l hl).2.2.1) h9))
    refine am_go hF sgL_law_850_ad608 2586 [(20, .int ((z90 S) 1 l)), (0, .retAddr b), (1, .ref 0), (2, .ref 500), (3, .ref 501), (4, .ref 502), (5, .ref 503), (6, .ref 464), (7, .ref 504), (8, .ref 505), (9, .ref 506), (10, .ref 507), (11, .ref 508), (12, .int (nI tn)), (13, .int A), (14, .int B), (16, .int (nI kd)), (17, .int (nI p)), (18, .int (nI l)), (19, .int (nI k))] [] sgL_law_850_ad608d rfl ?_
    refine am_drop [1, 2, 3, 4, 5, 6, 7, 8, 9, 10, 11, 12, 13, 14, 18] [(0, .retAddr b), (1, .ref 0), (2, .ref 500), (3, .ref 501), (4, .ref 502), (5, .ref 503), (6, .ref 464), (7, .ref 504), (8, .ref 505), (9, .ref 506), (10, .ref 507), (11, .ref 508), (12, .int (nI tn)), (13, .int A), (18, .int (nI l))] rfl ?_
    exact law_same hF hO hG hc hk0 hn0 Kc (qR_m (q_rules (z := 1 + z3) (b := 0) hr9 hl ⟨by omega, by omega⟩ (by decide)) (Nat.le_succ c)) rfl hl
  · skip
    refine am_go hF sgL_law_795_1c64c 800 [(20, .int ((z90 S) 1 l)), (0, .retAddr b), (1, .ref 0), (2, .ref 500), (3, .ref 501), (4, .ref 502), (5, .ref 503), (6, .ref 464), (7, .ref 504), (8, .ref 505), (9, .ref 506), (10, .ref 507), (11, .ref 508), (12, .int (nI tn)), (13, .int A), (14, .int B), (16, .int (nI kd)), (17, .int (nI p)), (18, .int (nI l)), (19, .int (nI k))] [.int 1, .int ((8 * (nI l)) + 3), .ref 500] sgL_law_795_1c64cd rfl ?_
    refine sv_iast hF 0 3 l 3 (by decide) (by decide) rfl (am_ad (am_mu rfl rfl) rfl) (show 8 * l + 3 < 32 by omega) (by decide) dL_law_800 ?_
    refine am_go hF sgL_law_801_ef3db 812 [(20, .int ((z90 S) 1 l)), (0, .retAddr b), (1, .ref 0), (2, .ref 500), (3, .ref 501), (4, .ref 502), (5, .ref 503), (6, .ref 464), (7, .ref 504), (8, .ref 505), (9, .ref 506), (10, .ref 507), (11, .ref 508), (12, .int (nI tn)), (13, .int A), (14, .int B), (16, .int (nI kd)), (17, .int (nI p)), (18, .int (nI l)), (19, .int (nI k))] [.int ((8 * (nI l)) + 1), .ref 500, .int (nI l), .ref 0] sgL_law_801_ef3dbd rfl ?_
    refine sv_iald hF 0 1 l 1 (by decide) (by decide) rfl (am_ad (am_mu rfl rfl) rfl) (show 8 * l + 1 < 32 by omega) (by decide) dL_law_812 ?_
    refine am_top (nI (1 + z2)) (st1_same (z90 S) 1 l (nI (1 + z2))) ?_
    refine am_go hF sgL_law_813_e5d76 821 [(20, .int ((z90 S) 1 l)), (0, .retAddr b), (1, .ref 0), (2, .ref 500), (3, .ref 501), (4, .ref 502), (5, .ref 503), (6, .ref 464), (7, .ref 504), (8, .ref 505), (9, .ref 506), (10, .ref 507), (11, .ref 508), (12, .int (nI tn)), (13, .int A), (14, .int B), (16, .int (nI kd)), (17, .int (nI p)), (18, .int (nI l)), (19, .int (nI k))] [.int ((8 * (nI l)) + 2), .ref 500, .int (nI (1 + z2)), .int (nI l), .ref 0] sgL_law_813_e5d76d rfl ?_
    refine sv_iald hF 0 2 l 2 (by decide) (by decide) rfl (am_ad (am_mu rfl rfl) rfl) (show 8 * l + 2 < 32 by omega) (by decide) dL_law_821 ?_
    refine am_top (nI (1 + z3)) (st1_same (st1 (z90 S) 1 l (nI (1 + z2))) 2 l (nI (1 + z3))) ?_
    refine am_go hF sgL_law_822_47d1f 830 [(20, .int ((z90 S) 1 l)), (0, .retAddr b), (1, .ref 0), (2, .ref 500), (3, .ref 501), (4, .ref 502), (5, .ref 503), (6, .ref 464), (7, .ref 504), (8, .ref 505), (9, .ref 506), (10, .ref 507), (11, .ref 508), (12, .int (nI tn)), (13, .int A), (14, .int B), (16, .int (nI kd)), (17, .int (nI p)), (18, .int (nI l)), (19, .int (nI k))] [.int ((8 * (nI l)) + 3), .ref 500, .int (nI (1 + z3)), .int (nI (1 + z2)), .int (nI l), .ref 0] sgL_law_822_47d1fd rfl ?_
    refine sv_iald hF 0 3 l 3 (by decide) (by decide) rfl (am_ad (am_mu rfl rfl) rfl) (show 8 * l + 3 < 32 by omega) (by decide) dL_law_830 ?_
    refine am_top 1 (st1_same (st1 (st1 (z90 S) 1 l (nI (1 + z2))) 2 l (nI (1 + z3))) 3 l 1) ?_
    refine am_go hF sgL_law_831_4de0a 832 [(20, .int ((z90 S) 1 l)), (0, .retAddr b), (1, .ref 0), (2, .ref 500), (3, .ref 501), (4, .ref 502), (5, .ref 503), (6, .ref 464), (7, .ref 504), (8, .ref 505), (9, .ref 506), (10, .ref 507), (11, .ref 508), (12, .int (nI tn)), (13, .int A), (14, .int B), (16, .int (nI kd)), (17, .int (nI p)), (18, .int (nI l)), (19, .int (nI k))] [.int 1, .int 1, .int (nI (1 + z3)), .int (nI (1 + z2)), .int (nI l), .ref 0] sgL_law_831_4de0ad rfl ?_
    refine am_icmpne hF 839 dL_law_832 (by decide) (fun h9 => False.elim (absurd rfl h9)) (fun _ => ?_)
    refine am_go hF sgL_law_835_1c64c 840 [(20, .int ((z90 S) 1 l)), (0, .retAddr b), (1, .ref 0), (2, .ref 500), (3, .ref 501), (4, .ref 502), (5, .ref 503), (6, .ref 464), (7, .ref 504), (8, .ref 505), (9, .ref 506), (10, .ref 507), (11, .ref 508), (12, .int (nI tn)), (13, .int A), (14, .int B), (16, .int (nI kd)), (17, .int (nI p)), (18, .int (nI l)), (19, .int (nI k))] [.int 1, .int (nI (1 + z3)), .int (nI (1 + z2)), .int (nI l), .ref 0] sgL_law_835_1c64cd rfl ?_
    refine am_dV hF hO [.int (nI l), .int (nI (1 + z2)), .int (nI (1 + z3)), .int 1] [] (c_p_rules_n1 a1 (by omega) hl (nI_btw (z := 1 + z2) (a := 1) (b := 200) (by omega) (by omega) (by omega)) (nI_btw (z := 1 + z3) (a := 1) (b := 30) (by omega) (by omega) (by omega))) myX5_rules vyX5_rules lm_RL_141 (hp_main _ _ _) rfl rfl (k0 + 8) (n0 + 64) ⟨Nat.le_of_ble_eq_true rfl, Nat.le_of_ble_eq_true rfl⟩ ⟨Nat.add_le_add_left (Nat.le_of_ble_eq_true rfl) _, Nat.add_le_add_left (Nat.le_of_ble_eq_true rfl) _, by show _ ≤ 600104; omega, by show _ ≤ 7301313; omega⟩ rfl (am_lv_int (am_lv_raw (am_lv_ref (hp_main _ _ _) (am_lv_ref (hp_a _ _ _ (f := 0) (by decide)) (am_lv_ref (hp_a _ _ _ (f := 1) (by decide)) (am_lv_ref (hp_a _ _ _ (f := 2) (by decide)) (am_lv_ref (hp_a _ _ _ (f := 3) (by decide)) (am_lv_ref (hp_o _ _ _) (am_lv_ref (hp_a _ _ _ (f := 4) (by decide)) (am_lv_ref (hp_a _ _ _ (f := 5) (by decide)) (am_lv_ref (hp_a _ _ _ (f := 6) (by decide)) (am_lv_ref (hp_a _ _ _ (f := 7) (by decide)) (am_lv_ref (hp_a _ _ _ (f := 8) (by decide)) (am_lv_int (am_lv_int (am_lv_int (am_lv_int (am_lv_int (am_lv_int (am_lv_int am_lv_nil)))))))))))))))))))) (Nat.le_of_ble_eq_true rfl) dL_law_840 [.int (T 15 l)] rfl ?_
    refine am_go hF sgL_law_843_91f46 845 [(20, .int ((z90 S) 1 l)), (0, .retAddr b), (1, .ref 0), (2, .ref 500), (3, .ref 501), (4, .ref 502), (5, .ref 503), (6, .ref 464), (7, .ref 504), (8, .ref 505), (9, .ref 506), (10, .ref 507), (11, .ref 508), (12, .int (nI tn)), (13, .int A), (14, .int B), (16, .int (nI kd)), (17, .int (nI p)), (18, .int (nI l)), (19, .int (nI k))] [.int ((z90 S) 1 l), .int (T 15 l)] sgL_law_843_91f46d rfl ?_
    refine am_icmpeq hF 850 dL_law_845 (by decide) (fun _ => ?_) (fun h9 => False.elim (absurd ((hr9.1.2.2.1 l hl).2.2.1) h9))
    refine am_go hF sgL_law_850_ad608 2586 [(20, .int ((z90 S) 1 l)), (0, .retAddr b), (1, .ref 0), (2, .ref 500), (3, .ref 501), (4, .ref 502), (5, .ref 503), (6, .ref 464), (7, .ref 504), (8, .ref 505), (9, .ref 506), (10, .ref 507), (11, .ref 508), (12, .int (nI tn)), (13, .int A), (14, .int B), (16, .int (nI kd)), (17, .int (nI p)), (18, .int (nI l)), (19, .int (nI k))] [] sgL_law_850_ad608d rfl ?_
    refine am_drop [1, 2, 3, 4, 5, 6, 7, 8, 9, 10, 11, 12, 13, 14, 18] [(0, .retAddr b), (1, .ref 0), (2, .ref 500), (3, .ref 501), (4, .ref 502), (5, .ref 503), (6, .ref 464), (7, .ref 504), (8, .ref 505), (9, .ref 506), (10, .ref 507), (11, .ref 508), (12, .int (nI tn)), (13, .int A), (18, .int (nI l))] rfl ?_
    exact law_same hF hO hG hc hk0 hn0 Kc (qR_m (q_rules (z := 1 + z3) (b := 1) hr9 hl ⟨by omega, by omega⟩ (by decide)) (Nat.le_succ c)) rfl hl
set_option maxRecDepth 100000 in
set_option maxHeartbeats 8000000 in
theorem law_k10 {C : am_Cx} {X0 : am_H} {P0 : am_H → Option Value → Prop} {w0 : Cond} (hF : am_F C code 25 RL (w0 :: am_G)) (hO : am_O C X0 P0 room_1) (hG : C.la.stackTraces = false) {b tn k0 n0 c : Nat} (hc : c ≤ 63) (hk0 : k0 + 8 ≤ 600104) (hn0 : n0 + 64 ≤ 7301313) (Kc : ∀ (T S : am_T) (o : Nat → Int64) (n m v t : Nat), qR T S o n m v t (c + 1) → S 91 0 = 1 → 1 ≤ n → am_W C (hp T S o) (k0 + 8) (n0 + 64) 2626 [(0, .retAddr b), (1, .ref 0), (2, .ref 500), (3, .ref 501), (4, .ref 502), (5, .ref 503), (6, .ref 464), (7, .ref 504), (8, .ref 505), (9, .ref 506), (10, .ref 507), (11, .ref 508), (12, .int (nI tn))] []) {T S : am_T} {o : Nat → Int64} {n m v t : Nat} (h : qR T S o n m v t c) {A B : Int32} {kd p l k : Nat} (hp8 : p < 8) (hk26 : kd < 26) (hl : l < n ∨ n = 0 ∧ l = 0) (hk9 : k < m ∨ m = 0 ∧ k = 0) (hkd : 10 ≤ kd ∧ kd ≤ 10) (hn1 : 1 ≤ n) : am_W C (hp T (z90 S) o) k0 n0 177 [(0, .retAddr b), (1, .ref 0), (2, .ref 500), (3, .ref 501), (4, .ref 502), (5, .ref 503), (6, .ref 464), (7, .ref 504), (8, .ref 505), (9, .ref 506), (10, .ref 507), (11, .ref 508), (12, .int (nI tn)), (13, .int A), (14, .int B), (15, .ref 509), (16, .int (nI kd)), (17, .int (nI p)), (18, .int (nI l)), (19, .int (nI k))] [] := by
  obtain ⟨a1, a2, hn4, a4, a5, hm10, a7, hvm, a9, a10, ht14, a12⟩ := id h.1.1
  have hs := qB_safe h.1
  have hr9 := q_z90 h
  have z71 : z90 S 71 0 = nI n := a2
  have z72 : z90 S 72 0 = nI m := a5
  have z70 : z90 S 70 0 = nI t := a10
  refine am_drop [0, 1, 2, 3, 4, 5, 6, 7, 8, 9, 10, 11, 12, 13, 14, 16, 17, 18, 19] [(0, .retAddr b), (1, .ref 0), (2, .ref 500), (3, .ref 501), (4, .ref 502), (5, .ref 503), (6, .ref 464), (7, .ref 504), (8, .ref 505), (9, .ref 506), (10, .ref 507), (11, .ref 508), (12, .int (nI tn)), (13, .int A), (14, .int B), (16, .int (nI kd)), (17, .int (nI p)), (18, .int (nI l)), (19, .int (nI k))] rfl ?_
  have hl : l < n := by omega
  refine am_go hF sgL_law_177_426d9 180 [(0, .retAddr b), (1, .ref 0), (2, .ref 500), (3, .ref 501), (4, .ref 502), (5, .ref 503), (6, .ref 464), (7, .ref 504), (8, .ref 505), (9, .ref 506), (10, .ref 507), (11, .ref 508), (12, .int (nI tn)), (13, .int A), (14, .int B), (16, .int (nI kd)), (17, .int (nI p)), (18, .int (nI l)), (19, .int (nI k))] [.int 2, .int (nI kd)] sgL_law_177_426d9d rfl ?_
  refine am_icmpge hF 253 dL_law_180 (by decide) (fun _ => ?_) (fun h9 => False.elim (absurd (nc_ge (show 2 ≤ kd by omega) (by omega) (by omega) rfl rfl) h9))
  refine am_go hF sgL_law_253_6a8f4 257 [(0, .retAddr b), (1, .ref 0), (2, .ref 500), (3, .ref 501), (4, .ref 502), (5, .ref 503), (6, .ref 464), (7, .ref 504), (8, .ref 505), (9, .ref 506), (10, .ref 507), (11, .ref 508), (12, .int (nI tn)), (13, .int A), (14, .int B), (16, .int (nI kd)), (17, .int (nI p)), (18, .int (nI l)), (19, .int (nI k))] [.int 6, .int (nI kd)] sgL_law_253_6a8f4d rfl ?_
  refine am_icmpge hF 401 dL_law_257 (by decide) (fun _ => ?_) (fun h9 => False.elim (absurd (nc_ge (show 6 ≤ kd by omega) (by omega) (by omega) rfl rfl) h9))
  refine am_go hF sgL_law_401_6a8f4 405 [(0, .retAddr b), (1, .ref 0), (2, .ref 500), (3, .ref 501), (4, .ref 502), (5, .ref 503), (6, .ref 464), (7, .ref 504), (8, .ref 505), (9, .ref 506), (10, .ref 507), (11, .ref 508), (12, .int (nI tn)), (13, .int A), (14, .int B), (16, .int (nI kd)), (17, .int (nI p)), (18, .int (nI l)), (19, .int (nI k))] [.int 6, .int (nI kd)] sgL_law_401_6a8f4d rfl ?_
  refine am_icmpne hF 599 dL_law_405 (by decide) (fun _ => ?_) (fun h9 => False.elim (absurd h9 (nc_ne (show kd ≠ 6 by omega) (by omega) (by omega) rfl rfl)))
  refine am_go hF sgL_law_599_b4725 603 [(0, .retAddr b), (1, .ref 0), (2, .ref 500), (3, .ref 501), (4, .ref 502), (5, .ref 503), (6, .ref 464), (7, .ref 504), (8, .ref 505), (9, .ref 506), (10, .ref 507), (11, .ref 508), (12, .int (nI tn)), (13, .int A), (14, .int B), (16, .int (nI kd)), (17, .int (nI p)), (18, .int (nI l)), (19, .int (nI k))] [.int 9, .int (nI kd)] sgL_law_599_b4725d rfl ?_
  refine am_icmpge hF 715 dL_law_603 (by decide) (fun _ => ?_) (fun h9 => False.elim (absurd (nc_ge (show 9 ≤ kd by omega) (by omega) (by omega) rfl rfl) h9))
  refine am_go hF sgL_law_715_b4725 719 [(0, .retAddr b), (1, .ref 0), (2, .ref 500), (3, .ref 501), (4, .ref 502), (5, .ref 503), (6, .ref 464), (7, .ref 504), (8, .ref 505), (9, .ref 506), (10, .ref 507), (11, .ref 508), (12, .int (nI tn)), (13, .int A), (14, .int B), (16, .int (nI kd)), (17, .int (nI p)), (18, .int (nI l)), (19, .int (nI k))] [.int 9, .int (nI kd)] sgL_law_715_b4725d rfl ?_
  refine am_icmpne hF 853 dL_law_719 (by decide) (fun _ => ?_) (fun h9 => False.elim (absurd h9 (nc_ne (show kd ≠ 9 by omega) (by omega) (by omega) rfl rfl)))
  refine am_go hF sgL_law_853_d5f12 857 [(0, .retAddr b), (1, .ref 0), (2, .ref 500), (3, .ref 501), (4, .ref 502), (5, .ref 503), (6, .ref 464), (7, .ref 504), (8, .ref 505), (9, .ref 506), (10, .ref 507), (11, .ref 508), (12, .int (nI tn)), (13, .int A), (14, .int B), (16, .int (nI kd)), (17, .int (nI p)), (18, .int (nI l)), (19, .int (nI k))] [.int 10, .int (nI kd)] sgL_law_853_d5f12d rfl ?_
  refine am_icmpne hF 912 dL_law_857 (by decide) (fun h9 => False.elim (nc_eq_f (show kd = 10 by omega) (by omega) (by omega) rfl rfl h9)) (fun _ => ?_)
  refine am_go hF sgL_law_860_b1759 869 [(0, .retAddr b), (1, .ref 0), (2, .ref 500), (3, .ref 501), (4, .ref 502), (5, .ref 503), (6, .ref 464), (7, .ref 504), (8, .ref 505), (9, .ref 506), (10, .ref 507), (11, .ref 508), (12, .int (nI tn)), (13, .int A), (14, .int B), (16, .int (nI kd)), (17, .int (nI p)), (18, .int (nI l)), (19, .int (nI k))] [.int ((8 * (nI l)) + 4), .ref 500, .int ((8 * (nI l)) + 4), .ref 500] sgL_law_860_b1759d rfl ?_
  refine sv_iald hF 0 4 l 4 (by decide) (by decide) rfl (am_ad (am_mu rfl rfl) rfl) (show 8 * l + 4 < 32 by omega) (by decide) dL_law_869 ?_
  refine am_go hF sgL_law_870_48e34 875 [(0, .retAddr b), (1, .ref 0), (2, .ref 500), (3, .ref 501), (4, .ref 502), (5, .ref 503), (6, .ref 464), (7, .ref 504), (8, .ref 505), (9, .ref 506), (10, .ref 507), (11, .ref 508), (12, .int (nI tn)), (13, .int A), (14, .int B), (16, .int (nI kd)), (17, .int (nI p)), (18, .int (nI l)), (19, .int (nI k))] [.int (((z90 S) 4 l) ^^^ (1 <<< ((nI p) &&& 31))), .int ((8 * (nI l)) + 4), .ref 500] sgL_law_870_48e34d rfl ?_
  refine sv_iast hF 0 4 l 4 (by decide) (by decide) rfl (am_ad (am_mu rfl rfl) rfl) (show 8 * l + 4 < 32 by omega) (by decide) dL_law_875 ?_
  refine am_go hF sgL_law_876_a2e5e 881 [(0, .retAddr b), (1, .ref 0), (2, .ref 500), (3, .ref 501), (4, .ref 502), (5, .ref 503), (6, .ref 464), (7, .ref 504), (8, .ref 505), (9, .ref 506), (10, .ref 507), (11, .ref 508), (12, .int (nI tn)), (13, .int A), (14, .int B), (16, .int (nI kd)), (17, .int (nI p)), (18, .int (nI l)), (19, .int (nI k))] [.int (nI p), .int (nI l), .ref 0] sgL_law_876_a2e5ed rfl ?_
  refine am_dV hF hO [.int (nI l), .int (nI p)] [] (c_p_bar_n a1 (by omega) hl (show p < 16 by omega)) myX5_bar vyX5_bar lm_RL_145 (hp_main _ _ _) rfl rfl (k0 + 8) (n0 + 64) ⟨Nat.le_of_ble_eq_true rfl, Nat.le_of_ble_eq_true rfl⟩ ⟨Nat.add_le_add_left (Nat.le_of_ble_eq_true rfl) _, Nat.add_le_add_left (Nat.le_of_ble_eq_true rfl) _, by show _ ≤ 600104; omega, by show _ ≤ 7301313; omega⟩ rfl (am_lv_raw (am_lv_ref (hp_main _ _ _) (am_lv_ref (hp_a _ _ _ (f := 0) (by decide)) (am_lv_ref (hp_a _ _ _ (f := 1) (by decide)) (am_lv_ref (hp_a _ _ _ (f := 2) (by decide)) (am_lv_ref (hp_a _ _ _ (f := 3) (by decide)) (am_lv_ref (hp_o _ _ _) (am_lv_ref (hp_a _ _ _ (f := 4) (by decide)) (am_lv_ref (hp_a _ _ _ (f := 5) (by decide)) (am_lv_ref (hp_a _ _ _ (f := 6) (by decide)) (am_lv_ref (hp_a _ _ _ (f := 7) (by decide)) (am_lv_ref (hp_a _ _ _ (f := 8) (by decide)) (am_lv_int (am_lv_int (am_lv_int (am_lv_int (am_lv_int (am_lv_int (am_lv_int am_lv_nil))))))))))))))))))) (Nat.le_of_ble_eq_true rfl) dL_law_881 [.int (zb (bt (T 14 l ^^^ ((1 : Int32) <<< (nI p &&& 31))) p))] rfl ?_
  refine am_go hF sgL_law_884_45220 892 [(0, .retAddr b), (1, .ref 0), (2, .ref 500), (3, .ref 501), (4, .ref 502), (5, .ref 503), (6, .ref 464), (7, .ref 504), (8, .ref 505), (9, .ref 506), (10, .ref 507), (11, .ref 508), (12, .int (nI tn)), (13, .int A), (14, .int B), (16, .int (nI kd)), (17, .int (nI p)), (18, .int (nI l)), (19, .int (nI k))] [.int ((8 * (nI l)) + 4), .ref 500, .int (zb (bt (T 14 l ^^^ ((1 : Int32) <<< (nI p &&& 31))) p))] sgL_law_884_45220d rfl ?_
  refine sv_iald hF 0 4 l 4 (by decide) (by decide) rfl (am_ad (am_mu rfl rfl) rfl) (show 8 * l + 4 < 32 by omega) (by decide) dL_law_892 ?_
  refine am_top (((z90 S) 4 l) ^^^ (1 <<< ((nI p) &&& 31))) (st1_same (z90 S) 4 l (((z90 S) 4 l) ^^^ (1 <<< ((nI p) &&& 31)))) ?_
  refine am_go hF sgL_law_893_8d34b 899 [(0, .retAddr b), (1, .ref 0), (2, .ref 500), (3, .ref 501), (4, .ref 502), (5, .ref 503), (6, .ref 464), (7, .ref 504), (8, .ref 505), (9, .ref 506), (10, .ref 507), (11, .ref 508), (12, .int (nI tn)), (13, .int A), (14, .int B), (16, .int (nI kd)), (17, .int (nI p)), (18, .int (nI l)), (19, .int (nI k))] [.int 1, .int (((((z90 S) 4 l) ^^^ (1 <<< ((nI p) &&& 31))) >>> ((nI p) &&& 31)) &&& 1), .int (zb (bt (T 14 l ^^^ ((1 : Int32) <<< (nI p &&& 31))) p))] sgL_law_893_8d34bd rfl ?_
  refine am_icmpne hF 906 dL_law_899 (by decide) (fun c1 => ?_) (fun c1 => ?_)
  · skip
    refine am_go hF sgL_law_906_56c54 907 [(0, .retAddr b), (1, .ref 0), (2, .ref 500), (3, .ref 501), (4, .ref 502), (5, .ref 503), (6, .ref 464), (7, .ref 504), (8, .ref 505), (9, .ref 506), (10, .ref 507), (11, .ref 508), (12, .int (nI tn)), (13, .int A), (14, .int B), (16, .int (nI kd)), (17, .int (nI p)), (18, .int (nI l)), (19, .int (nI k))] [.int 0, .int (zb (bt (T 14 l ^^^ ((1 : Int32) <<< (nI p &&& 31))) p))] sgL_law_906_56c54d rfl ?_
    refine am_icmpeq hF 2586 dL_law_907 (by decide) (fun _ => ?_) (fun h9 => False.elim (absurd ((bar_ans hr9 hl hp8).trans (zb_01 (by omega) c1)) h9))
    refine am_drop [0, 1, 2, 3, 4, 5, 6, 7, 8, 9, 10, 11, 12, 13, 17] [(0, .retAddr b), (1, .ref 0), (2, .ref 500), (3, .ref 501), (4, .ref 502), (5, .ref 503), (6, .ref 464), (7, .ref 504), (8, .ref 505), (9, .ref 506), (10, .ref 507), (11, .ref 508), (12, .int (nI tn)), (13, .int A), (18, .int (nI l))] rfl ?_
    exact law_same hF hO hG hc hk0 hn0 Kc (qR_m (q_bar hr9 hl) (Nat.le_succ c)) rfl hl
  · skip
    refine am_go hF sgL_law_902_1c64c 907 [(0, .retAddr b), (1, .ref 0), (2, .ref 500), (3, .ref 501), (4, .ref 502), (5, .ref 503), (6, .ref 464), (7, .ref 504), (8, .ref 505), (9, .ref 506), (10, .ref 507), (11, .ref 508), (12, .int (nI tn)), (13, .int A), (14, .int B), (16, .int (nI kd)), (17, .int (nI p)), (18, .int (nI l)), (19, .int (nI k))] [.int 1, .int (zb (bt (T 14 l ^^^ ((1 : Int32) <<< (nI p &&& 31))) p))] sgL_law_902_1c64cd rfl ?_
    refine am_icmpeq hF 2586 dL_law_907 (by decide) (fun _ => ?_) (fun h9 => False.elim (absurd ((bar_ans hr9 hl hp8).trans c1) h9))
    refine am_drop [0, 1, 2, 3, 4, 5, 6, 7, 8, 9, 10, 11, 12, 13, 17] [(0, .retAddr b), (1, .ref 0), (2, .ref 500), (3, .ref 501), (4, .ref 502), (5, .ref 503), (6, .ref 464), (7, .ref 504), (8, .ref 505), (9, .ref 506), (10, .ref 507), (11, .ref 508), (12, .int (nI tn)), (13, .int A), (18, .int (nI l))] rfl ?_
    exact law_same hF hO hG hc hk0 hn0 Kc (qR_m (q_bar hr9 hl) (Nat.le_succ c)) rfl hl
set_option maxRecDepth 100000 in
set_option maxHeartbeats 8000000 in
theorem law_k11 {C : am_Cx} {X0 : am_H} {P0 : am_H → Option Value → Prop} {w0 : Cond} (hF : am_F C code 25 RL (w0 :: am_G)) (hO : am_O C X0 P0 room_1) (hG : C.la.stackTraces = false) {b tn k0 n0 c : Nat} (hc : c ≤ 63) (hk0 : k0 + 8 ≤ 600104) (hn0 : n0 + 64 ≤ 7301313) (Kc : ∀ (T S : am_T) (o : Nat → Int64) (n m v t : Nat), qR T S o n m v t (c + 1) → S 91 0 = 1 → 1 ≤ n → am_W C (hp T S o) (k0 + 8) (n0 + 64) 2626 [(0, .retAddr b), (1, .ref 0), (2, .ref 500), (3, .ref 501), (4, .ref 502), (5, .ref 503), (6, .ref 464), (7, .ref 504), (8, .ref 505), (9, .ref 506), (10, .ref 507), (11, .ref 508), (12, .int (nI tn))] []) {T S : am_T} {o : Nat → Int64} {n m v t : Nat} (h : qR T S o n m v t c) {A B : Int32} {kd p l k : Nat} (hp8 : p < 8) (hk26 : kd < 26) (hl : l < n ∨ n = 0 ∧ l = 0) (hk9 : k < m ∨ m = 0 ∧ k = 0) (hkd : 11 ≤ kd ∧ kd ≤ 11) (hn1 : 1 ≤ n) : am_W C (hp T (z90 S) o) k0 n0 177 [(0, .retAddr b), (1, .ref 0), (2, .ref 500), (3, .ref 501), (4, .ref 502), (5, .ref 503), (6, .ref 464), (7, .ref 504), (8, .ref 505), (9, .ref 506), (10, .ref 507), (11, .ref 508), (12, .int (nI tn)), (13, .int A), (14, .int B), (15, .ref 509), (16, .int (nI kd)), (17, .int (nI p)), (18, .int (nI l)), (19, .int (nI k))] [] := by
  obtain ⟨a1, a2, hn4, a4, a5, hm10, a7, hvm, a9, a10, ht14, a12⟩ := id h.1.1
  have hs := qB_safe h.1
  have hr9 := q_z90 h
  have z71 : z90 S 71 0 = nI n := a2
  have z72 : z90 S 72 0 = nI m := a5
  have z70 : z90 S 70 0 = nI t := a10
  refine am_drop [0, 1, 2, 3, 4, 5, 6, 7, 8, 9, 10, 11, 12, 13, 14, 16, 17, 18, 19] [(0, .retAddr b), (1, .ref 0), (2, .ref 500), (3, .ref 501), (4, .ref 502), (5, .ref 503), (6, .ref 464), (7, .ref 504), (8, .ref 505), (9, .ref 506), (10, .ref 507), (11, .ref 508), (12, .int (nI tn)), (13, .int A), (14, .int B), (16, .int (nI kd)), (17, .int (nI p)), (18, .int (nI l)), (19, .int (nI k))] rfl ?_
  have hl : l < n := by omega
  refine am_go hF sgL_law_177_426d9 180 [(0, .retAddr b), (1, .ref 0), (2, .ref 500), (3, .ref 501), (4, .ref 502), (5, .ref 503), (6, .ref 464), (7, .ref 504), (8, .ref 505), (9, .ref 506), (10, .ref 507), (11, .ref 508), (12, .int (nI tn)), (13, .int A), (14, .int B), (16, .int (nI kd)), (17, .int (nI p)), (18, .int (nI l)), (19, .int (nI k))] [.int 2, .int (nI kd)] sgL_law_177_426d9d rfl ?_
  refine am_icmpge hF 253 dL_law_180 (by decide) (fun _ => ?_) (fun h9 => False.elim (absurd (nc_ge (show 2 ≤ kd by omega) (by omega) (by omega) rfl rfl) h9))
  refine am_go hF sgL_law_253_6a8f4 257 [(0, .retAddr b), (1, .ref 0), (2, .ref 500), (3, .ref 501), (4, .ref 502), (5, .ref 503), (6, .ref 464), (7, .ref 504), (8, .ref 505), (9, .ref 506), (10, .ref 507), (11, .ref 508), (12, .int (nI tn)), (13, .int A), (14, .int B), (16, .int (nI kd)), (17, .int (nI p)), (18, .int (nI l)), (19, .int (nI k))] [.int 6, .int (nI kd)] sgL_law_253_6a8f4d rfl ?_
  refine am_icmpge hF 401 dL_law_257 (by decide) (fun _ => ?_) (fun h9 => False.elim (absurd (nc_ge (show 6 ≤ kd by omega) (by omega) (by omega) rfl rfl) h9))
  refine am_go hF sgL_law_401_6a8f4 405 [(0, .retAddr b), (1, .ref 0), (2, .ref 500), (3, .ref 501), (4, .ref 502), (5, .ref 503), (6, .ref 464), (7, .ref 504), (8, .ref 505), (9, .ref 506), (10, .ref 507), (11, .ref 508), (12, .int (nI tn)), (13, .int A), (14, .int B), (16, .int (nI kd)), (17, .int (nI p)), (18, .int (nI l)), (19, .int (nI k))] [.int 6, .int (nI kd)] sgL_law_401_6a8f4d rfl ?_
  refine am_icmpne hF 599 dL_law_405 (by decide) (fun _ => ?_) (fun h9 => False.elim (absurd h9 (nc_ne (show kd ≠ 6 by omega) (by omega) (by omega) rfl rfl)))
  refine am_go hF sgL_law_599_b4725 603 [(0, .retAddr b), (1, .ref 0), (2, .ref 500), (3, .ref 501), (4, .ref 502), (5, .ref 503), (6, .ref 464), (7, .ref 504), (8, .ref 505), (9, .ref 506), (10, .ref 507), (11, .ref 508), (12, .int (nI tn)), (13, .int A), (14, .int B), (16, .int (nI kd)), (17, .int (nI p)), (18, .int (nI l)), (19, .int (nI k))] [.int 9, .int (nI kd)] sgL_law_599_b4725d rfl ?_
  refine am_icmpge hF 715 dL_law_603 (by decide) (fun _ => ?_) (fun h9 => False.elim (absurd (nc_ge (show 9 ≤ kd by omega) (by omega) (by omega) rfl rfl) h9))
  refine am_go hF sgL_law_715_b4725 719 [(0, .retAddr b), (1, .ref 0), (2, .ref 500), (3, .ref 501), (4, .ref 502), (5, .ref 503), (6, .ref 464), (7, .ref 504), (8, .ref 505), (9, .ref 506), (10, .ref 507), (11, .ref 508), (12, .int (nI tn)), (13, .int A), (14, .int B), (16, .int (nI kd)), (17, .int (nI p)), (18, .int (nI l)), (19, .int (nI k))] [.int 9, .int (nI kd)] sgL_law_715_b4725d rfl ?_
  refine am_icmpne hF 853 dL_law_719 (by decide) (fun _ => ?_) (fun h9 => False.elim (absurd h9 (nc_ne (show kd ≠ 9 by omega) (by omega) (by omega) rfl rfl)))
  refine am_go hF sgL_law_853_d5f12 857 [(0, .retAddr b), (1, .ref 0), (2, .ref 500), (3, .ref 501), (4, .ref 502), (5, .ref 503), (6, .ref 464), (7, .ref 504), (8, .ref 505), (9, .ref 506), (10, .ref 507), (11, .ref 508), (12, .int (nI tn)), (13, .int A), (14, .int B), (16, .int (nI kd)), (17, .int (nI p)), (18, .int (nI l)), (19, .int (nI k))] [.int 10, .int (nI kd)] sgL_law_853_d5f12d rfl ?_
  refine am_icmpne hF 912 dL_law_857 (by decide) (fun _ => ?_) (fun h9 => False.elim (absurd h9 (nc_ne (show kd ≠ 10 by omega) (by omega) (by omega) rfl rfl)))
  refine am_go hF sgL_law_912_8491f 916 [(0, .retAddr b), (1, .ref 0), (2, .ref 500), (3, .ref 501), (4, .ref 502), (5, .ref 503), (6, .ref 464), (7, .ref 504), (8, .ref 505), (9, .ref 506), (10, .ref 507), (11, .ref 508), (12, .int (nI tn)), (13, .int A), (14, .int B), (16, .int (nI kd)), (17, .int (nI p)), (18, .int (nI l)), (19, .int (nI k))] [.int 11, .int (nI kd)] sgL_law_912_8491fd rfl ?_
  refine am_icmpne hF 973 dL_law_916 (by decide) (fun h9 => False.elim (nc_eq_f (show kd = 11 by omega) (by omega) (by omega) rfl rfl h9)) (fun _ => ?_)
  refine am_go hF sgL_law_919_8459e 925 [(0, .retAddr b), (1, .ref 0), (2, .ref 500), (3, .ref 501), (4, .ref 502), (5, .ref 503), (6, .ref 464), (7, .ref 504), (8, .ref 505), (9, .ref 506), (10, .ref 507), (11, .ref 508), (12, .int (nI tn)), (13, .int A), (14, .int B), (16, .int (nI kd)), (17, .int (nI p)), (18, .int (nI l)), (19, .int (nI k))] [.int 4, .int (A >>> (9 &&& 31))] sgL_law_919_8459ed rfl ?_
  obtain ⟨z5, hz5, ez5⟩ := low_ex (A >>> (9 &&& 31)) (m := 4) (by omega) (by omega)
  refine am_dS hF hO [.int (A >>> (9 &&& 31)), .int 4] [] (c_low (v := A >>> (9 &&& 31)) (m := 4) (by omega) (by omega)) myL_low syL_low lm_RL_131 rfl k0 n0 ⟨Nat.le_of_ble_eq_true rfl, Nat.le_of_ble_eq_true rfl⟩ ⟨Nat.le_refl _, Nat.le_refl _, by show _ ≤ 600104; omega, by show _ ≤ 7301313; omega⟩ rfl (am_lv_raw (am_lv_ref (hp_main _ _ _) (am_lv_ref (hp_a _ _ _ (f := 0) (by decide)) (am_lv_ref (hp_a _ _ _ (f := 1) (by decide)) (am_lv_ref (hp_a _ _ _ (f := 2) (by decide)) (am_lv_ref (hp_a _ _ _ (f := 3) (by decide)) (am_lv_ref (hp_o _ _ _) (am_lv_ref (hp_a _ _ _ (f := 4) (by decide)) (am_lv_ref (hp_a _ _ _ (f := 5) (by decide)) (am_lv_ref (hp_a _ _ _ (f := 6) (by decide)) (am_lv_ref (hp_a _ _ _ (f := 7) (by decide)) (am_lv_ref (hp_a _ _ _ (f := 8) (by decide)) (am_lv_int (am_lv_int (am_lv_int (am_lv_int (am_lv_int (am_lv_int (am_lv_int am_lv_nil))))))))))))))))))) (Nat.le_of_ble_eq_true rfl) dL_law_925 [.int (lLow (A >>> (9 &&& 31)) 4)] rfl ?_
  refine am_top (nI z5) ez5 ?_
  refine am_go hF sgL_law_928_b11ac 930 [(20, .int (nI z5)), (0, .retAddr b), (1, .ref 0), (2, .ref 500), (3, .ref 501), (4, .ref 502), (5, .ref 503), (6, .ref 464), (7, .ref 504), (8, .ref 505), (9, .ref 506), (10, .ref 507), (11, .ref 508), (12, .int (nI tn)), (13, .int A), (14, .int B), (16, .int (nI kd)), (17, .int (nI p)), (18, .int (nI l)), (19, .int (nI k))] [] sgL_law_928_b11acd rfl ?_
  refine am_go hF sgL_law_930_0b1a1 934 [(20, .int (nI z5)), (0, .retAddr b), (1, .ref 0), (2, .ref 500), (3, .ref 501), (4, .ref 502), (5, .ref 503), (6, .ref 464), (7, .ref 504), (8, .ref 505), (9, .ref 506), (10, .ref 507), (11, .ref 508), (12, .int (nI tn)), (13, .int A), (14, .int B), (16, .int (nI kd)), (17, .int (nI p)), (18, .int (nI l)), (19, .int (nI k))] [.int (nI z5), .ref 508] sgL_law_930_0b1a1d rfl ?_
  refine sv_iald1 hF 8 z5 80 (by decide) rfl rfl rfl (show z5 < 4 by omega) (by decide) dL_law_934 ?_
  refine am_go hF sgL_law_935_e20f3 945 [(21, .int ((z90 S) 80 z5)), (20, .int (nI z5)), (0, .retAddr b), (1, .ref 0), (2, .ref 500), (3, .ref 501), (4, .ref 502), (5, .ref 503), (6, .ref 464), (7, .ref 504), (8, .ref 505), (9, .ref 506), (10, .ref 507), (11, .ref 508), (12, .int (nI tn)), (13, .int A), (14, .int B), (16, .int (nI kd)), (17, .int (nI p)), (18, .int (nI l)), (19, .int (nI k))] [.int 31, .int B, .int (nI z5), .ref 508] sgL_law_935_e20f3d rfl ?_
  obtain ⟨z6, hz6, ez6⟩ := low_ex B (m := 31) (by omega) (by omega)
  refine am_dS hF hO [.int B, .int 31] [.int (nI z5), .ref 508] (c_low (v := B) (m := 31) (by omega) (by omega)) myL_low syL_low lm_RL_131 rfl k0 n0 ⟨Nat.le_of_ble_eq_true rfl, Nat.le_of_ble_eq_true rfl⟩ ⟨Nat.le_refl _, Nat.le_refl _, by show _ ≤ 600104; omega, by show _ ≤ 7301313; omega⟩ rfl (am_lv_int (am_lv_int (am_lv_raw (am_lv_ref (hp_main _ _ _) (am_lv_ref (hp_a _ _ _ (f := 0) (by decide)) (am_lv_ref (hp_a _ _ _ (f := 1) (by decide)) (am_lv_ref (hp_a _ _ _ (f := 2) (by decide)) (am_lv_ref (hp_a _ _ _ (f := 3) (by decide)) (am_lv_ref (hp_o _ _ _) (am_lv_ref (hp_a _ _ _ (f := 4) (by decide)) (am_lv_ref (hp_a _ _ _ (f := 5) (by decide)) (am_lv_ref (hp_a _ _ _ (f := 6) (by decide)) (am_lv_ref (hp_a _ _ _ (f := 7) (by decide)) (am_lv_ref (hp_a _ _ _ (f := 8) (by decide)) (am_lv_int (am_lv_int (am_lv_int (am_lv_int (am_lv_int (am_lv_int (am_lv_int (am_lv_int (am_lv_ref (hp_a _ _ _ (f := 8) (by decide)) am_lv_nil))))))))))))))))))))))) (Nat.le_of_ble_eq_true rfl) dL_law_945 [.int (lLow B 31), .int (nI z5), .ref 508] rfl ?_
  refine am_top (nI z6) ez6 ?_
  refine am_go hF sgL_law_948_c4396 951 [(21, .int ((z90 S) 80 z5)), (20, .int (nI z5)), (0, .retAddr b), (1, .ref 0), (2, .ref 500), (3, .ref 501), (4, .ref 502), (5, .ref 503), (6, .ref 464), (7, .ref 504), (8, .ref 505), (9, .ref 506), (10, .ref 507), (11, .ref 508), (12, .int (nI tn)), (13, .int A), (14, .int B), (16, .int (nI kd)), (17, .int (nI p)), (18, .int (nI l)), (19, .int (nI k))] [.int ((nI z6) - 10), .int (nI z5), .ref 508] sgL_law_948_c4396d rfl ?_
  refine sv_iast1 hF 8 z5 80 (by decide) rfl rfl rfl (show z5 < 4 by omega) (by decide) dL_law_951 ?_
  refine am_go hF sgL_law_952_05618 959 [(21, .int ((z90 S) 80 z5)), (20, .int (nI z5)), (0, .retAddr b), (1, .ref 0), (2, .ref 500), (3, .ref 501), (4, .ref 502), (5, .ref 503), (6, .ref 464), (7, .ref 504), (8, .ref 505), (9, .ref 506), (10, .ref 507), (11, .ref 508), (12, .int (nI tn)), (13, .int A), (14, .int B), (16, .int (nI kd)), (17, .int (nI p)), (18, .int (nI l)), (19, .int (nI k))] [.int (nI z5), .ref 508, .int (nI z5), .ref 0] sgL_law_952_05618d rfl ?_
  refine sv_iald1 hF 8 z5 80 (by decide) rfl rfl rfl (show z5 < 4 by omega) (by decide) dL_law_959 ?_
  refine am_top ((nI z6) - 10) (st1_same (z90 S) 80 z5 ((nI z6) - 10)) ?_
  refine am_dV hF hO [.int (nI z5), .int ((nI z6) - 10)] [] (c_p_word_n (show z5 < 20 by omega) (word_rng z6 hz6)) myX5_word vyX5_word lm_RL_148 (hp_main _ _ _) rfl rfl (k0 + 8) (n0 + 64) ⟨Nat.le_of_ble_eq_true rfl, Nat.le_of_ble_eq_true rfl⟩ ⟨Nat.add_le_add_left (Nat.le_of_ble_eq_true rfl) _, Nat.add_le_add_left (Nat.le_of_ble_eq_true rfl) _, by show _ ≤ 600104; omega, by show _ ≤ 7301313; omega⟩ rfl (am_lv_int (am_lv_int (am_lv_raw (am_lv_ref (hp_main _ _ _) (am_lv_ref (hp_a _ _ _ (f := 0) (by decide)) (am_lv_ref (hp_a _ _ _ (f := 1) (by decide)) (am_lv_ref (hp_a _ _ _ (f := 2) (by decide)) (am_lv_ref (hp_a _ _ _ (f := 3) (by decide)) (am_lv_ref (hp_o _ _ _) (am_lv_ref (hp_a _ _ _ (f := 4) (by decide)) (am_lv_ref (hp_a _ _ _ (f := 5) (by decide)) (am_lv_ref (hp_a _ _ _ (f := 6) (by decide)) (am_lv_ref (hp_a _ _ _ (f := 7) (by decide)) (am_lv_ref (hp_a _ _ _ (f := 8) (by decide)) (am_lv_int (am_lv_int (am_lv_int (am_lv_int (am_lv_int (am_lv_int (am_lv_int am_lv_nil))))))))))))))))))))) (Nat.le_of_ble_eq_true rfl) dL_law_960 [.int (T 4 z5)] rfl ?_
  refine am_go hF sgL_law_963_79960 965 [(21, .int ((z90 S) 80 z5)), (20, .int (nI z5)), (0, .retAddr b), (1, .ref 0), (2, .ref 500), (3, .ref 501), (4, .ref 502), (5, .ref 503), (6, .ref 464), (7, .ref 504), (8, .ref 505), (9, .ref 506), (10, .ref 507), (11, .ref 508), (12, .int (nI tn)), (13, .int A), (14, .int B), (16, .int (nI kd)), (17, .int (nI p)), (18, .int (nI l)), (19, .int (nI k))] [.int ((z90 S) 80 z5), .int (T 4 z5)] sgL_law_963_79960d rfl ?_
  refine am_icmpeq hF 970 dL_law_965 (by decide) (fun _ => ?_) (fun h9 => False.elim (absurd (a12 z5 hz5) h9))
  refine am_go hF sgL_law_970_0db0f 2586 [(21, .int ((z90 S) 80 z5)), (20, .int (nI z5)), (0, .retAddr b), (1, .ref 0), (2, .ref 500), (3, .ref 501), (4, .ref 502), (5, .ref 503), (6, .ref 464), (7, .ref 504), (8, .ref 505), (9, .ref 506), (10, .ref 507), (11, .ref 508), (12, .int (nI tn)), (13, .int A), (14, .int B), (16, .int (nI kd)), (17, .int (nI p)), (18, .int (nI l)), (19, .int (nI k))] [] sgL_law_970_0db0fd rfl ?_
  refine am_drop [2, 3, 4, 5, 6, 7, 8, 9, 10, 11, 12, 13, 14, 15, 19] [(0, .retAddr b), (1, .ref 0), (2, .ref 500), (3, .ref 501), (4, .ref 502), (5, .ref 503), (6, .ref 464), (7, .ref 504), (8, .ref 505), (9, .ref 506), (10, .ref 507), (11, .ref 508), (12, .int (nI tn)), (13, .int A), (18, .int (nI l))] rfl ?_
  exact law_same hF hO hG hc hk0 hn0 Kc (qR_m (q_word hr9 hz5) (Nat.le_succ c)) rfl hl
set_option maxRecDepth 100000 in
set_option maxHeartbeats 8000000 in
theorem law_k24 {C : am_Cx} {X0 : am_H} {P0 : am_H → Option Value → Prop} {w0 : Cond} (hF : am_F C code 25 RL (w0 :: am_G)) (hO : am_O C X0 P0 room_1) (hG : C.la.stackTraces = false) {b tn k0 n0 c : Nat} (hc : c ≤ 63) (hk0 : k0 + 8 ≤ 600104) (hn0 : n0 + 64 ≤ 7301313) (Kc : ∀ (T S : am_T) (o : Nat → Int64) (n m v t : Nat), qR T S o n m v t (c + 1) → S 91 0 = 1 → 1 ≤ n → am_W C (hp T S o) (k0 + 8) (n0 + 64) 2626 [(0, .retAddr b), (1, .ref 0), (2, .ref 500), (3, .ref 501), (4, .ref 502), (5, .ref 503), (6, .ref 464), (7, .ref 504), (8, .ref 505), (9, .ref 506), (10, .ref 507), (11, .ref 508), (12, .int (nI tn))] []) {T S : am_T} {o : Nat → Int64} {n m v t : Nat} (h : qR T S o n m v t c) {A B : Int32} {kd p l k : Nat} (hp8 : p < 8) (hk26 : kd < 26) (hl : l < n ∨ n = 0 ∧ l = 0) (hk9 : k < m ∨ m = 0 ∧ k = 0) (hkd : 24 ≤ kd ∧ kd ≤ 24) (hn1 : 1 ≤ n) : am_W C (hp T (z90 S) o) k0 n0 177 [(0, .retAddr b), (1, .ref 0), (2, .ref 500), (3, .ref 501), (4, .ref 502), (5, .ref 503), (6, .ref 464), (7, .ref 504), (8, .ref 505), (9, .ref 506), (10, .ref 507), (11, .ref 508), (12, .int (nI tn)), (13, .int A), (14, .int B), (15, .ref 509), (16, .int (nI kd)), (17, .int (nI p)), (18, .int (nI l)), (19, .int (nI k))] [] := by
  obtain ⟨a1, a2, hn4, a4, a5, hm10, a7, hvm, a9, a10, ht14, a12⟩ := id h.1.1
  have hs := qB_safe h.1
  have hr9 := q_z90 h
  have z71 : z90 S 71 0 = nI n := a2
  have z72 : z90 S 72 0 = nI m := a5
  have z70 : z90 S 70 0 = nI t := a10
  refine am_drop [0, 1, 2, 3, 4, 5, 6, 7, 8, 9, 10, 11, 12, 13, 14, 16, 17, 18, 19] [(0, .retAddr b), (1, .ref 0), (2, .ref 500), (3, .ref 501), (4, .ref 502), (5, .ref 503), (6, .ref 464), (7, .ref 504), (8, .ref 505), (9, .ref 506), (10, .ref 507), (11, .ref 508), (12, .int (nI tn)), (13, .int A), (14, .int B), (16, .int (nI kd)), (17, .int (nI p)), (18, .int (nI l)), (19, .int (nI k))] rfl ?_
  have hl : l < n := by omega
  refine am_go hF sgL_law_177_426d9 180 [(0, .retAddr b), (1, .ref 0), (2, .ref 500), (3, .ref 501), (4, .ref 502), (5, .ref 503), (6, .ref 464), (7, .ref 504), (8, .ref 505), (9, .ref 506), (10, .ref 507), (11, .ref 508), (12, .int (nI tn)), (13, .int A), (14, .int B), (16, .int (nI kd)), (17, .int (nI p)), (18, .int (nI l)), (19, .int (nI k))] [.int 2, .int (nI kd)] sgL_law_177_426d9d rfl ?_
  refine am_icmpge hF 253 dL_law_180 (by decide) (fun _ => ?_) (fun h9 => False.elim (absurd (nc_ge (show 2 ≤ kd by omega) (by omega) (by omega) rfl rfl) h9))
  refine am_go hF sgL_law_253_6a8f4 257 [(0, .retAddr b), (1, .ref 0), (2, .ref 500), (3, .ref 501), (4, .ref 502), (5, .ref 503), (6, .ref 464), (7, .ref 504), (8, .ref 505), (9, .ref 506), (10, .ref 507), (11, .ref 508), (12, .int (nI tn)), (13, .int A), (14, .int B), (16, .int (nI kd)), (17, .int (nI p)), (18, .int (nI l)), (19, .int (nI k))] [.int 6, .int (nI kd)] sgL_law_253_6a8f4d rfl ?_
  refine am_icmpge hF 401 dL_law_257 (by decide) (fun _ => ?_) (fun h9 => False.elim (absurd (nc_ge (show 6 ≤ kd by omega) (by omega) (by omega) rfl rfl) h9))
  refine am_go hF sgL_law_401_6a8f4 405 [(0, .retAddr b), (1, .ref 0), (2, .ref 500), (3, .ref 501), (4, .ref 502), (5, .ref 503), (6, .ref 464), (7, .ref 504), (8, .ref 505), (9, .ref 506), (10, .ref 507), (11, .ref 508), (12, .int (nI tn)), (13, .int A), (14, .int B), (16, .int (nI kd)), (17, .int (nI p)), (18, .int (nI l)), (19, .int (nI k))] [.int 6, .int (nI kd)] sgL_law_401_6a8f4d rfl ?_
  refine am_icmpne hF 599 dL_law_405 (by decide) (fun _ => ?_) (fun h9 => False.elim (absurd h9 (nc_ne (show kd ≠ 6 by omega) (by omega) (by omega) rfl rfl)))
  refine am_go hF sgL_law_599_b4725 603 [(0, .retAddr b), (1, .ref 0), (2, .ref 500), (3, .ref 501), (4, .ref 502), (5, .ref 503), (6, .ref 464), (7, .ref 504), (8, .ref 505), (9, .ref 506), (10, .ref 507), (11, .ref 508), (12, .int (nI tn)), (13, .int A), (14, .int B), (16, .int (nI kd)), (17, .int (nI p)), (18, .int (nI l)), (19, .int (nI k))] [.int 9, .int (nI kd)] sgL_law_599_b4725d rfl ?_
  refine am_icmpge hF 715 dL_law_603 (by decide) (fun _ => ?_) (fun h9 => False.elim (absurd (nc_ge (show 9 ≤ kd by omega) (by omega) (by omega) rfl rfl) h9))
  refine am_go hF sgL_law_715_b4725 719 [(0, .retAddr b), (1, .ref 0), (2, .ref 500), (3, .ref 501), (4, .ref 502), (5, .ref 503), (6, .ref 464), (7, .ref 504), (8, .ref 505), (9, .ref 506), (10, .ref 507), (11, .ref 508), (12, .int (nI tn)), (13, .int A), (14, .int B), (16, .int (nI kd)), (17, .int (nI p)), (18, .int (nI l)), (19, .int (nI k))] [.int 9, .int (nI kd)] sgL_law_715_b4725d rfl ?_
  refine am_icmpne hF 853 dL_law_719 (by decide) (fun _ => ?_) (fun h9 => False.elim (absurd h9 (nc_ne (show kd ≠ 9 by omega) (by omega) (by omega) rfl rfl)))
  refine am_go hF sgL_law_853_d5f12 857 [(0, .retAddr b), (1, .ref 0), (2, .ref 500), (3, .ref 501), (4, .ref 502), (5, .ref 503), (6, .ref 464), (7, .ref 504), (8, .ref 505), (9, .ref 506), (10, .ref 507), (11, .ref 508), (12, .int (nI tn)), (13, .int A), (14, .int B), (16, .int (nI kd)), (17, .int (nI p)), (18, .int (nI l)), (19, .int (nI k))] [.int 10, .int (nI kd)] sgL_law_853_d5f12d rfl ?_
  refine am_icmpne hF 912 dL_law_857 (by decide) (fun _ => ?_) (fun h9 => False.elim (absurd h9 (nc_ne (show kd ≠ 10 by omega) (by omega) (by omega) rfl rfl)))
  refine am_go hF sgL_law_912_8491f 916 [(0, .retAddr b), (1, .ref 0), (2, .ref 500), (3, .ref 501), (4, .ref 502), (5, .ref 503), (6, .ref 464), (7, .ref 504), (8, .ref 505), (9, .ref 506), (10, .ref 507), (11, .ref 508), (12, .int (nI tn)), (13, .int A), (14, .int B), (16, .int (nI kd)), (17, .int (nI p)), (18, .int (nI l)), (19, .int (nI k))] [.int 11, .int (nI kd)] sgL_law_912_8491fd rfl ?_
  refine am_icmpne hF 973 dL_law_916 (by decide) (fun _ => ?_) (fun h9 => False.elim (absurd h9 (nc_ne (show kd ≠ 11 by omega) (by omega) (by omega) rfl rfl)))
  refine am_go hF sgL_law_973_0ba45 977 [(0, .retAddr b), (1, .ref 0), (2, .ref 500), (3, .ref 501), (4, .ref 502), (5, .ref 503), (6, .ref 464), (7, .ref 504), (8, .ref 505), (9, .ref 506), (10, .ref 507), (11, .ref 508), (12, .int (nI tn)), (13, .int A), (14, .int B), (16, .int (nI kd)), (17, .int (nI p)), (18, .int (nI l)), (19, .int (nI k))] [.int 18, .int (nI kd)] sgL_law_973_0ba45d rfl ?_
  refine am_icmpge hF 1388 dL_law_977 (by decide) (fun _ => ?_) (fun h9 => False.elim (absurd (nc_ge (show 18 ≤ kd by omega) (by omega) (by omega) rfl rfl) h9))
  refine am_go hF sgL_law_1388_0ba45 1392 [(0, .retAddr b), (1, .ref 0), (2, .ref 500), (3, .ref 501), (4, .ref 502), (5, .ref 503), (6, .ref 464), (7, .ref 504), (8, .ref 505), (9, .ref 506), (10, .ref 507), (11, .ref 508), (12, .int (nI tn)), (13, .int A), (14, .int B), (16, .int (nI kd)), (17, .int (nI p)), (18, .int (nI l)), (19, .int (nI k))] [.int 18, .int (nI kd)] sgL_law_1388_0ba45d rfl ?_
  refine am_icmpne hF 1581 dL_law_1392 (by decide) (fun _ => ?_) (fun h9 => False.elim (absurd h9 (nc_ne (show kd ≠ 18 by omega) (by omega) (by omega) rfl rfl)))
  refine am_go hF sgL_law_1581_f6cf3 1585 [(0, .retAddr b), (1, .ref 0), (2, .ref 500), (3, .ref 501), (4, .ref 502), (5, .ref 503), (6, .ref 464), (7, .ref 504), (8, .ref 505), (9, .ref 506), (10, .ref 507), (11, .ref 508), (12, .int (nI tn)), (13, .int A), (14, .int B), (16, .int (nI kd)), (17, .int (nI p)), (18, .int (nI l)), (19, .int (nI k))] [.int 21, .int (nI kd)] sgL_law_1581_f6cf3d rfl ?_
  refine am_icmpge hF 1857 dL_law_1585 (by decide) (fun _ => ?_) (fun h9 => False.elim (absurd (nc_ge (show 21 ≤ kd by omega) (by omega) (by omega) rfl rfl) h9))
  refine am_go hF sgL_law_1857_8b990 1861 [(0, .retAddr b), (1, .ref 0), (2, .ref 500), (3, .ref 501), (4, .ref 502), (5, .ref 503), (6, .ref 464), (7, .ref 504), (8, .ref 505), (9, .ref 506), (10, .ref 507), (11, .ref 508), (12, .int (nI tn)), (13, .int A), (14, .int B), (16, .int (nI kd)), (17, .int (nI p)), (18, .int (nI l)), (19, .int (nI k))] [.int 24, .int (nI kd)] sgL_law_1857_8b990d rfl ?_
  refine am_icmpge hF 2317 dL_law_1861 (by decide) (fun _ => ?_) (fun h9 => False.elim (absurd (nc_ge (show 24 ≤ kd by omega) (by omega) (by omega) rfl rfl) h9))
  refine am_go hF sgL_law_2317_8b990 2321 [(0, .retAddr b), (1, .ref 0), (2, .ref 500), (3, .ref 501), (4, .ref 502), (5, .ref 503), (6, .ref 464), (7, .ref 504), (8, .ref 505), (9, .ref 506), (10, .ref 507), (11, .ref 508), (12, .int (nI tn)), (13, .int A), (14, .int B), (16, .int (nI kd)), (17, .int (nI p)), (18, .int (nI l)), (19, .int (nI k))] [.int 24, .int (nI kd)] sgL_law_2317_8b990d rfl ?_
  refine am_icmpne hF 2395 dL_law_2321 (by decide) (fun h9 => False.elim (nc_eq_f (show kd = 24 by omega) (by omega) (by omega) rfl rfl h9)) (fun _ => ?_)
  refine am_go hF sgL_law_2324_df4e2 2332 [(0, .retAddr b), (1, .ref 0), (2, .ref 500), (3, .ref 501), (4, .ref 502), (5, .ref 503), (6, .ref 464), (7, .ref 504), (8, .ref 505), (9, .ref 506), (10, .ref 507), (11, .ref 508), (12, .int (nI tn)), (13, .int A), (14, .int B), (16, .int (nI kd)), (17, .int (nI p)), (18, .int (nI l)), (19, .int (nI k))] [.int ((4 * (nI p)) + 3), .ref 503] sgL_law_2324_df4e2d rfl ?_
  refine sv_iald hF 3 3 p 33 (by decide) (by decide) rfl (am_ad (am_mu rfl rfl) rfl) (show 4 * p + 3 < 32 by omega) (by decide) dL_law_2332 ?_
  refine am_ifne hF 2340 dL_law_2333 (by decide) (fun c1 => ?_) (fun c1 => ?_)
  · skip
    obtain ⟨b9, hb9, eb9⟩ := box_pos hr9 hp8 c1
    obtain ⟨g9, hg9, eg9, eg8⟩ := read_eq hr9 hp8 eb9 hb9
    refine am_go hF sgL_law_2340_96833 2344 [(0, .retAddr b), (1, .ref 0), (2, .ref 500), (3, .ref 501), (4, .ref 502), (5, .ref 503), (6, .ref 464), (7, .ref 504), (8, .ref 505), (9, .ref 506), (10, .ref 507), (11, .ref 508), (12, .int (nI tn)), (13, .int A), (14, .int B), (16, .int (nI kd)), (17, .int (nI p)), (18, .int (nI l)), (19, .int (nI k))] [.int (nI p), .ref 464] sgL_law_2340_96833d rfl ?_
    refine sv_lald hF p rfl (by omega) dL_law_2344 ?_
    refine am_ldc2 hF 15 (List.mem_cons_of_mem _ lk_RL_103) dL_law_2345 ?_
    refine am_go hF sgL_law_2348_20563 2352 [(20, .int (((o p) &&& 15).toInt32)), (0, .retAddr b), (1, .ref 0), (2, .ref 500), (3, .ref 501), (4, .ref 502), (5, .ref 503), (6, .ref 464), (7, .ref 504), (8, .ref 505), (9, .ref 506), (10, .ref 507), (11, .ref 508), (12, .int (nI tn)), (13, .int A), (14, .int B), (16, .int (nI kd)), (17, .int (nI p)), (18, .int (nI l)), (19, .int (nI k))] [] sgL_law_2348_20563d rfl ?_
    refine am_eqL [(20, .int (nI g9)), (0, .retAddr b), (1, .ref 0), (2, .ref 500), (3, .ref 501), (4, .ref 502), (5, .ref 503), (6, .ref 464), (7, .ref 504), (8, .ref 505), (9, .ref 506), (10, .ref 507), (11, .ref 508), (12, .int (nI tn)), (13, .int A), (14, .int B), (16, .int (nI kd)), (17, .int (nI p)), (18, .int (nI l)), (19, .int (nI k))] (by rw [show (o p &&& 15).toInt32 = nI g9 from eg9]) ?_
    refine am_go hF sgL_law_2352_91f46 2354 [(20, .int (nI g9)), (0, .retAddr b), (1, .ref 0), (2, .ref 500), (3, .ref 501), (4, .ref 502), (5, .ref 503), (6, .ref 464), (7, .ref 504), (8, .ref 505), (9, .ref 506), (10, .ref 507), (11, .ref 508), (12, .int (nI tn)), (13, .int A), (14, .int B), (16, .int (nI kd)), (17, .int (nI p)), (18, .int (nI l)), (19, .int (nI k))] [.int (nI g9)] sgL_law_2352_91f46d rfl ?_
    refine am_iflt hF 2379 dL_law_2354 (by decide) (fun h9 => False.elim (nc_ge_f (show 0 ≤ g9 by omega) (by omega) (by omega) rfl rfl h9)) (fun _ => ?_)
    refine am_go hF sgL_law_2357_8df18 2362 [(20, .int (nI g9)), (0, .retAddr b), (1, .ref 0), (2, .ref 500), (3, .ref 501), (4, .ref 502), (5, .ref 503), (6, .ref 464), (7, .ref 504), (8, .ref 505), (9, .ref 506), (10, .ref 507), (11, .ref 508), (12, .int (nI tn)), (13, .int A), (14, .int B), (16, .int (nI kd)), (17, .int (nI p)), (18, .int (nI l)), (19, .int (nI k))] [.int (nI p), .ref 464, .int (nI p), .ref 464] sgL_law_2357_8df18d rfl ?_
    refine sv_lald hF p rfl (by omega) dL_law_2362 ?_
    refine am_go hF sgL_law_2363_41398 2365 [(20, .int (nI g9)), (0, .retAddr b), (1, .ref 0), (2, .ref 500), (3, .ref 501), (4, .ref 502), (5, .ref 503), (6, .ref 464), (7, .ref 504), (8, .ref 505), (9, .ref 506), (10, .ref 507), (11, .ref 508), (12, .int (nI tn)), (13, .int A), (14, .int B), (16, .int (nI kd)), (17, .int (nI p)), (18, .int (nI l)), (19, .int (nI k))] [.long ((o p) >>> (((4 : Int32).toInt64) &&& 63)), .int (nI p), .ref 464] sgL_law_2363_41398d rfl ?_
    refine sv_last hF p rfl (by omega) dL_law_2365 ?_
    refine am_go hF sgL_law_2366_7a3b3 2375 [(20, .int (nI g9)), (0, .retAddr b), (1, .ref 0), (2, .ref 500), (3, .ref 501), (4, .ref 502), (5, .ref 503), (6, .ref 464), (7, .ref 504), (8, .ref 505), (9, .ref 506), (10, .ref 507), (11, .ref 508), (12, .int (nI tn)), (13, .int A), (14, .int B), (16, .int (nI kd)), (17, .int (nI p)), (18, .int (nI l)), (19, .int (nI k))] [.int ((4 * (nI p)) + 3), .ref 503, .int ((4 * (nI p)) + 3), .ref 503] sgL_law_2366_7a3b3d rfl ?_
    refine sv_iald hF 3 3 p 33 (by decide) (by decide) rfl (am_ad (am_mu rfl rfl) rfl) (show 4 * p + 3 < 32 by omega) (by decide) dL_law_2375 ?_
    refine am_top (nI (b9 + 1)) eb9 ?_
    refine am_go hF sgL_law_2376_d80e0 2378 [(20, .int (nI g9)), (0, .retAddr b), (1, .ref 0), (2, .ref 500), (3, .ref 501), (4, .ref 502), (5, .ref 503), (6, .ref 464), (7, .ref 504), (8, .ref 505), (9, .ref 506), (10, .ref 507), (11, .ref 508), (12, .int (nI tn)), (13, .int A), (14, .int B), (16, .int (nI kd)), (17, .int (nI p)), (18, .int (nI l)), (19, .int (nI k))] [.int ((nI (b9 + 1)) - 1), .int ((4 * (nI p)) + 3), .ref 503] sgL_law_2376_d80e0d rfl ?_
    refine sv_iast hF 3 3 p 33 (by decide) (by decide) rfl (am_ad (am_mu rfl rfl) rfl) (show 4 * p + 3 < 32 by omega) (by decide) dL_law_2378 ?_
    refine am_go hF sgL_law_2379_4b851 2382 [(20, .int (nI g9)), (0, .retAddr b), (1, .ref 0), (2, .ref 500), (3, .ref 501), (4, .ref 502), (5, .ref 503), (6, .ref 464), (7, .ref 504), (8, .ref 505), (9, .ref 506), (10, .ref 507), (11, .ref 508), (12, .int (nI tn)), (13, .int A), (14, .int B), (16, .int (nI kd)), (17, .int (nI p)), (18, .int (nI l)), (19, .int (nI k))] [.int (nI p), .ref 0] sgL_law_2379_4b851d rfl ?_
    refine am_dV hF hO [.int (nI p)] [] (c_p_read_n1 (b := b9) (show p < 16 by omega) ((box_t hr9 hp8).trans eb9) hb9) myX5_read vyX5_read lm_RL_155 (hp_main _ _ _) rfl rfl (k0 + 8) (n0 + 64) ⟨Nat.le_of_ble_eq_true rfl, Nat.le_of_ble_eq_true rfl⟩ ⟨Nat.add_le_add_left (Nat.le_of_ble_eq_true rfl) _, Nat.add_le_add_left (Nat.le_of_ble_eq_true rfl) _, by show _ ≤ 600104; omega, by show _ ≤ 7301313; omega⟩ rfl (am_lv_int (am_lv_raw (am_lv_ref (hp_main _ _ _) (am_lv_ref (hp_a _ _ _ (f := 0) (by decide)) (am_lv_ref (hp_a _ _ _ (f := 1) (by decide)) (am_lv_ref (hp_a _ _ _ (f := 2) (by decide)) (am_lv_ref (hp_a _ _ _ (f := 3) (by decide)) (am_lv_ref (hp_o _ _ _) (am_lv_ref (hp_a _ _ _ (f := 4) (by decide)) (am_lv_ref (hp_a _ _ _ (f := 5) (by decide)) (am_lv_ref (hp_a _ _ _ (f := 6) (by decide)) (am_lv_ref (hp_a _ _ _ (f := 7) (by decide)) (am_lv_ref (hp_a _ _ _ (f := 8) (by decide)) (am_lv_int (am_lv_int (am_lv_int (am_lv_int (am_lv_int (am_lv_int (am_lv_int am_lv_nil)))))))))))))))))))) (Nat.le_of_ble_eq_true rfl) dL_law_2382 [.int (T 9 (10 * p + 0))] rfl ?_
    refine am_go hF sgL_law_2385_91f46 2387 [(20, .int (nI g9)), (0, .retAddr b), (1, .ref 0), (2, .ref 500), (3, .ref 501), (4, .ref 502), (5, .ref 503), (6, .ref 464), (7, .ref 504), (8, .ref 505), (9, .ref 506), (10, .ref 507), (11, .ref 508), (12, .int (nI tn)), (13, .int A), (14, .int B), (16, .int (nI kd)), (17, .int (nI p)), (18, .int (nI l)), (19, .int (nI k))] [.int (nI g9), .int (T 9 (10 * p + 0))] sgL_law_2385_91f46d rfl ?_
    refine am_icmpeq hF 2392 dL_law_2387 (by decide) (fun _ => ?_) (fun h9 => False.elim (absurd eg8 h9))
    refine am_go hF sgL_law_2392_c60e9 2586 [(20, .int (nI g9)), (0, .retAddr b), (1, .ref 0), (2, .ref 500), (3, .ref 501), (4, .ref 502), (5, .ref 503), (6, .ref 464), (7, .ref 504), (8, .ref 505), (9, .ref 506), (10, .ref 507), (11, .ref 508), (12, .int (nI tn)), (13, .int A), (14, .int B), (16, .int (nI kd)), (17, .int (nI p)), (18, .int (nI l)), (19, .int (nI k))] [] sgL_law_2392_c60e9d rfl ?_
    refine am_drop [1, 2, 3, 4, 5, 6, 7, 8, 9, 10, 11, 12, 13, 14, 18] [(0, .retAddr b), (1, .ref 0), (2, .ref 500), (3, .ref 501), (4, .ref 502), (5, .ref 503), (6, .ref 464), (7, .ref 504), (8, .ref 505), (9, .ref 506), (10, .ref 507), (11, .ref 508), (12, .int (nI tn)), (13, .int A), (18, .int (nI l))] rfl ?_
    exact law_same hF hO hG hc hk0 hn0 Kc (qR_m (q_read hr9 hp8 eb9 hb9) (Nat.le_succ c)) rfl hl
  · skip
    refine am_go hF sgL_law_2336_02a5f 2354 [(20, .int (-1)), (0, .retAddr b), (1, .ref 0), (2, .ref 500), (3, .ref 501), (4, .ref 502), (5, .ref 503), (6, .ref 464), (7, .ref 504), (8, .ref 505), (9, .ref 506), (10, .ref 507), (11, .ref 508), (12, .int (nI tn)), (13, .int A), (14, .int B), (16, .int (nI kd)), (17, .int (nI p)), (18, .int (nI l)), (19, .int (nI k))] [.int (-1)] sgL_law_2336_02a5fd rfl ?_
    refine am_iflt hF 2379 dL_law_2354 (by decide) (fun _ => ?_) (fun h9 => False.elim (by revert h9; decide))
    refine am_go hF sgL_law_2379_4b851 2382 [(20, .int (-1)), (0, .retAddr b), (1, .ref 0), (2, .ref 500), (3, .ref 501), (4, .ref 502), (5, .ref 503), (6, .ref 464), (7, .ref 504), (8, .ref 505), (9, .ref 506), (10, .ref 507), (11, .ref 508), (12, .int (nI tn)), (13, .int A), (14, .int B), (16, .int (nI kd)), (17, .int (nI p)), (18, .int (nI l)), (19, .int (nI k))] [.int (nI p), .ref 0] sgL_law_2379_4b851d rfl ?_
    refine am_dV hF hO [.int (nI p)] [] (c_p_read_n0 (show p < 16 by omega) ((box_t hr9 hp8).trans c1)) myX5_read vyX5_read lm_RL_155 (hp_main _ _ _) rfl rfl (k0 + 8) (n0 + 64) ⟨Nat.le_of_ble_eq_true rfl, Nat.le_of_ble_eq_true rfl⟩ ⟨Nat.add_le_add_left (Nat.le_of_ble_eq_true rfl) _, Nat.add_le_add_left (Nat.le_of_ble_eq_true rfl) _, by show _ ≤ 600104; omega, by show _ ≤ 7301313; omega⟩ rfl (am_lv_int (am_lv_raw (am_lv_ref (hp_main _ _ _) (am_lv_ref (hp_a _ _ _ (f := 0) (by decide)) (am_lv_ref (hp_a _ _ _ (f := 1) (by decide)) (am_lv_ref (hp_a _ _ _ (f := 2) (by decide)) (am_lv_ref (hp_a _ _ _ (f := 3) (by decide)) (am_lv_ref (hp_o _ _ _) (am_lv_ref (hp_a _ _ _ (f := 4) (by decide)) (am_lv_ref (hp_a _ _ _ (f := 5) (by decide)) (am_lv_ref (hp_a _ _ _ (f := 6) (by decide)) (am_lv_ref (hp_a _ _ _ (f := 7) (by decide)) (am_lv_ref (hp_a _ _ _ (f := 8) (by decide)) (am_lv_int (am_lv_int (am_lv_int (am_lv_int (am_lv_int (am_lv_int (am_lv_int am_lv_nil)))))))))))))))))))) (Nat.le_of_ble_eq_true rfl) dL_law_2382 [.int (-1)] rfl ?_
    refine am_go hF sgL_law_2385_91f46 2387 [(20, .int (-1)), (0, .retAddr b), (1, .ref 0), (2, .ref 500), (3, .ref 501), (4, .ref 502), (5, .ref 503), (6, .ref 464), (7, .ref 504), (8, .ref 505), (9, .ref 506), (10, .ref 507), (11, .ref 508), (12, .int (nI tn)), (13, .int A), (14, .int B), (16, .int (nI kd)), (17, .int (nI p)), (18, .int (nI l)), (19, .int (nI k))] [.int (-1), .int (-1)] sgL_law_2385_91f46d rfl ?_
    refine am_icmpeq hF 2392 dL_law_2387 (by decide) (fun _ => ?_) (fun h9 => False.elim (absurd rfl h9))
    refine am_go hF sgL_law_2392_c60e9 2586 [(20, .int (-1)), (0, .retAddr b), (1, .ref 0), (2, .ref 500), (3, .ref 501), (4, .ref 502), (5, .ref 503), (6, .ref 464), (7, .ref 504), (8, .ref 505), (9, .ref 506), (10, .ref 507), (11, .ref 508), (12, .int (nI tn)), (13, .int A), (14, .int B), (16, .int (nI kd)), (17, .int (nI p)), (18, .int (nI l)), (19, .int (nI k))] [] sgL_law_2392_c60e9d rfl ?_
    refine am_drop [1, 2, 3, 4, 5, 6, 7, 8, 9, 10, 11, 12, 13, 14, 18] [(0, .retAddr b), (1, .ref 0), (2, .ref 500), (3, .ref 501), (4, .ref 502), (5, .ref 503), (6, .ref 464), (7, .ref 504), (8, .ref 505), (9, .ref 506), (10, .ref 507), (11, .ref 508), (12, .int (nI tn)), (13, .int A), (18, .int (nI l))] rfl ?_
    exact law_same hF hO hG hc hk0 hn0 Kc (qR_m hr9 (Nat.le_succ c)) rfl hl

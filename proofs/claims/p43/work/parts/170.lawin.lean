/-! THE LAW'S WORDS: each is among the tables' -/
/-- a private method of a class above, on an object of one below -/
theorem sel_priv {C : String} {y : MethodName} {s : State} {args : Array Value} {n : Nat} (hy : y.cls ≠ "java/lang/invoke/MethodHandle" ∧ y.cls ≠ "java/lang/invoke/VarHandle")
    (hC : (Cond.instantiable C n).before args s = true) (hpriv : (Cond.privateMethod y).before args s = true) (hinst : (Cond.instanceMethod y).before args s = true) (hsame : (Cond.sameMethod y.cls y.cls y.name y.desc).before args s = true) :
    (Cond.selects C y y).before args s = true := by
  obtain ⟨c, k, hc, hk, -, hniab, -, -⟩ := Cond.instantiable_spec hC
  obtain ⟨mk, methM, hnamed, hmethM, -, -⟩ := Cond.instanceMethod_spec hinst
  obtain ⟨c2, k2, hc2, hk2, hi2⟩ := Cond.sameMethod_class hsame
  have hfound : s.methodFound? y.cls y.name y.desc = some mk := State.methodFound?_of_named hnamed hy
  have hcls : mk.cls = c2 := Option.some.inj ((findClass_of_methodNamed hnamed).symm.trans hc2)
  have hsel : selectMethod {} s.vm c mk = .method mk := selectMethod_private hmethM (Cond.privateMethod_at hpriv mk methM hnamed hmethM)
  simp only [Cond.before, Cond.holds, Cond.value, hc, hfound, hnamed, hsel, hcls, hk2]
  simp; exact hi2
def lw_ext : List Cond := [Cond.selects RJ4 ⟨"java/lang/AbstractStringBuilder", "ensureCapacityInternal", "(I)V"⟩ ⟨"java/lang/AbstractStringBuilder", "ensureCapacityInternal", "(I)V"⟩, Cond.selects RJ4 ⟨"java/lang/AbstractStringBuilder", "newCapacity", "(I)I"⟩ ⟨"java/lang/AbstractStringBuilder", "newCapacity", "(I)I"⟩, Cond.selects RJ4 ⟨"java/lang/AbstractStringBuilder", "inflate", "()V"⟩ ⟨"java/lang/AbstractStringBuilder", "inflate", "()V"⟩, Cond.selects RJ4 ⟨"java/lang/AbstractStringBuilder", "appendNull", "()Ljava/lang/AbstractStringBuilder;"⟩ ⟨"java/lang/AbstractStringBuilder", "appendNull", "()Ljava/lang/AbstractStringBuilder;"⟩, Cond.selects RJ4 ⟨"java/lang/AbstractStringBuilder", "putStringAt", "(ILjava/lang/String;)V"⟩ ⟨"java/lang/AbstractStringBuilder", "putStringAt", "(ILjava/lang/String;)V"⟩, Cond.selects RJ4 ⟨"java/lang/AbstractStringBuilder", "inflateIfNeededFor", "(Ljava/lang/String;)V"⟩ ⟨"java/lang/AbstractStringBuilder", "inflateIfNeededFor", "(Ljava/lang/String;)V"⟩]
def lw_tb2 : List Cond := lw_ext ++ lw_tbl
theorem memPs {big : List Cond} {ws : List Cond} (ps : List Nat) (hp : ws = ps.filterMap (fun i => big[i]?)) : ∀ w ∈ ws, w ∈ big := by
  intro w hw
  rw [hp] at hw
  obtain ⟨i, -, hi⟩ := List.mem_filterMap.mp hw
  exact List.mem_of_getElem? hi
set_option maxRecDepth 20000 in
theorem lwr_1 : ∀ w ∈ wsL_law_r1, w ∈ lw_tb2 := memPs [40, 41, 18, 151, 950, 282, 30, 1039, 903, 393, 34, 394, 42, 43, 44, 45, 46, 47, 48, 49, 19, 314, 315, 316] (by decide +kernel)
set_option maxRecDepth 20000 in
theorem lwr_2 : ∀ w ∈ wsL_law_r2, w ∈ lw_tb2 := memPs [153, 154, 20, 317, 173, 174, 21, 318, 192, 193, 22, 319, 202, 203, 23, 320, 218, 219, 24, 321, 244, 245, 25, 322] (by decide +kernel)
set_option maxRecDepth 20000 in
theorem lwr_3 : ∀ w ∈ wsL_law_r3, w ∈ lw_tb2 := memPs [257, 258, 26, 323, 324, 281, 325, 50, 51, 52, 53, 60, 66, 72, 77, 86, 152, 90, 91, 98, 101, 106, 110, 155] (by decide +kernel)
set_option maxRecDepth 20000 in
theorem lwr_4 : ∀ w ∈ wsL_law_r4, w ∈ lw_tb2 := memPs [156, 157, 158, 159, 162, 161, 175, 176, 177, 178, 179, 180, 181, 182, 194, 195, 196, 197, 198, 204, 205, 206, 207, 208] (by decide +kernel)
set_option maxRecDepth 20000 in
theorem lwr_5 : ∀ w ∈ wsL_law_r5, w ∈ lw_tb2 := memPs [209, 210, 220, 221, 222, 223, 224, 225, 243, 227, 228, 229, 246, 247, 248, 249, 250, 251, 259, 260, 261, 262, 280, 265] (by decide +kernel)
set_option maxRecDepth 20000 in
theorem lwr_6 : ∀ w ∈ wsL_law_r6, w ∈ lw_tb2 := memPs [263, 267, 268, 283, 284, 285, 286, 287, 29, 288, 289, 290, 313, 299, 300, 292, 293, 32, 294, 295, 296, 297, 298, 770] (by decide +kernel)
set_option maxRecDepth 20000 in
theorem lwr_7 : ∀ w ∈ wsL_law_r7, w ∈ lw_tb2 := memPs [771, 17, 772, 773, 774, 775, 776, 777, 778, 779, 780, 781, 782, 783, 784, 785, 786, 163, 787, 788, 789, 790, 58, 791] (by decide +kernel)
set_option maxRecDepth 20000 in
theorem lwr_8 : ∀ w ∈ wsL_law_r8, w ∈ lw_tb2 := memPs [593, 592, 33, 82, 94, 113, 115, 792, 793, 794, 795, 57, 63, 67, 75, 79, 796, 797, 798, 799, 800, 801, 802, 803] (by decide +kernel)
set_option maxRecDepth 20000 in
theorem lwr_9 : ∀ w ∈ wsL_law_r9, w ∈ lw_tb2 := memPs [164, 804, 469, 470, 805, 806, 807, 808, 809, 810, 811, 812, 813, 814, 815, 816, 81, 87, 92, 817, 818, 819, 820, 448] (by decide +kernel)
set_option maxRecDepth 20000 in
theorem lwr_10 : ∀ w ∈ wsL_law_r10, w ∈ lw_tb2 := memPs [449, 450, 821, 822, 823, 824, 825, 826, 827, 828, 95, 99, 102, 107, 111, 829, 830, 831, 832, 833, 834, 835, 836, 837] (by decide +kernel)
set_option maxRecDepth 20000 in
theorem lwr_11 : ∀ w ∈ wsL_law_r11, w ∈ lw_tb2 := memPs [356, 357, 358, 838, 364, 365, 366, 839, 376, 377, 378, 840, 372, 373, 374, 841, 380, 381, 382, 383, 842, 843, 844, 737] (by decide +kernel)
set_option maxRecDepth 20000 in
theorem lwr_12 : ∀ w ∈ wsL_law_r12, w ∈ lw_tb2 := memPs [738, 739, 740, 59, 85, 97, 117, 266, 165, 741, 742, 743, 744, 745, 746, 747, 748, 749, 750, 751, 752, 503, 732, 733] (by decide +kernel)
set_option maxRecDepth 20000 in
theorem lwr_13 : ∀ w ∈ wsL_law_r13, w ∈ lw_tb2 := memPs [734, 735, 84, 736, 396, 397, 398, 399, 400, 401, 402, 403, 388, 389, 390, 391, 55, 73, 62, 78, 69, 404, 406, 6] (by decide +kernel)
set_option maxRecDepth 20000 in
theorem lwr_14 : ∀ w ∈ wsL_law_r14, w ∈ lw_tb2 := memPs [407, 88, 753, 754, 755, 756, 757, 758, 759, 760, 761, 762, 763, 764, 765, 445, 446, 447, 766, 767, 768, 769, 845, 846] (by decide +kernel)
set_option maxRecDepth 20000 in
theorem lwr_15 : ∀ w ∈ wsL_law_r15, w ∈ lw_tb2 := memPs [847, 848, 849, 850, 851, 852, 853, 854, 855, 856, 857, 858, 859, 860, 861, 385, 386, 387, 392, 862, 863, 864, 865, 866] (by decide +kernel)
set_option maxRecDepth 20000 in
theorem lwr_16 : ∀ w ∈ wsL_law_r16, w ∈ lw_tb2 := memPs [867, 868, 869, 114, 116, 870, 417, 418, 419, 871, 368, 369, 370, 872, 500, 501, 502, 873, 874, 875, 519, 520, 521, 108] (by decide +kernel)
set_option maxRecDepth 20000 in
theorem lwr_17 : ∀ w ∈ wsL_law_r17, w ∈ lw_tb2 := memPs [523, 522, 876, 877, 878, 879, 880, 104, 881, 882, 883, 884, 885, 886, 887, 888, 889, 890, 351, 352, 353, 354, 65, 71] (by decide +kernel)
set_option maxRecDepth 20000 in
theorem lwr_18 : ∀ w ∈ wsL_law_r18, w ∈ lw_tb2 := memPs [76, 80, 355, 408, 409, 410, 411, 363, 375, 891, 892, 893, 894, 895, 896, 897, 898, 899, 951, 982, 613, 614, 615, 616] (by decide +kernel)
set_option maxRecDepth 20000 in
theorem lwr_19 : ∀ w ∈ wsL_law_r19, w ∈ lw_tb2 := memPs [1046, 312, 617, 618, 303, 619, 620, 35, 621, 561, 1044, 0, 563, 564, 565, 1045, 1, 567, 568, 579, 569, 570, 36, 571] (by decide +kernel)
set_option maxRecDepth 20000 in
theorem lwr_20 : ∀ w ∈ wsL_law_r20, w ∈ lw_tb2 := memPs [572, 573, 574, 575, 576, 577, 578, 580, 581, 37, 582, 583, 584, 585, 586, 587, 589, 590, 591, 594, 596, 597, 595, 598] (by decide +kernel)
set_option maxRecDepth 20000 in
theorem lwr_21 : ∀ w ∈ wsL_law_r21, w ∈ lw_tb2 := memPs [622, 623, 624, 625, 627, 629, 630, 631, 653, 632, 633, 634, 635, 636, 637, 638, 639, 31, 640, 641, 643, 644, 38, 645] (by decide +kernel)
set_option maxRecDepth 20000 in
theorem lwr_22 : ∀ w ∈ wsL_law_r22, w ∈ lw_tb2 := memPs [646, 647, 648, 649, 659, 650, 651, 652, 655, 657, 952, 953, 954, 955, 956, 1051, 957, 958, 959, 1052, 3, 961, 962, 963] (by decide +kernel)
set_option maxRecDepth 20000 in
theorem lwr_23 : ∀ w ∈ wsL_law_r23, w ∈ lw_tb2 := memPs [964, 965, 966, 910, 911, 912, 1022, 913, 914, 915, 916, 917, 1023, 967, 1053, 4, 969, 970, 971, 1054, 5, 973, 974, 975] (by decide +kernel)
set_option maxRecDepth 20000 in
theorem lwr_24 : ∀ w ∈ wsL_law_r24, w ∈ lw_tb2 := memPs [670, 1048, 2, 672, 673, 674, 675, 39, 676, 677, 678, 679, 680, 681, 682, 683, 684, 685, 686, 687, 688, 976, 977, 978] (by decide +kernel)
set_option maxRecDepth 20000 in
theorem lwr_25 : ∀ w ∈ wsL_law_r25, w ∈ lw_tb2 := memPs [979, 980, 981, 983, 984, 985, 986, 987, 988, 989, 990, 991, 992, 993, 994, 995, 302, 996, 998, 999, 997, 1000, 1001, 1049] (by decide +kernel)
set_option maxRecDepth 20000 in
theorem lwr_26 : ∀ w ∈ wsL_law_r26, w ∈ lw_tb2 := memPs [706, 1055, 702, 704, 705, 706, 707, 1002, 1003, 1004, 1005, 1006, 1007, 1008, 1009, 1010, 1011, 1012, 1013, 1014, 1015, 1016, 1017, 949] (by decide +kernel)
set_option maxRecDepth 20000 in
theorem lwr_27 : ∀ w ∈ wsL_law_r27, w ∈ lw_tb2 := memPs [932, 933, 1018, 1019, 1020, 1021, 359, 360, 361, 362, 89, 93, 367, 371, 379, 384, 395, 412, 413, 414, 415, 100, 105, 109] (by decide +kernel)
set_option maxRecDepth 20000 in
theorem lwr_28 : ∀ w ∈ wsL_law_r28, w ∈ lw_tb2 := memPs [112, 416, 900, 901, 902, 904, 905, 550, 551, 552, 553, 554, 555, 556, 557, 558, 1043, 559, 560, 301, 599, 600, 601, 602] (by decide +kernel)
set_option maxRecDepth 20000 in
theorem lwr_29 : ∀ w ∈ wsL_law_r29, w ∈ lw_tb2 := memPs [603, 604, 605, 606, 607, 608, 609, 610, 611, 612, 660, 661, 662, 663, 664, 1047, 665, 666, 667, 668, 669, 689, 690, 691] (by decide +kernel)
set_option maxRecDepth 20000 in
theorem lwr_30 : ∀ w ∈ wsL_law_r30, w ∈ lw_tb2 := memPs [692, 693, 694, 695, 696, 697, 698, 699, 700, 701, 703, 906, 907, 908, 909, 918, 919, 920, 921, 922, 923, 924, 925, 926] (by decide +kernel)
set_option maxRecDepth 20000 in
theorem lwr_31 : ∀ w ∈ wsL_law_r31, w ∈ lw_tb2 := memPs [1050, 927, 928, 929, 930, 931, 934, 935, 936, 937, 938, 939, 940, 941, 942, 943, 944, 945, 946, 947, 948, 420, 421, 422] (by decide +kernel)
set_option maxRecDepth 20000 in
theorem lwr_32 : ∀ w ∈ wsL_law_r32, w ∈ lw_tb2 := memPs [423, 424, 425, 426, 427, 428, 429, 430, 431, 432, 433, 434, 435, 436, 437, 439, 438, 451, 452, 453, 454, 455, 456, 457] (by decide +kernel)
set_option maxRecDepth 20000 in
theorem lwr_33 : ∀ w ∈ wsL_law_r33, w ∈ lw_tb2 := memPs [458, 226, 459, 461, 7, 462, 56, 74, 61, 68, 463, 464, 465, 466, 467, 468, 471, 472, 473, 474, 475, 476, 477, 478] (by decide +kernel)
set_option maxRecDepth 20000 in
theorem lwr_34 : ∀ w ∈ wsL_law_r34, w ∈ lw_tb2 := memPs [479, 481, 8, 482, 483, 485, 9, 486, 487, 489, 10, 490, 491, 493, 11, 494, 495, 496, 497, 498, 499, 504, 505, 506] (by decide +kernel)
set_option maxRecDepth 20000 in
theorem lwr_35 : ∀ w ∈ wsL_law_r35, w ∈ lw_tb2 := memPs [507, 508, 509, 510, 511, 96, 512, 513, 514, 516, 12, 517, 103, 518, 440, 441, 442, 443, 444, 708, 709, 710, 711, 712] (by decide +kernel)
set_option maxRecDepth 20000 in
theorem lwr_36 : ∀ w ∈ wsL_law_r36, w ∈ lw_tb2 := memPs [713, 714, 715, 716, 718, 15, 719, 720, 722, 16, 723, 724, 725, 726, 727, 728, 729, 730, 731, 524, 525, 526, 527, 528] (by decide +kernel)
set_option maxRecDepth 20000 in
theorem lwr_37 : ∀ w ∈ wsL_law_r37, w ∈ lw_tb2 := memPs [529, 530, 531, 54, 532, 534, 13, 535, 70, 64, 536, 537, 538, 539, 540, 541, 542, 543, 83, 544, 546, 14, 547, 548] (by decide +kernel)
set_option maxRecDepth 20000 in
theorem lwr_38 : ∀ w ∈ wsL_law_r38, w ∈ lw_tb2 := memPs [549] (by decide +kernel)
theorem lwr_all : ∀ w ∈ (wsL_law_r1 ++ (wsL_law_r2 ++ (wsL_law_r3 ++ (wsL_law_r4 ++ (wsL_law_r5 ++ (wsL_law_r6 ++ (wsL_law_r7 ++ (wsL_law_r8 ++ (wsL_law_r9 ++ (wsL_law_r10 ++ (wsL_law_r11 ++ (wsL_law_r12 ++ (wsL_law_r13 ++ (wsL_law_r14 ++ (wsL_law_r15 ++ (wsL_law_r16 ++ (wsL_law_r17 ++ (wsL_law_r18 ++ (wsL_law_r19 ++ (wsL_law_r20 ++ (wsL_law_r21 ++ (wsL_law_r22 ++ (wsL_law_r23 ++ (wsL_law_r24 ++ (wsL_law_r25 ++ (wsL_law_r26 ++ (wsL_law_r27 ++ (wsL_law_r28 ++ (wsL_law_r29 ++ (wsL_law_r30 ++ (wsL_law_r31 ++ (wsL_law_r32 ++ (wsL_law_r33 ++ (wsL_law_r34 ++ (wsL_law_r35 ++ (wsL_law_r36 ++ (wsL_law_r37 ++ wsL_law_r38))))))))))))))))))))))))))))))))))))), w ∈ lw_tb2 := List.forall_mem_append.mpr ⟨lwr_1, List.forall_mem_append.mpr ⟨lwr_2, List.forall_mem_append.mpr ⟨lwr_3, List.forall_mem_append.mpr ⟨lwr_4, List.forall_mem_append.mpr ⟨lwr_5, List.forall_mem_append.mpr ⟨lwr_6, List.forall_mem_append.mpr ⟨lwr_7, List.forall_mem_append.mpr ⟨lwr_8, List.forall_mem_append.mpr ⟨lwr_9, List.forall_mem_append.mpr ⟨lwr_10, List.forall_mem_append.mpr ⟨lwr_11, List.forall_mem_append.mpr ⟨lwr_12, List.forall_mem_append.mpr ⟨lwr_13, List.forall_mem_append.mpr ⟨lwr_14, List.forall_mem_append.mpr ⟨lwr_15, List.forall_mem_append.mpr ⟨lwr_16, List.forall_mem_append.mpr ⟨lwr_17, List.forall_mem_append.mpr ⟨lwr_18, List.forall_mem_append.mpr ⟨lwr_19, List.forall_mem_append.mpr ⟨lwr_20, List.forall_mem_append.mpr ⟨lwr_21, List.forall_mem_append.mpr ⟨lwr_22, List.forall_mem_append.mpr ⟨lwr_23, List.forall_mem_append.mpr ⟨lwr_24, List.forall_mem_append.mpr ⟨lwr_25, List.forall_mem_append.mpr ⟨lwr_26, List.forall_mem_append.mpr ⟨lwr_27, List.forall_mem_append.mpr ⟨lwr_28, List.forall_mem_append.mpr ⟨lwr_29, List.forall_mem_append.mpr ⟨lwr_30, List.forall_mem_append.mpr ⟨lwr_31, List.forall_mem_append.mpr ⟨lwr_32, List.forall_mem_append.mpr ⟨lwr_33, List.forall_mem_append.mpr ⟨lwr_34, List.forall_mem_append.mpr ⟨lwr_35, List.forall_mem_append.mpr ⟨lwr_36, List.forall_mem_append.mpr ⟨lwr_37, lwr_38⟩⟩⟩⟩⟩⟩⟩⟩⟩⟩⟩⟩⟩⟩⟩⟩⟩⟩⟩⟩⟩⟩⟩⟩⟩⟩⟩⟩⟩⟩⟩⟩⟩⟩⟩⟩⟩
theorem lwc_X10 : ∀ w ∈ wsX100, w ∈ lw_tb2 := memPs [326, 328, 330, 332, 334, 336, 338, 340, 342, 344, 346, 348] (by decide +kernel)
theorem lwc_J4 : ∀ w ∈ wsJ40, w ∈ lw_tb2 := memPs [304, 306, 308, 310] (by decide +kernel)
theorem lwc_X9 : ∀ w ∈ wsX90, w ∈ lw_tb2 := memPs [118, 120, 122, 124, 126, 128, 130, 132, 134, 136, 138, 140, 142, 144, 146, 148] (by decide +kernel)
theorem lwc_X3 : ∀ w ∈ wsX30, w ∈ lw_tb2 := memPs [166, 168, 170] (by decide +kernel)
theorem lwc_X6 : ∀ w ∈ wsX60, w ∈ lw_tb2 := memPs [183, 185, 187, 189] (by decide +kernel)
theorem lwc_X7 : ∀ w ∈ wsX70, w ∈ lw_tb2 := memPs [199] (by decide +kernel)
theorem lwc_X8 : ∀ w ∈ wsX80, w ∈ lw_tb2 := memPs [211, 213, 215] (by decide +kernel)
theorem lwc_X1 : ∀ w ∈ wsX10, w ∈ lw_tb2 := memPs [230, 232, 234, 236, 238, 240] (by decide +kernel)
theorem lwc_X5 : ∀ w ∈ wsX50, w ∈ lw_tb2 := memPs [252, 254] (by decide +kernel)
theorem lwc_X4 : ∀ w ∈ wsX40, w ∈ lw_tb2 := memPs [269, 271, 273, 275, 277] (by decide +kernel)
theorem lwc_J0 : ∀ w ∈ wsJ00, w ∈ lw_tb2 := memPs [1024, 1026, 1028, 1030] (by decide +kernel)
theorem law_in : ∀ w ∈ wsL_law, w ∈ lw_tb2 := List.forall_mem_append.mpr ⟨List.forall_mem_append.mpr ⟨List.forall_mem_append.mpr ⟨List.forall_mem_append.mpr ⟨List.forall_mem_append.mpr ⟨List.forall_mem_append.mpr ⟨List.forall_mem_append.mpr ⟨List.forall_mem_append.mpr ⟨List.forall_mem_append.mpr ⟨List.forall_mem_append.mpr ⟨List.forall_mem_append.mpr ⟨List.forall_mem_append.mpr ⟨lwr_all, lwc_X10⟩, lwc_J4⟩, lwc_X9⟩, lwc_X3⟩, lwc_X6⟩, lwc_X7⟩, lwc_X8⟩, lwc_X1⟩, lwc_X5⟩, lwc_X4⟩, lwc_J0⟩, fun _ h => absurd h List.not_mem_nil⟩
theorem law_hts {args : Array Value} {s : State} (hts : ∀ w ∈ lw_tbl, w.before args s = true) : ∀ w ∈ wsL_law, w.before args s = true := by
  intro w hw
  have h := law_in w hw
  have hi : (Cond.instantiable RJ4 4).before args s = true := hts _ (List.mem_of_getElem? (i := 276) (by decide +kernel))
  rcases List.mem_append.mp h with h | h
  · rcases List.mem_cons.mp h with rfl | h
    · exact sel_priv (n := 4) ⟨by decide +kernel, by decide +kernel⟩ hi (hts _ (List.mem_of_getElem? (i := 556) (by decide +kernel))) (hts _ (List.mem_of_getElem? (i := 557) (by decide +kernel))) (hts _ (List.mem_of_getElem? (i := 1038) (by decide +kernel)))
    · rcases List.mem_cons.mp h with rfl | h
      · exact sel_priv (n := 4) ⟨by decide +kernel, by decide +kernel⟩ hi (hts _ (List.mem_of_getElem? (i := 560) (by decide +kernel))) (hts _ (List.mem_of_getElem? (i := 561) (by decide +kernel))) (hts _ (List.mem_of_getElem? (i := 1039) (by decide +kernel)))
      · rcases List.mem_cons.mp h with rfl | h
        · exact sel_priv (n := 4) ⟨by decide +kernel, by decide +kernel⟩ hi (hts _ (List.mem_of_getElem? (i := 665) (by decide +kernel))) (hts _ (List.mem_of_getElem? (i := 666) (by decide +kernel))) (hts _ (List.mem_of_getElem? (i := 1042) (by decide +kernel)))
        · rcases List.mem_cons.mp h with rfl | h
          · exact sel_priv (n := 4) ⟨by decide +kernel, by decide +kernel⟩ hi (hts _ (List.mem_of_getElem? (i := 954) (by decide +kernel))) (hts _ (List.mem_of_getElem? (i := 955) (by decide +kernel))) (hts _ (List.mem_of_getElem? (i := 1046) (by decide +kernel)))
          · rcases List.mem_cons.mp h with rfl | h
            · exact sel_priv (n := 4) ⟨by decide +kernel, by decide +kernel⟩ hi (hts _ (List.mem_of_getElem? (i := 962) (by decide +kernel))) (hts _ (List.mem_of_getElem? (i := 963) (by decide +kernel))) (hts _ (List.mem_of_getElem? (i := 1047) (by decide +kernel)))
            · rcases List.mem_cons.mp h with rfl | h
              · exact sel_priv (n := 4) ⟨by decide +kernel, by decide +kernel⟩ hi (hts _ (List.mem_of_getElem? (i := 966) (by decide +kernel))) (hts _ (List.mem_of_getElem? (i := 967) (by decide +kernel))) (hts _ (List.mem_of_getElem? (i := 1048) (by decide +kernel)))
              · cases h
  · exact hts w h

theorem lin1 : wsL_law_r1 = [44, 45, 30, 677, 678, 43, 46, 47, 48, 49, 50, 51, 52, 53, 31, 354, 74, 75, 32, 355, 99, 100, 33, 356].filterMap (fun i => lw_tbl[i]?) := by decide +kernel
theorem lin2 : wsL_law_r2 = [357, 166, 167, 35, 358, 359, 189, 190, 37, 360, 209, 210, 38, 361, 61, 55, 56, 57, 73, 58, 59, 77, 78, 79].filterMap (fun i => lw_tbl[i]?) := by decide +kernel
theorem lin3 : wsL_law_r3 = [80, 82, 102, 103, 104, 105, 106, 34, 146, 149, 108, 109, 110, 168, 169, 170, 171, 172, 173, 36, 174, 175, 176, 177].filterMap (fun i => lw_tbl[i]?) := by decide +kernel
theorem lin4 : wsL_law_r4 = [178, 179, 192, 193, 194, 195, 196, 197, 211, 212, 213, 214, 215, 218, 219, 220, 217, 244, 245, 246, 39, 247, 981, 248].filterMap (fun i => lw_tbl[i]?) := by decide +kernel
theorem lin5 : wsL_law_r5 = [249, 250, 251, 252, 982, 254, 255, 256, 257, 258, 259, 260, 261, 262, 263, 40, 264, 265, 266, 267, 268, 270, 271, 41].filterMap (fun i => lw_tbl[i]?) := by decide +kernel
theorem lin6 : wsL_law_r6 = [272, 273, 274, 42, 275, 276, 277, 278, 279, 280, 281, 282, 283, 284, 285, 286, 288, 290, 292, 293, 294, 295, 62, 297].filterMap (fun i => lw_tbl[i]?) := by decide +kernel
theorem lin7 : wsL_law_r7 = [298, 299, 301, 0, 302, 60, 303, 304, 305, 306, 84, 87, 308, 309, 310, 311, 152, 154, 312, 313, 314, 315, 111, 113].filterMap (fun i => lw_tbl[i]?) := by decide +kernel
theorem lin8 : wsL_law_r8 = [121, 118, 124, 316, 317, 318, 319, 63, 320, 321, 322, 323, 324, 325, 326, 327, 329, 330, 332, 333, 334, 335, 336, 337].filterMap (fun i => lw_tbl[i]?) := by decide +kernel
theorem lin9 : wsL_law_r9 = [338, 339, 340, 341, 342, 343, 345, 1, 346, 85, 81, 153, 83, 88, 347, 348, 349, 350, 351, 352, 353, 679, 680, 681].filterMap (fun i => lw_tbl[i]?) := by decide +kernel
theorem lin10 : wsL_law_r10 = [682, 685, 689, 691, 379, 695, 700, 701, 702, 703, 683, 684, 686, 380, 381, 382, 383, 384, 753, 754, 755, 756, 757, 758].filterMap (fun i => lw_tbl[i]?) := by decide +kernel
theorem lin11 : wsL_law_r11 = [694, 759, 760, 761, 385, 386, 387, 388, 762, 763, 764, 765, 389, 390, 391, 392, 393, 394, 395, 396, 397, 766, 767, 768].filterMap (fun i => lw_tbl[i]?) := by decide +kernel
theorem lin12 : wsL_law_r12 = [769, 697, 770, 772, 7, 773, 687, 688, 690, 696, 698, 774, 776, 8, 777, 778, 780, 9, 781, 782, 784, 10, 785, 786].filterMap (fun i => lw_tbl[i]?) := by decide +kernel
theorem lin13 : wsL_law_r13 = [787, 788, 790, 11, 791, 792, 794, 12, 795, 398, 399, 400, 401, 181, 199, 796, 797, 798, 799, 692, 693, 699, 800, 802].filterMap (fun i => lw_tbl[i]?) := by decide +kernel
theorem lin14 : wsL_law_r14 = [13, 803, 402, 403, 404, 405, 156, 112, 115, 119, 122, 125, 406, 407, 408, 409, 410, 411, 412, 413, 414, 36, 415, 417].filterMap (fun i => lw_tbl[i]?) := by decide +kernel
theorem lin15 : wsL_law_r15 = [418, 419, 420, 421, 422, 423, 424, 117, 120, 425, 426, 804, 805, 806, 807, 811, 808, 809, 810, 812, 814, 14, 815, 816].filterMap (fun i => lw_tbl[i]?) := by decide +kernel
theorem lin16 : wsL_law_r16 = [818, 15, 819, 820, 822, 16, 823, 427, 428, 429, 430, 431, 432, 433, 434, 824, 825, 826, 827, 828, 435, 436, 437, 438].filterMap (fun i => lw_tbl[i]?) := by decide +kernel
theorem lin17 : wsL_law_r17 = [148, 151, 439, 440, 441, 442, 444, 2, 445, 446, 447, 448, 449, 126, 89, 450, 451, 452, 453, 180, 454, 455, 456, 457].filterMap (fun i => lw_tbl[i]?) := by decide +kernel
theorem lin18 : wsL_law_r18 = [460, 461, 462, 463, 464, 465, 466, 467, 470, 471, 472, 473, 474, 475, 476, 477, 478, 86, 479, 480, 481, 482, 483, 128].filterMap (fun i => lw_tbl[i]?) := by decide +kernel
theorem lin19 : wsL_law_r19 = [130, 484, 485, 123, 486, 487, 488, 489, 127, 490, 491, 492, 493, 494, 129, 501, 498, 502, 503, 829, 830, 831, 832, 833].filterMap (fun i => lw_tbl[i]?) := by decide +kernel
theorem lin20 : wsL_law_r20 = [834, 836, 17, 837, 838, 840, 18, 841, 842, 844, 19, 845, 846, 848, 20, 849, 850, 852, 21, 853, 854, 856, 22, 857].filterMap (fun i => lw_tbl[i]?) := by decide +kernel
theorem lin21 : wsL_law_r21 = [858, 859, 860, 861, 862, 863, 864, 866, 23, 867, 868, 869, 870, 871, 872, 873, 504, 505, 506, 507, 508, 509, 510, 511].filterMap (fun i => lw_tbl[i]?) := by decide +kernel
theorem lin22 : wsL_law_r22 = [512, 874, 875, 876, 877, 878, 513, 514, 515, 516, 517, 518, 519, 879, 880, 881, 882, 520, 521, 522, 523, 524, 525, 526].filterMap (fun i => lw_tbl[i]?) := by decide +kernel
theorem lin23 : wsL_law_r23 = [527, 528, 529, 530, 531, 532, 533, 534, 535, 883, 884, 885, 886, 537, 538, 539, 540, 541, 542, 543, 544, 545, 546, 547].filterMap (fun i => lw_tbl[i]?) := by decide +kernel
theorem lin24 : wsL_law_r24 = [548, 549, 551, 3, 552, 887, 888, 889, 890, 891, 892, 893, 895, 24, 896, 553, 554, 555, 556, 221, 557, 559, 4, 560].filterMap (fun i => lw_tbl[i]?) := by decide +kernel
theorem lin25 : wsL_law_r25 = [561, 562, 563, 564, 222, 224, 226, 565, 566, 567, 568, 225, 227, 223, 569, 570, 571, 572, 573, 574, 575, 576, 577, 578].filterMap (fun i => lw_tbl[i]?) := by decide +kernel
theorem lin26 : wsL_law_r26 = [579, 580, 581, 582, 155, 583, 584, 897, 898, 899, 900, 901, 902, 903, 904, 905, 907, 25, 908, 909, 910, 911, 585, 586].filterMap (fun i => lw_tbl[i]?) := by decide +kernel
theorem lin27 : wsL_law_r27 = [587, 588, 912, 913, 914, 915, 589, 590, 591, 592, 593, 594, 595, 604, 605, 606, 596, 597, 598, 599, 600, 601, 602, 603].filterMap (fun i => lw_tbl[i]?) := by decide +kernel
theorem lin28 : wsL_law_r28 = [147, 116, 150, 916, 917, 918, 919, 920, 704, 921, 923, 26, 924, 925, 927, 27, 928, 607, 608, 609, 610, 929, 930, 931].filterMap (fun i => lw_tbl[i]?) := by decide +kernel
theorem lin29 : wsL_law_r29 = [932, 705, 611, 612, 613, 614, 615, 616, 617, 618, 198, 933, 934, 935, 936, 937, 620, 621, 622, 623, 938, 939, 940, 941].filterMap (fun i => lw_tbl[i]?) := by decide +kernel
theorem lin30 : wsL_law_r30 = [624, 625, 626, 627, 628, 630, 5, 631, 632, 633, 634, 635, 114, 637, 942, 943, 944, 945, 946, 948, 28, 949, 638, 639].filterMap (fun i => lw_tbl[i]?) := by decide +kernel
theorem lin31 : wsL_law_r31 = [640, 641, 950, 951, 952, 953, 642, 643, 644, 645, 646, 648, 6, 649, 650, 651, 652, 653, 954, 955, 956, 957, 958, 959].filterMap (fun i => lw_tbl[i]?) := by decide +kernel
theorem lin32 : wsL_law_r32 = [654, 655, 656, 657, 658, 659, 660, 661, 662, 663, 664, 960, 961, 962, 963, 964, 965, 966, 967, 968, 665, 666, 667, 668].filterMap (fun i => lw_tbl[i]?) := by decide +kernel
theorem lin33 : wsL_law_r33 = [969, 970, 971, 972, 669, 670, 671, 672, 973, 974, 975, 976, 673, 674, 675, 676, 977, 978, 979, 980].filterMap (fun i => lw_tbl[i]?) := by decide +kernel
theorem linX7 : wsX70 = [362, 364, 366, 368, 370, 372, 374, 376].filterMap (fun i => lw_tbl[i]?) := by decide +kernel
theorem linX8 : wsX80 = [706, 708, 710, 712, 714, 716, 718, 720, 722, 724, 726, 728, 730, 732, 734, 736, 738, 740, 742, 744, 746, 748, 750].filterMap (fun i => lw_tbl[i]?) := by decide +kernel
theorem linX2 : wsX20 = [64, 66, 68, 70].filterMap (fun i => lw_tbl[i]?) := by decide +kernel
theorem linX6 : wsX60 = [90, 92, 94, 96].filterMap (fun i => lw_tbl[i]?) := by decide +kernel
theorem linX0 : wsX00 = [157, 159, 161, 163].filterMap (fun i => lw_tbl[i]?) := by decide +kernel
theorem linX4 : wsX40 = [182, 184, 186].filterMap (fun i => lw_tbl[i]?) := by decide +kernel
theorem linX5 : wsX50 = [200, 202, 204, 206].filterMap (fun i => lw_tbl[i]?) := by decide +kernel
theorem linX3 : wsX30 = [228, 230, 232, 234, 236, 238, 240].filterMap (fun i => lw_tbl[i]?) := by decide +kernel
theorem linX1 : wsX10 = [131, 133, 135, 137, 139, 141, 143].filterMap (fun i => lw_tbl[i]?) := by decide +kernel
theorem lw_at {ws : List Cond} {ps : List Nat} (h : ws = ps.filterMap (fun i => lw_tbl[i]?)) : ∀ w ∈ ws, w ∈ lw_tbl := by
  intro w hw
  rw [h] at hw
  obtain ⟨i, -, hi⟩ := List.mem_filterMap.mp hw
  exact List.mem_of_getElem? hi
theorem lw_app {a b : List Cond} (ha : ∀ w ∈ a, w ∈ lw_tbl) (hb : ∀ w ∈ b, w ∈ lw_tbl) : ∀ w ∈ a ++ b, w ∈ lw_tbl := fun w h => (List.mem_append.mp h).elim (ha w) (hb w)
theorem wsL_law_in : ∀ w ∈ wsL_law, w ∈ lw_tbl := lw_app (lw_app (lw_app (lw_app (lw_app (lw_app (lw_app (lw_app (lw_app (lw_app (lw_app (lw_at lin1) (lw_app (lw_at lin2) (lw_app (lw_at lin3) (lw_app (lw_at lin4) (lw_app (lw_at lin5) (lw_app (lw_at lin6) (lw_app (lw_at lin7) (lw_app (lw_at lin8) (lw_app (lw_at lin9) (lw_app (lw_at lin10) (lw_app (lw_at lin11) (lw_app (lw_at lin12) (lw_app (lw_at lin13) (lw_app (lw_at lin14) (lw_app (lw_at lin15) (lw_app (lw_at lin16) (lw_app (lw_at lin17) (lw_app (lw_at lin18) (lw_app (lw_at lin19) (lw_app (lw_at lin20) (lw_app (lw_at lin21) (lw_app (lw_at lin22) (lw_app (lw_at lin23) (lw_app (lw_at lin24) (lw_app (lw_at lin25) (lw_app (lw_at lin26) (lw_app (lw_at lin27) (lw_app (lw_at lin28) (lw_app (lw_at lin29) (lw_app (lw_at lin30) (lw_app (lw_at lin31) (lw_app (lw_at lin32) (lw_at lin33))))))))))))))))))))))))))))))))) (lw_at linX7)) (lw_at linX8)) (lw_at linX2)) (lw_at linX6)) (lw_at linX0)) (lw_at linX4)) (lw_at linX5)) (lw_at linX3)) (lw_at linX1)) (fun _ h => absurd h List.not_mem_nil)

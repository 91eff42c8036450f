theorem lin1 : wsL_law_r1 = [44, 45, 30, 665, 666, 43, 46, 47, 48, 49, 50, 51, 52, 53, 31, 346, 74, 75, 32, 347, 99, 100, 33, 348].filterMap (fun i => lw_tbl[i]?) := by decide +kernel
theorem lin2 : wsL_law_r2 = [349, 158, 159, 35, 350, 351, 181, 182, 37, 352, 201, 202, 38, 353, 61, 55, 56, 57, 73, 58, 59, 77, 78, 79].filterMap (fun i => lw_tbl[i]?) := by decide +kernel
theorem lin3 : wsL_law_r3 = [80, 82, 102, 103, 104, 105, 106, 34, 138, 141, 108, 109, 110, 160, 161, 162, 163, 164, 165, 36, 166, 167, 168, 169].filterMap (fun i => lw_tbl[i]?) := by decide +kernel
theorem lin4 : wsL_law_r4 = [170, 171, 184, 185, 186, 187, 188, 189, 203, 204, 205, 206, 207, 210, 211, 212, 209, 236, 237, 238, 39, 239, 969, 240].filterMap (fun i => lw_tbl[i]?) := by decide +kernel
theorem lin5 : wsL_law_r5 = [241, 242, 243, 244, 970, 246, 247, 248, 249, 250, 251, 252, 253, 254, 255, 40, 256, 257, 258, 259, 260, 262, 263, 41].filterMap (fun i => lw_tbl[i]?) := by decide +kernel
theorem lin6 : wsL_law_r6 = [264, 265, 266, 42, 267, 268, 269, 270, 271, 272, 273, 274, 275, 276, 277, 278, 280, 282, 284, 285, 286, 287, 62, 289].filterMap (fun i => lw_tbl[i]?) := by decide +kernel
theorem lin7 : wsL_law_r7 = [290, 291, 293, 0, 294, 60, 295, 296, 297, 298, 84, 87, 300, 301, 302, 303, 144, 146, 304, 305, 306, 307, 111, 113].filterMap (fun i => lw_tbl[i]?) := by decide +kernel
theorem lin8 : wsL_law_r8 = [121, 118, 124, 308, 309, 310, 311, 63, 312, 313, 314, 315, 316, 317, 318, 319, 321, 322, 324, 325, 326, 327, 328, 329].filterMap (fun i => lw_tbl[i]?) := by decide +kernel
theorem lin9 : wsL_law_r9 = [330, 331, 332, 333, 334, 335, 337, 1, 338, 85, 81, 145, 83, 88, 339, 340, 341, 342, 343, 344, 345, 667, 668, 669].filterMap (fun i => lw_tbl[i]?) := by decide +kernel
theorem lin10 : wsL_law_r10 = [670, 673, 677, 679, 371, 683, 688, 689, 690, 691, 671, 672, 674, 372, 373, 374, 375, 376, 741, 742, 743, 744, 745, 746].filterMap (fun i => lw_tbl[i]?) := by decide +kernel
theorem lin11 : wsL_law_r11 = [682, 747, 748, 749, 377, 378, 379, 380, 750, 751, 752, 753, 381, 382, 383, 384, 385, 386, 387, 388, 389, 754, 755, 756].filterMap (fun i => lw_tbl[i]?) := by decide +kernel
theorem lin12 : wsL_law_r12 = [757, 685, 758, 760, 7, 761, 675, 676, 678, 684, 686, 762, 764, 8, 765, 766, 768, 9, 769, 770, 772, 10, 773, 774].filterMap (fun i => lw_tbl[i]?) := by decide +kernel
theorem lin13 : wsL_law_r13 = [775, 776, 778, 11, 779, 780, 782, 12, 783, 390, 391, 392, 393, 173, 191, 784, 785, 786, 787, 680, 681, 687, 788, 790].filterMap (fun i => lw_tbl[i]?) := by decide +kernel
theorem lin14 : wsL_law_r14 = [13, 791, 394, 395, 396, 397, 148, 112, 115, 119, 122, 125, 398, 399, 400, 401, 402, 403, 404, 405, 406, 36, 407, 409].filterMap (fun i => lw_tbl[i]?) := by decide +kernel
theorem lin15 : wsL_law_r15 = [410, 411, 412, 413, 414, 415, 416, 117, 120, 417, 418, 792, 793, 794, 795, 799, 796, 797, 798, 800, 802, 14, 803, 804].filterMap (fun i => lw_tbl[i]?) := by decide +kernel
theorem lin16 : wsL_law_r16 = [806, 15, 807, 808, 810, 16, 811, 419, 420, 421, 422, 423, 424, 425, 426, 812, 813, 814, 815, 816, 427, 428, 429, 430].filterMap (fun i => lw_tbl[i]?) := by decide +kernel
theorem lin17 : wsL_law_r17 = [140, 143, 431, 432, 433, 434, 436, 2, 437, 438, 439, 440, 441, 126, 89, 442, 443, 444, 445, 172, 446, 447, 448, 449].filterMap (fun i => lw_tbl[i]?) := by decide +kernel
theorem lin18 : wsL_law_r18 = [452, 453, 454, 455, 456, 457, 458, 459, 462, 463, 464, 465, 466, 467, 468, 469, 470, 86, 471, 472, 473, 474, 475, 476].filterMap (fun i => lw_tbl[i]?) := by decide +kernel
theorem lin19 : wsL_law_r19 = [477, 123, 478, 479, 480, 481, 488, 489, 485, 490, 491, 817, 818, 819, 820, 821, 822, 824, 17, 825, 826, 828, 18, 829].filterMap (fun i => lw_tbl[i]?) := by decide +kernel
theorem lin20 : wsL_law_r20 = [830, 832, 19, 833, 834, 836, 20, 837, 838, 840, 21, 841, 842, 844, 22, 845, 846, 847, 848, 849, 850, 851, 852, 854].filterMap (fun i => lw_tbl[i]?) := by decide +kernel
theorem lin21 : wsL_law_r21 = [23, 855, 856, 857, 858, 859, 860, 861, 492, 493, 494, 495, 496, 497, 498, 499, 500, 862, 863, 864, 865, 866, 501, 502].filterMap (fun i => lw_tbl[i]?) := by decide +kernel
theorem lin22 : wsL_law_r22 = [503, 504, 505, 506, 507, 867, 868, 869, 870, 508, 509, 510, 511, 512, 513, 514, 515, 516, 517, 518, 519, 520, 521, 522].filterMap (fun i => lw_tbl[i]?) := by decide +kernel
theorem lin23 : wsL_law_r23 = [523, 871, 872, 873, 874, 525, 526, 527, 528, 529, 530, 531, 532, 533, 534, 535, 536, 537, 539, 3, 540, 875, 876, 877].filterMap (fun i => lw_tbl[i]?) := by decide +kernel
theorem lin24 : wsL_law_r24 = [878, 879, 880, 881, 883, 24, 884, 541, 542, 543, 544, 213, 545, 547, 4, 548, 549, 550, 551, 552, 214, 216, 218, 553].filterMap (fun i => lw_tbl[i]?) := by decide +kernel
theorem lin25 : wsL_law_r25 = [554, 555, 556, 217, 219, 215, 557, 558, 559, 560, 561, 562, 563, 564, 565, 566, 567, 568, 569, 570, 147, 571, 572, 885].filterMap (fun i => lw_tbl[i]?) := by decide +kernel
theorem lin26 : wsL_law_r26 = [886, 887, 888, 889, 890, 891, 892, 893, 895, 25, 896, 897, 898, 899, 573, 574, 575, 576, 900, 901, 902, 903, 577, 578].filterMap (fun i => lw_tbl[i]?) := by decide +kernel
theorem lin27 : wsL_law_r27 = [579, 580, 581, 582, 583, 592, 593, 594, 584, 585, 586, 587, 588, 589, 590, 591, 139, 116, 142, 904, 905, 906, 907, 908].filterMap (fun i => lw_tbl[i]?) := by decide +kernel
theorem lin28 : wsL_law_r28 = [692, 909, 911, 26, 912, 913, 915, 27, 916, 595, 596, 597, 598, 917, 918, 919, 920, 693, 599, 600, 601, 602, 603, 604].filterMap (fun i => lw_tbl[i]?) := by decide +kernel
theorem lin29 : wsL_law_r29 = [605, 606, 190, 921, 922, 923, 924, 925, 608, 609, 610, 611, 926, 927, 928, 929, 612, 613, 614, 615, 616, 618, 5, 619].filterMap (fun i => lw_tbl[i]?) := by decide +kernel
theorem lin30 : wsL_law_r30 = [620, 621, 622, 623, 114, 625, 930, 931, 932, 933, 934, 936, 28, 937, 626, 627, 628, 629, 938, 939, 940, 941, 630, 631].filterMap (fun i => lw_tbl[i]?) := by decide +kernel
theorem lin31 : wsL_law_r31 = [632, 633, 634, 636, 6, 637, 638, 639, 640, 641, 942, 943, 944, 945, 946, 947, 642, 643, 644, 645, 646, 647, 648, 649].filterMap (fun i => lw_tbl[i]?) := by decide +kernel
theorem lin32 : wsL_law_r32 = [650, 651, 652, 948, 949, 950, 951, 952, 953, 954, 955, 956, 653, 654, 655, 656, 957, 958, 959, 960, 657, 658, 659, 660].filterMap (fun i => lw_tbl[i]?) := by decide +kernel
theorem lin33 : wsL_law_r33 = [961, 962, 963, 964, 661, 662, 663, 664, 965, 966, 967, 968].filterMap (fun i => lw_tbl[i]?) := by decide +kernel
theorem linX7 : wsX70 = [354, 356, 358, 360, 362, 364, 366, 368].filterMap (fun i => lw_tbl[i]?) := by decide +kernel
theorem linX8 : wsX80 = [694, 696, 698, 700, 702, 704, 706, 708, 710, 712, 714, 716, 718, 720, 722, 724, 726, 728, 730, 732, 734, 736, 738].filterMap (fun i => lw_tbl[i]?) := by decide +kernel
theorem linX2 : wsX20 = [64, 66, 68, 70].filterMap (fun i => lw_tbl[i]?) := by decide +kernel
theorem linX6 : wsX60 = [90, 92, 94, 96].filterMap (fun i => lw_tbl[i]?) := by decide +kernel
theorem linX0 : wsX00 = [149, 151, 153, 155].filterMap (fun i => lw_tbl[i]?) := by decide +kernel
theorem linX4 : wsX40 = [174, 176, 178].filterMap (fun i => lw_tbl[i]?) := by decide +kernel
theorem linX5 : wsX50 = [192, 194, 196, 198].filterMap (fun i => lw_tbl[i]?) := by decide +kernel
theorem linX3 : wsX30 = [220, 222, 224, 226, 228, 230, 232].filterMap (fun i => lw_tbl[i]?) := by decide +kernel
theorem linX1 : wsX10 = [127, 129, 131, 133, 135].filterMap (fun i => lw_tbl[i]?) := by decide +kernel
theorem lw_at {ws : List Cond} {ps : List Nat} (h : ws = ps.filterMap (fun i => lw_tbl[i]?)) : ∀ w ∈ ws, w ∈ lw_tbl := by
  intro w hw
  rw [h] at hw
  obtain ⟨i, -, hi⟩ := List.mem_filterMap.mp hw
  exact List.mem_of_getElem? hi
theorem lw_app {a b : List Cond} (ha : ∀ w ∈ a, w ∈ lw_tbl) (hb : ∀ w ∈ b, w ∈ lw_tbl) : ∀ w ∈ a ++ b, w ∈ lw_tbl := fun w h => (List.mem_append.mp h).elim (ha w) (hb w)
theorem wsL_law_in : ∀ w ∈ wsL_law, w ∈ lw_tbl := lw_app (lw_app (lw_app (lw_app (lw_app (lw_app (lw_app (lw_app (lw_app (lw_app (lw_app (lw_at lin1) (lw_app (lw_at lin2) (lw_app (lw_at lin3) (lw_app (lw_at lin4) (lw_app (lw_at lin5) (lw_app (lw_at lin6) (lw_app (lw_at lin7) (lw_app (lw_at lin8) (lw_app (lw_at lin9) (lw_app (lw_at lin10) (lw_app (lw_at lin11) (lw_app (lw_at lin12) (lw_app (lw_at lin13) (lw_app (lw_at lin14) (lw_app (lw_at lin15) (lw_app (lw_at lin16) (lw_app (lw_at lin17) (lw_app (lw_at lin18) (lw_app (lw_at lin19) (lw_app (lw_at lin20) (lw_app (lw_at lin21) (lw_app (lw_at lin22) (lw_app (lw_at lin23) (lw_app (lw_at lin24) (lw_app (lw_at lin25) (lw_app (lw_at lin26) (lw_app (lw_at lin27) (lw_app (lw_at lin28) (lw_app (lw_at lin29) (lw_app (lw_at lin30) (lw_app (lw_at lin31) (lw_app (lw_at lin32) (lw_at lin33))))))))))))))))))))))))))))))))) (lw_at linX7)) (lw_at linX8)) (lw_at linX2)) (lw_at linX6)) (lw_at linX0)) (lw_at linX4)) (lw_at linX5)) (lw_at linX3)) (lw_at linX1)) (fun _ h => absurd h List.not_mem_nil)

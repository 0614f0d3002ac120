set_option maxRecDepth 20000 in
theorem wsL_law0_r1_in : ∀ w ∈ wsL_law0_r1, w ∈ lw_tbl := fun w h => (goodIn_r wsL_law0_r1 [55, 56, 43, 633, 634, 48, 903, 57, 58, 59, 60, 61, 62, 63, 64, 44, 117, 118, 119, 121, 122, 123, 124, 125] (by decide +kernel) (by decide +kernel) w h).1
set_option maxRecDepth 20000 in
theorem wsL_law0_r2_in : ∀ w ∈ wsL_law0_r2, w ∈ lw_tbl := fun w h => (goodIn_r wsL_law0_r2 [80, 81, 46, 126, 128, 129, 130, 92, 93, 47, 131, 132, 133, 134, 116, 120, 127, 65, 66, 67, 68, 69, 70, 45] (by decide +kernel) (by decide +kernel) w h).1
set_option maxRecDepth 20000 in
theorem wsL_law0_r3_in : ∀ w ∈ wsL_law0_r3, w ∈ lw_tbl := fun w h => (goodIn_r wsL_law0_r3 [71, 79, 72, 73, 82, 83, 84, 85, 86, 91, 87, 95, 96, 97, 98, 101, 102, 103, 104, 99, 635, 636, 637, 638] (by decide +kernel) (by decide +kernel) w h).1
set_option maxRecDepth 20000 in
theorem wsL_law0_r4_in : ∀ w ∈ wsL_law0_r4, w ∈ lw_tbl := fun w h => (goodIn_r wsL_law0_r4 [644, 645, 646, 647, 648, 649, 650, 651, 652, 653, 654, 655, 656, 657, 658, 659, 662, 284, 285, 42, 286, 287, 288, 289] (by decide +kernel) (by decide +kernel) w h).1
set_option maxRecDepth 20000 in
theorem wsL_law0_r5_in : ∀ w ∈ wsL_law0_r5, w ∈ lw_tbl := fun w h => (goodIn_r wsL_law0_r5 [290, 291, 292, 296, 52, 364, 53, 293, 294, 295, 230, 231, 232, 233, 716, 717, 718, 719, 640, 641, 720, 721, 722, 723] (by decide +kernel) (by decide +kernel) w h).1
set_option maxRecDepth 20000 in
theorem wsL_law0_r6_in : ∀ w ∈ wsL_law0_r6, w ∈ lw_tbl := fun w h => (goodIn_r wsL_law0_r6 [725, 24, 726, 639, 712, 713, 714, 715, 380, 381, 382, 383, 384, 385, 386, 387, 388, 390, 9, 391, 392, 54, 202, 203] (by decide +kernel) (by decide +kernel) w h).1
set_option maxRecDepth 20000 in
theorem wsL_law0_r7_in : ∀ w ∈ wsL_law0_r7, w ∈ lw_tbl := fun w h => (goodIn_r wsL_law0_r7 [204, 205, 410, 412, 10, 413, 416, 418, 11, 419, 420, 422, 12, 423, 425, 427, 13, 428, 727, 728, 729, 730, 642, 731] (by decide +kernel) (by decide +kernel) w h).1
set_option maxRecDepth 20000 in
theorem wsL_law0_r8_in : ∀ w ∈ wsL_law0_r8, w ∈ lw_tbl := fun w h => (goodIn_r wsL_law0_r8 [733, 25, 734, 735, 737, 26, 738, 739, 741, 27, 742, 743, 745, 28, 746, 747, 749, 29, 750, 751, 753, 30, 754, 429] (by decide +kernel) (by decide +kernel) w h).1
set_option maxRecDepth 20000 in
theorem wsL_law0_r9_in : ∀ w ∈ wsL_law0_r9, w ∈ lw_tbl := fun w h => (goodIn_r wsL_law0_r9 [430, 431, 432, 433, 434, 435, 436, 438, 14, 439, 214, 215, 216, 217, 218, 219, 220, 221, 755, 756, 757, 758, 759, 761] (by decide +kernel) (by decide +kernel) w h).1
set_option maxRecDepth 20000 in
theorem wsL_law0_r10_in : ∀ w ∈ wsL_law0_r10, w ∈ lw_tbl := fun w h => (goodIn_r wsL_law0_r10 [31, 762, 442, 443, 444, 445, 446, 447, 448, 251, 253, 5, 254, 451, 453, 15, 454, 277, 279, 7, 280, 281, 282, 283] (by decide +kernel) (by decide +kernel) w h).1
set_option maxRecDepth 20000 in
theorem wsL_law0_r11_in : ∀ w ∈ wsL_law0_r11, w ∈ lw_tbl := fun w h => (goodIn_r wsL_law0_r11 [763, 764, 765, 766, 767, 769, 32, 770, 455, 456, 457, 458, 459, 460, 461, 463, 465, 16, 466, 771, 772, 773, 774, 467] (by decide +kernel) (by decide +kernel) w h).1
set_option maxRecDepth 20000 in
theorem wsL_law0_r12_in : ∀ w ∈ wsL_law0_r12, w ∈ lw_tbl := fun w h => (goodIn_r wsL_law0_r12 [468, 469, 470, 471, 472, 473, 178, 179, 180, 181, 100, 476, 477, 478, 479, 480, 775, 776, 777, 778, 643, 174, 175, 176] (by decide +kernel) (by decide +kernel) w h).1
set_option maxRecDepth 20000 in
theorem wsL_law0_r13_in : ∀ w ∈ wsL_law0_r13, w ∈ lw_tbl := fun w h => (goodIn_r wsL_law0_r13 [177, 182, 183, 184, 185, 779, 780, 781, 782, 481, 482, 483, 484, 485, 486, 487, 242, 244, 4, 245, 246, 247, 248, 249] (by decide +kernel) (by decide +kernel) w h).1
set_option maxRecDepth 20000 in
theorem wsL_law0_r14_in : ∀ w ∈ wsL_law0_r14, w ∈ lw_tbl := fun w h => (goodIn_r wsL_law0_r14 [250, 255, 256, 257, 258, 259, 260, 261, 262, 263, 264, 265, 267, 6, 268, 269, 270, 271, 272, 489, 491, 17, 492, 493] (by decide +kernel) (by decide +kernel) w h).1
set_option maxRecDepth 20000 in
theorem wsL_law0_r15_in : ∀ w ∈ wsL_law0_r15, w ∈ lw_tbl := fun w h => (goodIn_r wsL_law0_r15 [494, 495, 496, 497, 499, 18, 500, 501, 502, 503, 504, 505, 506, 507, 508, 509, 510, 511, 512, 783, 784, 785, 786, 787] (by decide +kernel) (by decide +kernel) w h).1
set_option maxRecDepth 20000 in
theorem wsL_law0_r16_in : ∀ w ∈ wsL_law0_r16, w ∈ lw_tbl := fun w h => (goodIn_r wsL_law0_r16 [789, 33, 790, 791, 793, 34, 794, 795, 797, 35, 798, 186, 187, 188, 189, 799, 800, 801, 802, 190, 191, 192, 193, 803] (by decide +kernel) (by decide +kernel) w h).1
set_option maxRecDepth 20000 in
theorem wsL_law0_r17_in : ∀ w ∈ wsL_law0_r17, w ∈ lw_tbl := fun w h => (goodIn_r wsL_law0_r17 [804, 805, 806, 194, 195, 196, 197, 198, 200, 0, 201, 807, 808, 809, 810, 513, 514, 515, 516, 517, 518, 519, 811, 812] (by decide +kernel) (by decide +kernel) w h).1
set_option maxRecDepth 20000 in
theorem wsL_law0_r18_in : ∀ w ∈ wsL_law0_r18, w ∈ lw_tbl := fun w h => (goodIn_r wsL_law0_r18 [813, 814, 520, 521, 522, 523, 524, 525, 526, 815, 816, 817, 818, 527, 528, 529, 530, 531, 532, 533, 819, 820, 821, 822] (by decide +kernel) (by decide +kernel) w h).1
set_option maxRecDepth 20000 in
theorem wsL_law0_r19_in : ∀ w ∈ wsL_law0_r19, w ∈ lw_tbl := fun w h => (goodIn_r wsL_law0_r19 [534, 535, 536, 537, 538, 539, 540, 823, 824, 825, 826, 541, 542, 543, 544, 545, 546, 547, 222, 224, 1, 225, 226, 228] (by decide +kernel) (by decide +kernel) w h).1
set_option maxRecDepth 20000 in
theorem wsL_law0_r20_in : ∀ w ∈ wsL_law0_r20, w ∈ lw_tbl := fun w h => (goodIn_r wsL_law0_r20 [2, 229, 548, 550, 19, 551, 827, 828, 829, 830, 831, 833, 36, 834, 660, 661, 835, 837, 37, 838, 552, 553, 554, 555] (by decide +kernel) (by decide +kernel) w h).1
set_option maxRecDepth 20000 in
theorem wsL_law0_r21_in : ∀ w ∈ wsL_law0_r21, w ∈ lw_tbl := fun w h => (goodIn_r wsL_law0_r21 [556, 557, 558, 839, 840, 841, 842, 559, 560, 561, 562, 563, 564, 565, 843, 844, 845, 846, 567, 568, 569, 570, 571, 572] (by decide +kernel) (by decide +kernel) w h).1
set_option maxRecDepth 20000 in
theorem wsL_law0_r22_in : ∀ w ∈ wsL_law0_r22, w ∈ lw_tbl := fun w h => (goodIn_r wsL_law0_r22 [573, 847, 848, 849, 850, 574, 575, 576, 577, 578, 579, 580, 851, 852, 853, 854, 581, 582, 583, 584, 585, 586, 587, 588] (by decide +kernel) (by decide +kernel) w h).1
set_option maxRecDepth 20000 in
theorem wsL_law0_r23_in : ∀ w ∈ wsL_law0_r23, w ∈ lw_tbl := fun w h => (goodIn_r wsL_law0_r23 [590, 20, 591, 855, 856, 857, 858, 859, 861, 38, 862, 863, 865, 39, 866, 592, 593, 594, 595, 596, 597, 598, 599, 601] (by decide +kernel) (by decide +kernel) w h).1
set_option maxRecDepth 20000 in
theorem wsL_law0_r24_in : ∀ w ∈ wsL_law0_r24, w ∈ lw_tbl := fun w h => (goodIn_r wsL_law0_r24 [21, 602, 210, 211, 212, 213, 603, 605, 22, 606, 867, 868, 869, 870, 871, 873, 40, 874, 206, 207, 208, 209, 234, 236] (by decide +kernel) (by decide +kernel) w h).1
set_option maxRecDepth 20000 in
theorem wsL_law0_r25_in : ∀ w ∈ wsL_law0_r25, w ∈ lw_tbl := fun w h => (goodIn_r wsL_law0_r25 [3, 237, 875, 876, 877, 878, 607, 608, 609, 610, 611, 612, 613, 614, 616, 23, 617, 879, 880, 881, 882, 883, 885, 41] (by decide +kernel) (by decide +kernel) w h).1
set_option maxRecDepth 20000 in
theorem wsL_law0_r26_in : ∀ w ∈ wsL_law0_r26, w ∈ lw_tbl := fun w h => (goodIn_r wsL_law0_r26 [886, 619, 620, 621, 622, 623, 624, 625, 887, 888, 889, 890, 626, 627, 628, 629, 630, 631, 632, 891, 892, 893, 894, 238] (by decide +kernel) (by decide +kernel) w h).1
set_option maxRecDepth 20000 in
theorem wsL_law0_r27_in : ∀ w ∈ wsL_law0_r27, w ∈ lw_tbl := fun w h => (goodIn_r wsL_law0_r27 [239, 240, 241, 895, 896, 897, 898, 273, 274, 275, 276, 899, 900, 901, 902] (by decide +kernel) (by decide +kernel) w h).1

set_option maxRecDepth 100000 in
theorem li_1 : GoodIn lw_tbl wsL_law_r1 := goodIn_r _ [44, 45, 34, 590, 591, 39, 46, 47, 48, 49, 50, 51, 52, 131, 54, 55, 35, 132, 77, 78, 36, 133, 93, 94] (by decide +kernel) (by decide +kernel)
set_option maxRecDepth 100000 in
theorem li_2 : GoodIn lw_tbl wsL_law_r2 := goodIn_r _ [37, 134, 135, 136, 116, 38, 57, 58, 59, 76, 60, 61, 62, 63, 64, 80, 81, 82, 83, 84, 85, 96, 97, 98] (by decide +kernel) (by decide +kernel)
set_option maxRecDepth 100000 in
theorem li_3 : GoodIn lw_tbl wsL_law_r3 := goodIn_r _ [99, 100, 101, 115, 102, 103, 118, 119, 120, 121, 122, 123, 592, 593, 594, 595, 598, 599, 600, 603, 604, 608, 609, 613] (by decide +kernel) (by decide +kernel)
set_option maxRecDepth 100000 in
theorem li_4 : GoodIn lw_tbl wsL_law_r4 := goodIn_r _ [615, 616, 617, 618, 150, 151, 152, 153, 154, 155, 156, 157, 158, 159, 160, 161, 162, 163, 164, 165, 166, 167, 168, 169] (by decide +kernel) (by decide +kernel)
set_option maxRecDepth 100000 in
theorem li_5 : GoodIn lw_tbl wsL_law_r5 := goodIn_r _ [170, 171, 172, 173, 174, 175, 176, 177, 178, 179, 180, 181, 182, 183, 184, 185, 186, 187, 188, 189, 190, 191, 192, 193] (by decide +kernel) (by decide +kernel)
set_option maxRecDepth 100000 in
theorem li_6 : GoodIn lw_tbl wsL_law_r6 := goodIn_r _ [194, 195, 196, 197, 198, 199, 200, 201, 202, 203, 204, 205, 206, 40, 207, 208, 209, 210, 211, 212, 213, 214, 215, 216] (by decide +kernel) (by decide +kernel)
set_option maxRecDepth 100000 in
theorem li_7 : GoodIn lw_tbl wsL_law_r7 := goodIn_r _ [217, 218, 219, 220, 221, 222, 223, 224, 225, 226, 227, 228, 229, 230, 666, 667, 668, 669, 596, 605, 606, 602, 607, 601] (by decide +kernel) (by decide +kernel)
set_option maxRecDepth 100000 in
theorem li_8 : GoodIn lw_tbl wsL_law_r8 := goodIn_r _ [614, 670, 671, 672, 673, 674, 675, 676, 677, 678, 679, 681, 13, 682, 683, 685, 14, 686, 687, 689, 15, 690, 691, 693] (by decide +kernel) (by decide +kernel)
set_option maxRecDepth 100000 in
theorem li_9 : GoodIn lw_tbl wsL_law_r9 := goodIn_r _ [16, 694, 695, 697, 17, 698, 699, 701, 18, 702, 231, 232, 233, 234, 235, 236, 237, 238, 239, 240, 241, 242, 243, 703] (by decide +kernel) (by decide +kernel)
set_option maxRecDepth 100000 in
theorem li_10 : GoodIn lw_tbl wsL_law_r10 := goodIn_r _ [704, 705, 706, 707, 709, 19, 710, 244, 245, 246, 247, 248, 249, 250, 251, 711, 712, 713, 714, 715, 716, 717, 718, 719] (by decide +kernel) (by decide +kernel)
set_option maxRecDepth 100000 in
theorem li_11 : GoodIn lw_tbl wsL_law_r11 := goodIn_r _ [720, 252, 253, 254, 255, 256, 257, 258, 259, 260, 261, 262, 263, 264, 265, 266, 267, 721, 722, 723, 724, 268, 269, 270] (by decide +kernel) (by decide +kernel)
set_option maxRecDepth 100000 in
theorem li_12 : GoodIn lw_tbl wsL_law_r12 := goodIn_r _ [271, 272, 273, 274, 275, 276, 277, 278, 284, 285, 286, 279, 280, 281, 282, 283, 725, 726, 727, 728, 729, 731, 20, 732] (by decide +kernel) (by decide +kernel)
set_option maxRecDepth 100000 in
theorem li_13 : GoodIn lw_tbl wsL_law_r13 := goodIn_r _ [287, 288, 289, 290, 291, 292, 293, 294, 295, 296, 297, 733, 734, 735, 736, 737, 739, 21, 740, 741, 742, 743, 298, 299] (by decide +kernel) (by decide +kernel)
set_option maxRecDepth 100000 in
theorem li_14 : GoodIn lw_tbl wsL_law_r14 := goodIn_r _ [300, 301, 302, 303, 304, 305, 306, 308, 309, 744, 745, 746, 747, 748, 750, 22, 751, 752, 754, 23, 755, 310, 311, 312] (by decide +kernel) (by decide +kernel)
set_option maxRecDepth 100000 in
theorem li_15 : GoodIn lw_tbl wsL_law_r15 := goodIn_r _ [313, 314, 315, 316, 317, 756, 757, 758, 759, 318, 319, 320, 321, 322, 323, 324, 325, 326, 327, 328, 329, 760, 761, 762] (by decide +kernel) (by decide +kernel)
set_option maxRecDepth 100000 in
theorem li_16 : GoodIn lw_tbl wsL_law_r16 := goodIn_r _ [763, 330, 331, 332, 333, 334, 335, 336, 337, 338, 340, 0, 341, 764, 765, 766, 767, 768, 770, 24, 771, 342, 343, 344] (by decide +kernel) (by decide +kernel)
set_option maxRecDepth 100000 in
theorem li_17 : GoodIn lw_tbl wsL_law_r17 := goodIn_r _ [345, 346, 347, 348, 349, 350, 351, 353, 1, 354, 355, 356, 41, 357, 358, 359, 360, 361, 363, 2, 364, 772, 773, 774] (by decide +kernel) (by decide +kernel)
set_option maxRecDepth 100000 in
theorem li_18 : GoodIn lw_tbl wsL_law_r18 := goodIn_r _ [775, 776, 777, 778, 779, 781, 25, 782, 365, 366, 367, 368, 369, 370, 371, 372, 373, 374, 375, 376, 377, 378, 379, 380] (by decide +kernel) (by decide +kernel)
set_option maxRecDepth 100000 in
theorem li_19 : GoodIn lw_tbl wsL_law_r19 := goodIn_r _ [381, 783, 784, 785, 786, 787, 789, 26, 790, 791, 793, 27, 794, 382, 383, 384, 385, 386, 387, 388, 389, 390, 795, 796] (by decide +kernel) (by decide +kernel)
set_option maxRecDepth 100000 in
theorem li_20 : GoodIn lw_tbl wsL_law_r20 := goodIn_r _ [797, 798, 391, 392, 393, 394, 395, 396, 397, 398, 399, 400, 401, 402, 403, 404, 405, 406, 407, 408, 410, 412, 3, 413] (by decide +kernel) (by decide +kernel)
set_option maxRecDepth 100000 in
theorem li_21 : GoodIn lw_tbl wsL_law_r21 := goodIn_r _ [414, 415, 416, 417, 418, 419, 420, 421, 422, 424, 425, 426, 427, 428, 429, 430, 431, 432, 433, 434, 435, 436, 437, 438] (by decide +kernel) (by decide +kernel)
set_option maxRecDepth 100000 in
theorem li_22 : GoodIn lw_tbl wsL_law_r22 := goodIn_r _ [440, 4, 441, 442, 443, 444, 445, 799, 800, 801, 802, 803, 805, 28, 806, 610, 611, 612, 807, 809, 29, 810, 446, 447] (by decide +kernel) (by decide +kernel)
set_option maxRecDepth 100000 in
theorem li_23 : GoodIn lw_tbl wsL_law_r23 := goodIn_r _ [448, 449, 450, 451, 452, 453, 811, 812, 813, 814, 454, 455, 456, 457, 815, 816, 817, 818, 458, 459, 460, 461, 462, 463] (by decide +kernel) (by decide +kernel)
set_option maxRecDepth 100000 in
theorem li_24 : GoodIn lw_tbl wsL_law_r24 := goodIn_r _ [464, 465, 466, 467, 819, 820, 821, 822, 823, 825, 30, 826, 468, 469, 470, 471, 472, 473, 474, 475, 827, 828, 829, 830] (by decide +kernel) (by decide +kernel)
set_option maxRecDepth 100000 in
theorem li_25 : GoodIn lw_tbl wsL_law_r25 := goodIn_r _ [476, 477, 478, 479, 831, 832, 833, 834, 480, 481, 482, 483, 484, 835, 836, 837, 838, 839, 840, 841, 842, 485, 486, 487] (by decide +kernel) (by decide +kernel)
set_option maxRecDepth 100000 in
theorem li_26 : GoodIn lw_tbl wsL_law_r26 := goodIn_r _ [488, 489, 491, 5, 492, 493, 494, 495, 496, 497, 498, 42, 499, 843, 844, 845, 846, 500, 501, 502, 503, 504, 505, 506] (by decide +kernel) (by decide +kernel)
set_option maxRecDepth 100000 in
theorem li_27 : GoodIn lw_tbl wsL_law_r27 := goodIn_r _ [507, 847, 848, 849, 850, 508, 509, 510, 511, 512, 513, 514, 515, 516, 517, 519, 6, 520, 851, 852, 853, 854, 521, 522] (by decide +kernel) (by decide +kernel)
set_option maxRecDepth 100000 in
theorem li_28 : GoodIn lw_tbl wsL_law_r28 := goodIn_r _ [523, 524, 525, 855, 856, 857, 858, 859, 861, 31, 862, 526, 527, 528, 529, 530, 531, 532, 533, 534, 535, 536, 537, 539] (by decide +kernel) (by decide +kernel)
set_option maxRecDepth 100000 in
theorem li_29 : GoodIn lw_tbl wsL_law_r29 := goodIn_r _ [541, 540, 43, 538, 863, 864, 865, 866, 542, 543, 544, 545, 546, 548, 7, 549, 550, 552, 8, 553, 554, 556, 9, 557] (by decide +kernel) (by decide +kernel)
set_option maxRecDepth 100000 in
theorem li_30 : GoodIn lw_tbl wsL_law_r30 := goodIn_r _ [558, 560, 10, 561, 867, 868, 869, 870, 871, 873, 32, 874, 597, 562, 563, 564, 565, 566, 568, 11, 569, 570, 572, 12] (by decide +kernel) (by decide +kernel)
set_option maxRecDepth 100000 in
theorem li_31 : GoodIn lw_tbl wsL_law_r31 := goodIn_r _ [573, 875, 876, 877, 878, 574, 575, 576, 577, 879, 880, 881, 882, 578, 579, 580, 581, 883, 884, 885, 886, 582, 583, 584] (by decide +kernel) (by decide +kernel)
set_option maxRecDepth 100000 in
theorem li_32 : GoodIn lw_tbl wsL_law_r32 := goodIn_r _ [585, 887, 888, 889, 890, 586, 587, 588, 589, 891, 892, 893, 894] (by decide +kernel) (by decide +kernel)
set_option maxRecDepth 100000 in
theorem li_X4 : GoodIn lw_tbl wsX40 := goodIn_r _ [137, 139, 141, 143, 145, 147] (by decide +kernel) (by decide +kernel)
set_option maxRecDepth 100000 in
theorem li_X5 : GoodIn lw_tbl wsX50 := goodIn_r _ [619, 621, 623, 625, 627, 629, 631, 633, 635, 637, 639, 641, 643, 645, 647, 649, 651, 653, 655, 657, 659, 661, 663] (by decide +kernel) (by decide +kernel)
set_option maxRecDepth 100000 in
theorem li_X0 : GoodIn lw_tbl wsX00 := goodIn_r _ [65, 67, 69, 71, 73] (by decide +kernel) (by decide +kernel)
set_option maxRecDepth 100000 in
theorem li_X3 : GoodIn lw_tbl wsX30 := goodIn_r _ [86, 88, 90] (by decide +kernel) (by decide +kernel)
set_option maxRecDepth 100000 in
theorem li_X1 : GoodIn lw_tbl wsX10 := goodIn_r _ [104, 106, 108, 110, 112] (by decide +kernel) (by decide +kernel)
set_option maxRecDepth 100000 in
theorem li_X2 : GoodIn lw_tbl wsX20 := goodIn_r _ [124, 126, 128] (by decide +kernel) (by decide +kernel)
theorem wsL_good : GoodIn lw_tbl wsL_law := (goodIn_app (goodIn_app (goodIn_app (goodIn_app (goodIn_app (goodIn_app (goodIn_app (goodIn_app li_1 (goodIn_app li_2 (goodIn_app li_3 (goodIn_app li_4 (goodIn_app li_5 (goodIn_app li_6 (goodIn_app li_7 (goodIn_app li_8 (goodIn_app li_9 (goodIn_app li_10 (goodIn_app li_11 (goodIn_app li_12 (goodIn_app li_13 (goodIn_app li_14 (goodIn_app li_15 (goodIn_app li_16 (goodIn_app li_17 (goodIn_app li_18 (goodIn_app li_19 (goodIn_app li_20 (goodIn_app li_21 (goodIn_app li_22 (goodIn_app li_23 (goodIn_app li_24 (goodIn_app li_25 (goodIn_app li_26 (goodIn_app li_27 (goodIn_app li_28 (goodIn_app li_29 (goodIn_app li_30 (goodIn_app li_31 li_32))))))))))))))))))))))))))))))) li_X4) li_X5) li_X0) li_X3) li_X1) li_X2) (fun _ h => absurd h List.not_mem_nil))
theorem wsL_law_in : ∀ w ∈ wsL_law, w ∈ lw_tbl := fun w h => (wsL_good w h).1

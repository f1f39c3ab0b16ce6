theorem in_r {big : List Cond} (ws : List Cond) (ps : List Nat) (hp : ws = ps.filterMap (fun i => big[i]?)) : ∀ w ∈ ws, w ∈ big := by
  intro w hw
  rw [hp] at hw
  obtain ⟨i, -, hi⟩ := List.mem_filterMap.mp hw
  first | exact List.mem_of_getElem? hi | exact List.getElem?_mem hi
theorem in_app {big a b : List Cond} (ha : ∀ w ∈ a, w ∈ big) (hb : ∀ w ∈ b, w ∈ big) : ∀ w ∈ a ++ b, w ∈ big := fun w h => (List.mem_append.mp h).elim (ha w) (hb w)
set_option maxRecDepth 100000 in
theorem in_wsL_law_r1 : ∀ w ∈ wsL_law_r1, w ∈ lw_tbl := in_r _ [64, 65, 51, 690, 691, 60, 66, 67, 68, 69, 70, 71, 72, 73, 52, 277, 90, 91, 53, 278, 200, 97, 54, 279] (by decide +kernel)
set_option maxRecDepth 100000 in
theorem in_wsL_law_r2 : ∀ w ∈ wsL_law_r2, w ∈ lw_tbl := in_r _ [202, 203, 56, 280, 222, 223, 57, 281, 282, 239, 240, 58, 283, 257, 258, 59, 284, 275, 285, 311, 286, 287, 103, 55] (by decide +kernel)
set_option maxRecDepth 100000 in
theorem in_wsL_law_r3 : ∀ w ∈ wsL_law_r3, w ∈ lw_tbl := in_r _ [75, 76, 77, 89, 78, 81, 93, 94, 95, 96, 180, 182, 183, 184, 185, 186, 99, 100, 101, 147, 149, 152, 102, 153] (by decide +kernel)
set_option maxRecDepth 100000 in
theorem in_wsL_law_r4 : ∀ w ∈ wsL_law_r4, w ∈ lw_tbl := in_r _ [158, 162, 105, 106, 107, 108, 113, 116, 119, 122, 126, 129, 204, 205, 206, 207, 208, 211, 212, 213, 225, 226, 227, 228] (by decide +kernel)
set_option maxRecDepth 100000 in
theorem in_wsL_law_r5 : ∀ w ∈ wsL_law_r5, w ∈ lw_tbl := in_r _ [229, 230, 242, 243, 244, 245, 246, 248, 260, 261, 262, 263, 264, 266, 692, 693, 694, 695, 698, 705, 706, 707, 708, 709] (by decide +kernel)
set_option maxRecDepth 100000 in
theorem in_wsL_law_r6 : ∀ w ∈ wsL_law_r6, w ∈ lw_tbl := in_r _ [711, 712, 713, 714, 715, 717, 718, 720, 721, 723, 724, 312, 313, 314, 315, 82, 79, 316, 317, 318, 784, 785, 786, 787] (by decide +kernel)
set_option maxRecDepth 100000 in
theorem in_wsL_law_r7 : ∀ w ∈ wsL_law_r7, w ∈ lw_tbl := in_r _ [696, 699, 788, 789, 790, 319, 320, 321, 322, 791, 792, 793, 794, 323, 324, 325, 326, 181, 214, 231, 327, 328, 329, 330] (by decide +kernel)
set_option maxRecDepth 100000 in
theorem in_wsL_law_r8 : ∀ w ∈ wsL_law_r8, w ∈ lw_tbl := in_r _ [331, 332, 333, 334, 120, 123, 127, 130, 335, 337, 0, 338, 83, 80, 339, 340, 341, 342, 344, 1, 345, 346, 348, 2] (by decide +kernel)
set_option maxRecDepth 100000 in
theorem in_wsL_law_r9 : ∀ w ∈ wsL_law_r9, w ∈ lw_tbl := in_r _ [349, 164, 350, 352, 3, 353, 159, 354, 356, 4, 357, 359, 361, 5, 362, 363, 365, 6, 366, 367, 368, 369, 370, 110] (by decide +kernel)
set_option maxRecDepth 100000 in
theorem in_wsL_law_r10 : ∀ w ∈ wsL_law_r10, w ∈ lw_tbl := in_r _ [114, 117, 371, 373, 7, 374, 151, 375, 377, 8, 378, 157, 124, 379, 380, 381, 382, 383, 385, 384, 61, 386, 387, 388] (by decide +kernel)
set_option maxRecDepth 100000 in
theorem in_wsL_law_r11 : ∀ w ∈ wsL_law_r11, w ∈ lw_tbl := in_r _ [389, 390, 795, 796, 797, 798, 704, 700, 710, 701, 799, 801, 17, 802, 702, 703, 803, 805, 18, 806, 807, 809, 19, 810] (by decide +kernel)
set_option maxRecDepth 100000 in
theorem in_wsL_law_r12 : ∀ w ∈ wsL_law_r12, w ∈ lw_tbl := in_r _ [811, 813, 20, 814, 815, 817, 21, 818, 819, 821, 22, 822, 823, 825, 23, 826, 827, 829, 24, 830, 719, 722, 716, 391] (by decide +kernel)
set_option maxRecDepth 100000 in
theorem in_wsL_law_r13 : ∀ w ∈ wsL_law_r13, w ∈ lw_tbl := in_r _ [392, 393, 394, 156, 112, 115, 148, 121, 118, 395, 396, 397, 398, 400, 401, 402, 403, 404, 405, 406, 407, 408, 409, 410] (by decide +kernel)
set_option maxRecDepth 100000 in
theorem in_wsL_law_r14 : ∀ w ∈ wsL_law_r14, w ∈ lw_tbl := in_r _ [411, 412, 413, 414, 415, 416, 417, 418, 419, 420, 421, 422, 423, 424, 425, 426, 433, 434, 63, 435, 427, 428, 62, 429] (by decide +kernel)
set_option maxRecDepth 100000 in
theorem in_wsL_law_r15 : ∀ w ∈ wsL_law_r15, w ∈ lw_tbl := in_r _ [430, 431, 432, 436, 437, 438, 439, 831, 832, 833, 834, 835, 837, 25, 838, 839, 841, 26, 842, 843, 844, 845, 846, 848] (by decide +kernel)
set_option maxRecDepth 100000 in
theorem in_wsL_law_r16 : ∀ w ∈ wsL_law_r16, w ∈ lw_tbl := in_r _ [27, 849, 850, 852, 28, 853, 854, 856, 29, 857, 858, 860, 30, 861, 862, 863, 864, 441, 442, 443, 444, 150, 865, 866] (by decide +kernel)
set_option maxRecDepth 100000 in
theorem in_wsL_law_r17 : ∀ w ∈ wsL_law_r17, w ∈ lw_tbl := in_r _ [867, 868, 445, 446, 447, 448, 455, 449, 450, 451, 452, 453, 454, 456, 457, 458, 459, 460, 461, 462, 869, 870, 871, 872] (by decide +kernel)
set_option maxRecDepth 100000 in
theorem in_wsL_law_r18 : ∀ w ∈ wsL_law_r18, w ∈ lw_tbl := in_r _ [873, 875, 31, 876, 877, 878, 879, 880, 881, 882, 463, 464, 465, 466, 125, 467, 468, 469, 470, 471, 473, 9, 474, 475] (by decide +kernel)
set_option maxRecDepth 100000 in
theorem in_wsL_law_r19 : ∀ w ∈ wsL_law_r19, w ∈ lw_tbl := in_r _ [477, 10, 478, 479, 480, 481, 482, 483, 484, 485, 486, 487, 488, 489, 490, 491, 492, 493, 883, 884, 885, 886, 887, 889] (by decide +kernel)
set_option maxRecDepth 100000 in
theorem in_wsL_law_r20 : ∀ w ∈ wsL_law_r20, w ∈ lw_tbl := in_r _ [32, 890, 891, 893, 33, 894, 895, 897, 34, 898, 899, 901, 35, 902, 903, 905, 36, 906, 494, 495, 496, 497, 131, 128] (by decide +kernel)
set_option maxRecDepth 100000 in
theorem in_wsL_law_r21 : ∀ w ∈ wsL_law_r21, w ∈ lw_tbl := in_r _ [498, 499, 500, 501, 502, 503, 504, 505, 506, 507, 508, 509, 510, 511, 512, 513, 514, 515, 516, 517, 518, 907, 908, 909] (by decide +kernel)
set_option maxRecDepth 100000 in
theorem in_wsL_law_r22 : ∀ w ∈ wsL_law_r22, w ∈ lw_tbl := in_r _ [910, 911, 913, 37, 914, 915, 917, 38, 918, 919, 921, 39, 922, 923, 925, 40, 926, 927, 929, 41, 930, 931, 933, 42] (by decide +kernel)
set_option maxRecDepth 100000 in
theorem in_wsL_law_r23 : ∀ w ∈ wsL_law_r23, w ∈ lw_tbl := in_r _ [934, 935, 937, 43, 938, 519, 520, 521, 522, 523, 524, 525, 526, 528, 529, 530, 527, 939, 940, 941, 942, 943, 945, 44] (by decide +kernel)
set_option maxRecDepth 100000 in
theorem in_wsL_law_r24 : ∀ w ∈ wsL_law_r24, w ∈ lw_tbl := in_r _ [946, 531, 532, 533, 534, 947, 948, 949, 950, 535, 536, 537, 538, 539, 951, 952, 953, 954, 540, 541, 542, 543, 955, 956] (by decide +kernel)
set_option maxRecDepth 100000 in
theorem in_wsL_law_r25 : ∀ w ∈ wsL_law_r25, w ∈ lw_tbl := in_r _ [957, 958, 544, 545, 546, 547, 959, 960, 961, 962, 548, 549, 550, 551, 552, 553, 554, 555, 556, 557, 963, 964, 965, 966] (by decide +kernel)
set_option maxRecDepth 100000 in
theorem in_wsL_law_r26 : ∀ w ∈ wsL_law_r26, w ∈ lw_tbl := in_r _ [967, 558, 559, 560, 561, 562, 563, 564, 565, 968, 969, 970, 971, 566, 567, 568, 569, 249, 247, 570, 571, 572, 573, 574] (by decide +kernel)
set_option maxRecDepth 100000 in
theorem in_wsL_law_r27 : ∀ w ∈ wsL_law_r27, w ∈ lw_tbl := in_r _ [576, 11, 577, 165, 578, 160, 155, 111, 579, 581, 12, 582, 583, 584, 585, 586, 587, 972, 973, 974, 975, 976, 977, 979] (by decide +kernel)
set_option maxRecDepth 100000 in
theorem in_wsL_law_r28 : ∀ w ∈ wsL_law_r28, w ∈ lw_tbl := in_r _ [45, 980, 588, 589, 590, 591, 592, 981, 982, 983, 984, 593, 594, 595, 596, 597, 598, 599, 600, 985, 986, 987, 988, 601] (by decide +kernel)
set_option maxRecDepth 100000 in
theorem in_wsL_law_r29 : ∀ w ∈ wsL_law_r29, w ∈ lw_tbl := in_r _ [602, 603, 604, 989, 990, 991, 992, 605, 606, 607, 608, 993, 994, 995, 996, 609, 610, 611, 612, 166, 613, 614, 615, 616] (by decide +kernel)
set_option maxRecDepth 100000 in
theorem in_wsL_law_r30 : ∀ w ∈ wsL_law_r30, w ∈ lw_tbl := in_r _ [617, 997, 998, 999, 1000, 1001, 1003, 46, 1004, 619, 620, 621, 622, 623, 625, 13, 626, 627, 628, 629, 630, 1005, 1006, 1007] (by decide +kernel)
set_option maxRecDepth 100000 in
theorem in_wsL_law_r31 : ∀ w ∈ wsL_law_r31, w ∈ lw_tbl := in_r _ [1008, 1009, 1011, 47, 1012, 631, 632, 633, 634, 267, 265, 635, 636, 637, 638, 639, 641, 14, 642, 163, 643, 644, 645, 646] (by decide +kernel)
set_option maxRecDepth 100000 in
theorem in_wsL_law_r32 : ∀ w ∈ wsL_law_r32, w ∈ lw_tbl := in_r _ [154, 109, 647, 1013, 1014, 1015, 1016, 1017, 1019, 48, 1020, 1021, 1023, 49, 1024, 648, 649, 650, 651, 161, 652, 654, 15, 655] (by decide +kernel)
set_option maxRecDepth 100000 in
theorem in_wsL_law_r33 : ∀ w ∈ wsL_law_r33, w ∈ lw_tbl := in_r _ [656, 657, 658, 659, 660, 661, 1025, 1026, 1027, 1028, 1029, 1030, 1031, 662, 663, 664, 665, 666, 667, 669, 16, 670, 671, 1032] (by decide +kernel)
set_option maxRecDepth 100000 in
theorem in_wsL_law_r34 : ∀ w ∈ wsL_law_r34, w ∈ lw_tbl := in_r _ [1033, 1034, 1035, 1036, 697, 1037, 1038, 1039, 1040, 1041, 673, 674, 675, 676, 677, 1042, 1043, 1044, 1045, 678, 679, 680, 681, 1046] (by decide +kernel)
set_option maxRecDepth 100000 in
theorem in_wsL_law_r35 : ∀ w ∈ wsL_law_r35, w ∈ lw_tbl := in_r _ [1047, 1048, 1049, 682, 683, 684, 685, 1050, 1051, 1052, 1053, 686, 687, 688, 689, 1054, 1055, 1056, 1057] (by decide +kernel)
set_option maxRecDepth 100000 in
theorem in_wsX80 : ∀ w ∈ wsX80, w ∈ lw_tbl := in_r _ [288, 290, 292, 294, 296, 298, 300, 302, 304, 306, 308] (by decide +kernel)
set_option maxRecDepth 100000 in
theorem in_wsX90 : ∀ w ∈ wsX90, w ∈ lw_tbl := in_r _ [725, 727, 729, 731, 733, 735, 737, 739, 741, 743, 745, 747, 749, 751, 753, 755, 757, 759, 761, 763, 765, 767, 769, 771, 773, 775, 777, 779, 781] (by decide +kernel)
set_option maxRecDepth 100000 in
theorem in_wsX60 : ∀ w ∈ wsX60, w ∈ lw_tbl := in_r _ [84, 86] (by decide +kernel)
set_option maxRecDepth 100000 in
theorem in_wsX40 : ∀ w ∈ wsX40, w ∈ lw_tbl := in_r _ [187, 189, 191, 193, 195, 197] (by decide +kernel)
set_option maxRecDepth 100000 in
theorem in_wsX10 : ∀ w ∈ wsX10, w ∈ lw_tbl := in_r _ [167, 169, 171, 173, 175, 177] (by decide +kernel)
set_option maxRecDepth 100000 in
theorem in_wsX30 : ∀ w ∈ wsX30, w ∈ lw_tbl := in_r _ [215, 217, 219] (by decide +kernel)
set_option maxRecDepth 100000 in
theorem in_wsX00 : ∀ w ∈ wsX00, w ∈ lw_tbl := in_r _ [232, 234, 236] (by decide +kernel)
set_option maxRecDepth 100000 in
theorem in_wsX50 : ∀ w ∈ wsX50, w ∈ lw_tbl := in_r _ [250, 252, 254] (by decide +kernel)
set_option maxRecDepth 100000 in
theorem in_wsX70 : ∀ w ∈ wsX70, w ∈ lw_tbl := in_r _ [268, 270, 272] (by decide +kernel)
set_option maxRecDepth 100000 in
theorem in_wsX20 : ∀ w ∈ wsX20, w ∈ lw_tbl := in_r _ [132, 134, 136, 138, 140, 142, 144] (by decide +kernel)
theorem BW_in : ∀ w ∈ BW, w ∈ lw_tbl := (in_app (in_app (in_app (in_app (in_app (in_app (in_app (in_app (in_app (in_app (in_app (in_app in_wsL_law_r1 (in_app in_wsL_law_r2 (in_app in_wsL_law_r3 (in_app in_wsL_law_r4 (in_app in_wsL_law_r5 (in_app in_wsL_law_r6 (in_app in_wsL_law_r7 (in_app in_wsL_law_r8 (in_app in_wsL_law_r9 (in_app in_wsL_law_r10 (in_app in_wsL_law_r11 (in_app in_wsL_law_r12 (in_app in_wsL_law_r13 (in_app in_wsL_law_r14 (in_app in_wsL_law_r15 (in_app in_wsL_law_r16 (in_app in_wsL_law_r17 (in_app in_wsL_law_r18 (in_app in_wsL_law_r19 (in_app in_wsL_law_r20 (in_app in_wsL_law_r21 (in_app in_wsL_law_r22 (in_app in_wsL_law_r23 (in_app in_wsL_law_r24 (in_app in_wsL_law_r25 (in_app in_wsL_law_r26 (in_app in_wsL_law_r27 (in_app in_wsL_law_r28 (in_app in_wsL_law_r29 (in_app in_wsL_law_r30 (in_app in_wsL_law_r31 (in_app in_wsL_law_r32 (in_app in_wsL_law_r33 (in_app in_wsL_law_r34 in_wsL_law_r35)))))))))))))))))))))))))))))))))) in_wsX80) in_wsX90) in_wsX60) in_wsX40) in_wsX10) in_wsX30) in_wsX00) in_wsX50) in_wsX70) in_wsX20) (fun _ h => absurd h List.not_mem_nil))
set_option maxRecDepth 100000 in
theorem nest_in : ∀ q ∈ nestL, Cond.methodLinkNest q.1 q.2.1 q.2.2.1 q.2.2.2 ∈ lw_tbl := by
  have h := in_r (big := lw_tbl) (nestL.map (fun q => Cond.methodLinkNest q.1 q.2.1 q.2.2.1 q.2.2.2)) [74, 92, 98, 104, 201, 210, 224, 241, 259, 276, 358, 399, 440, 618] (by decide +kernel)
  exact fun q hq => h _ (List.mem_map_of_mem hq)

/-! the words of the law stand in the tables -/
theorem lw_pl {ws : List Cond} (ps : List Nat) (h : ws = ps.filterMap (fun i => lw_tbl[i]?)) : ∀ w ∈ ws, w ∈ lw_tbl := by
  intro w hw
  rw [h] at hw
  obtain ⟨i, -, hi⟩ := List.mem_filterMap.mp hw
  exact List.mem_of_getElem? hi
theorem lwc_wsL_law0_r1 : ∀ w ∈ wsL_law0_r1, w ∈ lw_tbl := lw_pl [57, 58, 41, 721, 722, 50, 1021, 59, 60, 61, 62, 63, 64, 65, 66, 42, 290, 91, 92, 44, 292, 118, 291, 137] (by decide +kernel)
theorem lwc_wsL_law0_r2 : ∀ w ∈ wsL_law0_r2, w ∈ lw_tbl := lw_pl [138, 46, 293, 168, 169, 47, 294, 220, 221, 48, 295, 242, 243, 49, 296, 297, 298, 67, 68, 69, 70, 90, 74, 76] (by decide +kernel)
theorem lwc_wsL_law0_r3 : ∀ w ∈ wsL_law0_r3, w ∈ lw_tbl := lw_pl [78, 71, 72, 43, 73, 94, 95, 96, 97, 98, 45, 117, 119, 120, 100, 101, 102, 103, 106, 140, 141, 142, 143, 145] (by decide +kernel)
theorem lwc_wsL_law0_r4 : ∀ w ∈ wsL_law0_r4, w ∈ lw_tbl := lw_pl [147, 170, 171, 172, 173, 175, 177, 178, 179, 181, 183, 184, 186, 188, 189, 174, 223, 224, 225, 226, 228, 230, 241, 231] (by decide +kernel)
theorem lwc_wsL_law0_r5 : ∀ w ∈ wsL_law0_r5, w ∈ lw_tbl := lw_pl [245, 246, 247, 248, 250, 252, 254, 256, 258, 260, 261, 723, 724, 725, 726, 731, 732, 735, 736, 737, 738, 739, 742, 743] (by decide +kernel)
theorem lwc_wsL_law0_r6 : ∀ w ∈ wsL_law0_r6, w ∈ lw_tbl := lw_pl [744, 745, 746, 748, 749, 750, 751, 752, 753, 754, 755, 757, 758, 759, 760, 761, 762, 763, 764, 765, 766, 318, 319, 320] (by decide +kernel)
theorem lwc_wsL_law0_r7 : ∀ w ∈ wsL_law0_r7, w ∈ lw_tbl := lw_pl [321, 80, 322, 323, 324, 325, 327, 0, 328, 329, 330, 331, 332, 79, 333, 335, 1, 336, 848, 849, 850, 851, 727, 729] (by decide +kernel)
theorem lwc_wsL_law0_r8 : ∀ w ∈ wsL_law0_r8, w ∈ lw_tbl := lw_pl [852, 853, 854, 855, 857, 20, 858, 728, 859, 861, 21, 862, 337, 338, 339, 340, 341, 342, 343, 344, 345, 347, 2, 348] (by decide +kernel)
theorem lwc_wsL_law0_r9 : ∀ w ∈ wsL_law0_r9, w ∈ lw_tbl := lw_pl [349, 350, 351, 352, 353, 355, 3, 356, 863, 864, 865, 866, 867, 869, 22, 870, 871, 873, 23, 874, 875, 877, 24, 878] (by decide +kernel)
theorem lwc_wsL_law0_r10 : ∀ w ∈ wsL_law0_r10, w ∈ lw_tbl := lw_pl [357, 358, 359, 360, 109, 361, 362, 363, 364, 107, 365, 366, 367, 368, 879, 880, 881, 882, 730, 369, 370, 371, 372, 373] (by decide +kernel)
theorem lwc_wsL_law0_r11 : ∀ w ∈ wsL_law0_r11, w ∈ lw_tbl := lw_pl [374, 375, 376, 377, 378, 379, 380, 883, 884, 885, 886, 887, 889, 25, 890, 381, 382, 383, 384, 192, 227, 229, 385, 386] (by decide +kernel)
theorem lwc_wsL_law0_r12 : ∀ w ∈ wsL_law0_r12, w ∈ lw_tbl := lw_pl [387, 891, 892, 893, 894, 747, 388, 389, 390, 391, 152, 392, 394, 4, 395, 396, 397, 398, 399, 149, 400, 401, 402, 403] (by decide +kernel)
theorem lwc_wsL_law0_r13 : ∀ w ∈ wsL_law0_r13, w ∈ lw_tbl := lw_pl [404, 405, 406, 407, 151, 408, 409, 410, 411, 412, 153, 413, 415, 5, 416, 895, 896, 897, 898, 740, 741, 899, 901, 26] (by decide +kernel)
theorem lwc_wsL_law0_r14 : ∀ w ∈ wsL_law0_r14, w ∈ lw_tbl := lw_pl [902, 903, 905, 27, 906, 417, 418, 419, 420, 144, 146, 148, 421, 422, 423, 424, 907, 908, 909, 910, 425, 426, 427, 428] (by decide +kernel)
theorem lwc_wsL_law0_r15 : ∀ w ∈ wsL_law0_r15, w ∈ lw_tbl := lw_pl [429, 430, 431, 432, 433, 435, 6, 436, 108, 104, 445, 446, 51, 447, 437, 439, 7, 440, 441, 442, 443, 444, 911, 912] (by decide +kernel)
theorem lwc_wsL_law0_r16 : ∀ w ∈ wsL_law0_r16, w ∈ lw_tbl := lw_pl [913, 914, 915, 917, 28, 918, 919, 448, 449, 450, 451, 150, 125, 123, 452, 453, 454, 455, 122, 124, 456, 457, 459, 8] (by decide +kernel)
theorem lwc_wsL_law0_r17 : ∀ w ∈ wsL_law0_r17, w ∈ lw_tbl := lw_pl [460, 461, 463, 9, 464, 75, 77, 121, 465, 466, 467, 468, 191, 193, 469, 470, 471, 472, 473, 474, 475, 476, 477, 479] (by decide +kernel)
theorem lwc_wsL_law0_r18 : ∀ w ∈ wsL_law0_r18, w ∈ lw_tbl := lw_pl [478, 52, 920, 921, 922, 923, 734, 924, 926, 29, 927, 928, 930, 30, 931, 733, 480, 481, 482, 483, 176, 180, 182, 187] (by decide +kernel)
theorem lwc_wsL_law0_r19 : ∀ w ∈ wsL_law0_r19, w ∈ lw_tbl := lw_pl [185, 484, 485, 486, 487, 488, 489, 490, 491, 492, 493, 494, 495, 496, 497, 498, 499, 500, 501, 503, 10, 504, 505, 932] (by decide +kernel)
theorem lwc_wsL_law0_r20 : ∀ w ∈ wsL_law0_r20, w ∈ lw_tbl := lw_pl [933, 934, 935, 936, 938, 31, 939, 940, 942, 32, 943, 944, 946, 33, 947, 948, 950, 34, 951, 506, 507, 508, 509, 510] (by decide +kernel)
theorem lwc_wsL_law0_r21 : ∀ w ∈ wsL_law0_r21, w ∈ lw_tbl := lw_pl [511, 512, 513, 514, 516, 11, 517, 518, 520, 12, 521, 522, 524, 13, 525, 526, 528, 14, 529, 952, 953, 954, 955, 956] (by decide +kernel)
theorem lwc_wsL_law0_r22 : ∀ w ∈ wsL_law0_r22, w ∈ lw_tbl := lw_pl [958, 35, 959, 530, 531, 532, 533, 190, 960, 961, 962, 963, 534, 535, 536, 537, 538, 539, 540, 541, 964, 965, 966, 967] (by decide +kernel)
theorem lwc_wsL_law0_r23 : ∀ w ∈ wsL_law0_r23, w ∈ lw_tbl := lw_pl [542, 543, 544, 545, 194, 546, 547, 548, 549, 968, 969, 970, 971, 550, 551, 552, 553, 554, 555, 556, 557, 558, 560, 15] (by decide +kernel)
theorem lwc_wsL_law0_r24 : ∀ w ∈ wsL_law0_r24, w ∈ lw_tbl := lw_pl [561, 562, 564, 16, 565, 566, 972, 973, 974, 975, 976, 978, 36, 979, 567, 568, 569, 570, 264, 105, 571, 572, 573, 574] (by decide +kernel)
theorem lwc_wsL_law0_r25 : ∀ w ∈ wsL_law0_r25, w ∈ lw_tbl := lw_pl [263, 980, 981, 982, 983, 756, 575, 576, 577, 578, 253, 255, 249, 251, 257, 259, 579, 580, 581, 582, 583, 584, 585, 586] (by decide +kernel)
theorem lwc_wsL_law0_r26 : ∀ w ∈ wsL_law0_r26, w ∈ lw_tbl := lw_pl [587, 588, 589, 590, 591, 593, 17, 594, 595, 596, 598, 18, 599, 608, 609, 610, 600, 601, 602, 603, 262, 265, 604, 605] (by decide +kernel)
theorem lwc_wsL_law0_r27 : ∀ w ∈ wsL_law0_r27, w ∈ lw_tbl := lw_pl [606, 607, 611, 612, 613, 614, 615, 616, 617, 618, 619, 984, 985, 986, 987, 996, 988, 990, 37, 991, 992, 994, 38, 995] (by decide +kernel)
theorem lwc_wsL_law0_r28 : ∀ w ∈ wsL_law0_r28, w ∈ lw_tbl := lw_pl [997, 999, 39, 1000, 644, 645, 40, 646, 647, 648, 649, 650, 651, 652, 56, 713, 714, 715, 716, 1001, 1002, 1003, 1004, 717] (by decide +kernel)
theorem lwc_wsL_law0_r29 : ∀ w ∈ wsL_law0_r29, w ∈ lw_tbl := lw_pl [718, 719, 720, 620, 621, 622, 623, 624, 625, 626, 627, 1005, 1006, 1007, 1008, 628, 629, 630, 631, 1009, 1010, 1011, 1012, 632] (by decide +kernel)
theorem lwc_wsL_law0_r30 : ∀ w ∈ wsL_law0_r30, w ∈ lw_tbl := lw_pl [633, 634, 635, 154, 266, 636, 637, 638, 639, 1013, 1014, 1015, 1016, 640, 641, 642, 643, 1017, 1018, 1019, 1020] (by decide +kernel)
theorem lwc_wsX70 : ∀ w ∈ wsX70, w ∈ lw_tbl := lw_pl [299, 301, 303, 305, 307, 309, 311, 313, 315] (by decide +kernel)
theorem lwc_wsX80 : ∀ w ∈ wsX80, w ∈ lw_tbl := lw_pl [767, 769, 771, 773, 775, 777, 779, 781, 783, 785, 787, 789, 791, 793, 795, 797, 799, 801, 803, 805, 807, 809, 811, 813, 815, 817, 819, 821, 823, 825, 827, 829, 831, 833, 835, 837, 839, 841, 843, 845] (by decide +kernel)
theorem lwc_wsX30 : ∀ w ∈ wsX30, w ∈ lw_tbl := lw_pl [81, 83, 85, 87] (by decide +kernel)
theorem lwc_wsX10 : ∀ w ∈ wsX10, w ∈ lw_tbl := lw_pl [126, 128, 130, 132, 134] (by decide +kernel)
theorem lwc_wsX00 : ∀ w ∈ wsX00, w ∈ lw_tbl := lw_pl [155, 157, 159, 161, 163, 165] (by decide +kernel)
theorem lwc_wsX60 : ∀ w ∈ wsX60, w ∈ lw_tbl := lw_pl [195, 197, 199, 201, 203, 205, 207, 209, 211, 213, 215, 217] (by decide +kernel)
theorem lwc_wsX20 : ∀ w ∈ wsX20, w ∈ lw_tbl := lw_pl [232, 234, 236, 238] (by decide +kernel)
theorem lwc_wsX50 : ∀ w ∈ wsX50, w ∈ lw_tbl := lw_pl [267, 269, 271, 273, 275, 277, 279, 281, 283, 285, 287] (by decide +kernel)
theorem lwc_wsX40 : ∀ w ∈ wsX40, w ∈ lw_tbl := lw_pl [110, 112, 114] (by decide +kernel)
theorem TW_tbl : ∀ w ∈ TW, w ∈ lw_tbl := by
  intro w hw
  have hw : w ∈ (wsL_law0_r1 ++ (wsL_law0_r2 ++ (wsL_law0_r3 ++ (wsL_law0_r4 ++ (wsL_law0_r5 ++ (wsL_law0_r6 ++ (wsL_law0_r7 ++ (wsL_law0_r8 ++ (wsL_law0_r9 ++ (wsL_law0_r10 ++ (wsL_law0_r11 ++ (wsL_law0_r12 ++ (wsL_law0_r13 ++ (wsL_law0_r14 ++ (wsL_law0_r15 ++ (wsL_law0_r16 ++ (wsL_law0_r17 ++ (wsL_law0_r18 ++ (wsL_law0_r19 ++ (wsL_law0_r20 ++ (wsL_law0_r21 ++ (wsL_law0_r22 ++ (wsL_law0_r23 ++ (wsL_law0_r24 ++ (wsL_law0_r25 ++ (wsL_law0_r26 ++ (wsL_law0_r27 ++ (wsL_law0_r28 ++ (wsL_law0_r29 ++ (wsL_law0_r30)))))))))))))))))))))))))))))) ++ wsX70 ++ wsX80 ++ wsX30 ++ wsX10 ++ wsX00 ++ wsX60 ++ wsX20 ++ wsX50 ++ wsX40 ++ ([] : List Cond) := hw
  simp only [List.mem_append] at hw
  rcases hw with ((((((((((hw | (hw | (hw | (hw | (hw | (hw | (hw | (hw | (hw | (hw | (hw | (hw | (hw | (hw | (hw | (hw | (hw | (hw | (hw | (hw | (hw | (hw | (hw | (hw | (hw | (hw | (hw | (hw | (hw | hw))))))))))))))))))))))))))))) | hw) | hw) | hw) | hw) | hw) | hw) | hw) | hw) | hw) | hw
  · exact lwc_wsL_law0_r1 w hw
  · exact lwc_wsL_law0_r2 w hw
  · exact lwc_wsL_law0_r3 w hw
  · exact lwc_wsL_law0_r4 w hw
  · exact lwc_wsL_law0_r5 w hw
  · exact lwc_wsL_law0_r6 w hw
  · exact lwc_wsL_law0_r7 w hw
  · exact lwc_wsL_law0_r8 w hw
  · exact lwc_wsL_law0_r9 w hw
  · exact lwc_wsL_law0_r10 w hw
  · exact lwc_wsL_law0_r11 w hw
  · exact lwc_wsL_law0_r12 w hw
  · exact lwc_wsL_law0_r13 w hw
  · exact lwc_wsL_law0_r14 w hw
  · exact lwc_wsL_law0_r15 w hw
  · exact lwc_wsL_law0_r16 w hw
  · exact lwc_wsL_law0_r17 w hw
  · exact lwc_wsL_law0_r18 w hw
  · exact lwc_wsL_law0_r19 w hw
  · exact lwc_wsL_law0_r20 w hw
  · exact lwc_wsL_law0_r21 w hw
  · exact lwc_wsL_law0_r22 w hw
  · exact lwc_wsL_law0_r23 w hw
  · exact lwc_wsL_law0_r24 w hw
  · exact lwc_wsL_law0_r25 w hw
  · exact lwc_wsL_law0_r26 w hw
  · exact lwc_wsL_law0_r27 w hw
  · exact lwc_wsL_law0_r28 w hw
  · exact lwc_wsL_law0_r29 w hw
  · exact lwc_wsL_law0_r30 w hw
  · exact lwc_wsX70 w hw
  · exact lwc_wsX80 w hw
  · exact lwc_wsX30 w hw
  · exact lwc_wsX10 w hw
  · exact lwc_wsX00 w hw
  · exact lwc_wsX60 w hw
  · exact lwc_wsX20 w hw
  · exact lwc_wsX50 w hw
  · exact lwc_wsX40 w hw
  · cases hw

theorem ms_r {big : List Cond} (ws : List Cond) (ps : List Nat) (hp : ws = ps.filterMap (fun i => big[i]?)) : ∀ w ∈ ws, w ∈ big := by
  intro w hw
  rw [hp] at hw
  obtain ⟨i, -, hi⟩ := List.mem_filterMap.mp hw
  exact List.mem_of_getElem? hi
set_option maxRecDepth 20000 in
theorem wsL_law_r1_in : ∀ w ∈ wsL_law_r1, w ∈ lw_tbl := fun w h => ms_r wsL_law_r1 [71, 72, 63, 587, 588, 70, 73, 74, 75, 76, 77, 78, 79, 80, 64, 226, 93, 94, 65, 227, 132, 100, 66, 228] (by decide +kernel) w h
set_option maxRecDepth 20000 in
theorem wsL_law_r2_in : ∀ w ∈ wsL_law_r2, w ∈ lw_tbl := fun w h => ms_r wsL_law_r2 [92, 229, 134, 135, 67, 230, 82, 83, 84, 85, 96, 97, 98, 99, 118, 102, 103, 104, 105, 106, 136, 137, 138, 139] (by decide +kernel) w h
set_option maxRecDepth 20000 in
theorem wsL_law_r3_in : ∀ w ∈ wsL_law_r3, w ∈ lw_tbl := fun w h => ms_r wsL_law_r3 [140, 141, 68, 170, 172, 225, 174, 175, 176, 177, 178, 179, 188, 190, 168, 169, 142, 143, 144, 145, 152, 153, 146, 147] (by decide +kernel) w h
set_option maxRecDepth 20000 in
theorem wsL_law_r4_in : ∀ w ∈ wsL_law_r4, w ∈ lw_tbl := fun w h => ms_r wsL_law_r4 [69, 148, 149, 150, 151, 589, 590, 591, 592, 594, 596, 597, 600, 602, 603, 607, 609, 610, 612, 613, 614, 615, 616, 617] (by decide +kernel) w h
set_option maxRecDepth 20000 in
theorem wsL_law_r5_in : ∀ w ∈ wsL_law_r5, w ∈ lw_tbl := fun w h => ms_r wsL_law_r5 [618, 619, 623, 625, 248, 249, 250, 251, 252, 253, 254, 255, 86, 256, 257, 258, 259, 696, 697, 698, 699, 593, 700, 701] (by decide +kernel) w h
set_option maxRecDepth 20000 in
theorem wsL_law_r6_in : ∀ w ∈ wsL_law_r6, w ∈ lw_tbl := fun w h => ms_r wsL_law_r6 [702, 260, 261, 262, 263, 264, 265, 266, 267, 703, 704, 705, 706, 268, 269, 270, 271, 272, 273, 274, 275, 120, 121, 122] (by decide +kernel) w h
set_option maxRecDepth 20000 in
theorem wsL_law_r7_in : ∀ w ∈ wsL_law_r7, w ∈ lw_tbl := fun w h => ms_r wsL_law_r7 [276, 277, 278, 279, 107, 108, 280, 281, 282, 283, 284, 285, 287, 0, 288, 289, 290, 291, 292, 293, 294, 295, 296, 297] (by decide +kernel) w h
set_option maxRecDepth 20000 in
theorem wsL_law_r8_in : ∀ w ∈ wsL_law_r8, w ∈ lw_tbl := fun w h => ms_r wsL_law_r8 [298, 299, 300, 302, 1, 303, 304, 306, 2, 307, 707, 708, 709, 710, 711, 713, 28, 714, 601, 604, 605, 606, 715, 717] (by decide +kernel) w h
set_option maxRecDepth 20000 in
theorem wsL_law_r9_in : ∀ w ∈ wsL_law_r9, w ∈ lw_tbl := fun w h => ms_r wsL_law_r9 [29, 718, 719, 721, 30, 722, 723, 724, 725, 726, 728, 31, 729, 730, 732, 32, 733, 734, 736, 33, 737, 308, 309, 310] (by decide +kernel) w h
set_option maxRecDepth 20000 in
theorem wsL_law_r10_in : ∀ w ∈ wsL_law_r10, w ∈ lw_tbl := fun w h => ms_r wsL_law_r10 [311, 231, 312, 313, 314, 315, 316, 317, 318, 319, 320, 321, 322, 323, 324, 325, 326, 327, 328, 329, 330, 331, 332, 333] (by decide +kernel) w h
set_option maxRecDepth 20000 in
theorem wsL_law_r11_in : ∀ w ∈ wsL_law_r11, w ∈ lw_tbl := fun w h => ms_r wsL_law_r11 [334, 335, 336, 337, 338, 182, 339, 341, 3, 342, 180, 184, 186, 343, 344, 345, 346, 154, 347, 348, 350, 4, 351, 352] (by decide +kernel) w h
set_option maxRecDepth 20000 in
theorem wsL_law_r12_in : ∀ w ∈ wsL_law_r12, w ∈ lw_tbl := fun w h => ms_r wsL_law_r12 [353, 355, 5, 356, 357, 358, 359, 360, 361, 363, 364, 365, 367, 6, 368, 369, 371, 7, 372, 373, 374, 375, 376, 377] (by decide +kernel) w h
set_option maxRecDepth 20000 in
theorem wsL_law_r13_in : ∀ w ∈ wsL_law_r13, w ∈ lw_tbl := fun w h => ms_r wsL_law_r13 [378, 379, 380, 381, 382, 383, 384, 386, 8, 387, 388, 389, 390, 391, 392, 394, 9, 395, 396, 397, 398, 399, 400, 401] (by decide +kernel) w h
set_option maxRecDepth 20000 in
theorem wsL_law_r14_in : ∀ w ∈ wsL_law_r14, w ∈ lw_tbl := fun w h => ms_r wsL_law_r14 [402, 403, 404, 405, 406, 407, 408, 409, 410, 411, 412, 414, 10, 415, 416, 418, 11, 419, 420, 422, 12, 423, 424, 426] (by decide +kernel) w h
set_option maxRecDepth 20000 in
theorem wsL_law_r15_in : ∀ w ∈ wsL_law_r15, w ∈ lw_tbl := fun w h => ms_r wsL_law_r15 [13, 427, 429, 430, 431, 433, 14, 434, 435, 437, 15, 438, 439, 441, 16, 442, 443, 445, 17, 446, 447, 449, 18, 450] (by decide +kernel) w h
set_option maxRecDepth 20000 in
theorem wsL_law_r16_in : ∀ w ∈ wsL_law_r16, w ∈ lw_tbl := fun w h => ms_r wsL_law_r16 [451, 452, 453, 454, 455, 457, 19, 458, 459, 461, 20, 462, 463, 465, 21, 466, 467, 468, 469, 470, 471, 472, 473, 474] (by decide +kernel) w h
set_option maxRecDepth 20000 in
theorem wsL_law_r17_in : ∀ w ∈ wsL_law_r17, w ∈ lw_tbl := fun w h => ms_r wsL_law_r17 [475, 477, 22, 478, 479, 481, 23, 482, 483, 485, 24, 486, 487, 488, 489, 490, 491, 738, 739, 740, 741, 595, 598, 742] (by decide +kernel) w h
set_option maxRecDepth 20000 in
theorem wsL_law_r18_in : ∀ w ∈ wsL_law_r18, w ∈ lw_tbl := fun w h => ms_r wsL_law_r18 [744, 34, 745, 608, 611, 622, 624, 746, 748, 35, 749, 621, 620, 750, 752, 36, 753, 754, 755, 756, 757, 759, 37, 760] (by decide +kernel) w h
set_option maxRecDepth 20000 in
theorem wsL_law_r19_in : ∀ w ∈ wsL_law_r19, w ∈ lw_tbl := fun w h => ms_r wsL_law_r19 [761, 763, 38, 764, 765, 767, 39, 768, 769, 771, 40, 772, 773, 775, 41, 776, 777, 779, 42, 780, 781, 783, 43, 784] (by decide +kernel) w h
set_option maxRecDepth 20000 in
theorem wsL_law_r20_in : ∀ w ∈ wsL_law_r20, w ∈ lw_tbl := fun w h => ms_r wsL_law_r20 [785, 786, 787, 788, 790, 44, 791, 792, 793, 795, 45, 796, 797, 799, 46, 800, 801, 803, 47, 804, 805, 807, 48, 808] (by decide +kernel) w h
set_option maxRecDepth 20000 in
theorem wsL_law_r21_in : ∀ w ∈ wsL_law_r21, w ∈ lw_tbl := fun w h => ms_r wsL_law_r21 [809, 811, 49, 812, 813, 815, 50, 816, 492, 493, 494, 495, 496, 498, 232, 817, 818, 819, 820, 599, 500, 501, 502, 503] (by decide +kernel) w h
set_option maxRecDepth 20000 in
theorem wsL_law_r22_in : ∀ w ∈ wsL_law_r22, w ∈ lw_tbl := fun w h => ms_r wsL_law_r22 [504, 505, 506, 507, 508, 509, 510, 821, 822, 823, 824, 825, 827, 51, 828, 511, 512, 513, 514, 515, 516, 517, 518, 519] (by decide +kernel) w h
set_option maxRecDepth 20000 in
theorem wsL_law_r23_in : ∀ w ∈ wsL_law_r23, w ∈ lw_tbl := fun w h => ms_r wsL_law_r23 [520, 521, 829, 830, 831, 832, 833, 835, 52, 836, 522, 523, 524, 525, 526, 527, 528, 529, 530, 531, 532, 533, 837, 838] (by decide +kernel) w h
set_option maxRecDepth 20000 in
theorem wsL_law_r24_in : ∀ w ∈ wsL_law_r24, w ∈ lw_tbl := fun w h => ms_r wsL_law_r24 [839, 840, 841, 843, 53, 844, 534, 535, 536, 537, 538, 539, 540, 541, 845, 846, 847, 848, 849, 851, 54, 852, 853, 855] (by decide +kernel) w h
set_option maxRecDepth 20000 in
theorem wsL_law_r25_in : ∀ w ∈ wsL_law_r25, w ∈ lw_tbl := fun w h => ms_r wsL_law_r25 [55, 856, 542, 543, 544, 545, 546, 547, 548, 549, 857, 858, 859, 860, 861, 863, 56, 864, 550, 551, 552, 553, 554, 865] (by decide +kernel) w h
set_option maxRecDepth 20000 in
theorem wsL_law_r26_in : ∀ w ∈ wsL_law_r26, w ∈ lw_tbl := fun w h => ms_r wsL_law_r26 [866, 867, 868, 869, 871, 57, 872, 873, 875, 58, 876, 555, 556, 557, 558, 559, 560, 561, 562, 877, 878, 879, 880, 881] (by decide +kernel) w h
set_option maxRecDepth 20000 in
theorem wsL_law_r27_in : ∀ w ∈ wsL_law_r27, w ∈ lw_tbl := fun w h => ms_r wsL_law_r27 [883, 59, 884, 885, 887, 60, 888, 563, 564, 565, 566, 567, 572, 568, 570, 25, 571, 573, 574, 576, 26, 577, 578, 579] (by decide +kernel) w h
set_option maxRecDepth 20000 in
theorem wsL_law_r28_in : ∀ w ∈ wsL_law_r28, w ∈ lw_tbl := fun w h => ms_r wsL_law_r28 [581, 27, 582, 583, 584, 585, 586, 889, 890, 891, 892, 893, 626, 894, 896, 61, 897, 898] (by decide +kernel) w h
set_option maxRecDepth 20000 in
theorem layX5_in : ∀ w ∈ wsX50, w ∈ lw_tbl := fun w h => ms_r wsX50 [233, 235, 237, 239, 241, 243, 245] (by decide +kernel) w h
set_option maxRecDepth 20000 in
theorem layX6_in : ∀ w ∈ wsX60, w ∈ lw_tbl := fun w h => ms_r wsX60 [627, 629, 631, 633, 635, 637, 639, 641, 643, 645, 647, 649, 651, 653, 655, 657, 659, 661, 663, 665, 667, 669, 671, 673, 675, 677, 679, 681, 683, 685, 687, 689, 691, 693] (by decide +kernel) w h
set_option maxRecDepth 20000 in
theorem layX1_in : ∀ w ∈ wsX10, w ∈ lw_tbl := fun w h => ms_r wsX10 [87, 89] (by decide +kernel) w h
set_option maxRecDepth 20000 in
theorem layX3_in : ∀ w ∈ wsX30, w ∈ lw_tbl := fun w h => ms_r wsX30 [123, 125, 127, 129] (by decide +kernel) w h
set_option maxRecDepth 20000 in
theorem layX0_in : ∀ w ∈ wsX00, w ∈ lw_tbl := fun w h => ms_r wsX00 [109, 111, 113, 115] (by decide +kernel) w h
set_option maxRecDepth 20000 in
theorem layX2_in : ∀ w ∈ wsX20, w ∈ lw_tbl := fun w h => ms_r wsX20 [192, 194, 196, 198, 200, 202, 204, 206, 208, 210, 212, 214, 216, 218, 220, 222] (by decide +kernel) w h
set_option maxRecDepth 20000 in
theorem layX4_in : ∀ w ∈ wsX40, w ∈ lw_tbl := fun w h => ms_r wsX40 [155, 157, 159, 161, 163, 165] (by decide +kernel) w h
theorem wsL_law_in : ∀ w ∈ wsL_law, w ∈ lw_tbl := ms_a (ms_a (ms_a (ms_a (ms_a (ms_a (ms_a (ms_a (ms_a wsL_law_r1_in (ms_a wsL_law_r2_in (ms_a wsL_law_r3_in (ms_a wsL_law_r4_in (ms_a wsL_law_r5_in (ms_a wsL_law_r6_in (ms_a wsL_law_r7_in (ms_a wsL_law_r8_in (ms_a wsL_law_r9_in (ms_a wsL_law_r10_in (ms_a wsL_law_r11_in (ms_a wsL_law_r12_in (ms_a wsL_law_r13_in (ms_a wsL_law_r14_in (ms_a wsL_law_r15_in (ms_a wsL_law_r16_in (ms_a wsL_law_r17_in (ms_a wsL_law_r18_in (ms_a wsL_law_r19_in (ms_a wsL_law_r20_in (ms_a wsL_law_r21_in (ms_a wsL_law_r22_in (ms_a wsL_law_r23_in (ms_a wsL_law_r24_in (ms_a wsL_law_r25_in (ms_a wsL_law_r26_in (ms_a wsL_law_r27_in (wsL_law_r28_in)))))))))))))))))))))))))))) layX5_in) layX6_in) layX1_in) layX3_in) layX0_in) layX2_in) layX4_in) (fun _ h => absurd h List.not_mem_nil)
theorem inlX0 : ∀ w ∈ wsX00, w ∈ wsL_law := fun _ h => List.mem_append_left _ (List.mem_append_left _ (List.mem_append_left _ (List.mem_append_right _ h)))
theorem inX0 : ∀ w ∈ wsX00, w ∈ lw_tbl := fun w h => wsL_law_in w (inlX0 w h)
theorem inlX1 : ∀ w ∈ wsX10, w ∈ wsL_law := fun _ h => List.mem_append_left _ (List.mem_append_left _ (List.mem_append_left _ (List.mem_append_left _ (List.mem_append_left _ (List.mem_append_right _ h)))))
theorem inX1 : ∀ w ∈ wsX10, w ∈ lw_tbl := fun w h => wsL_law_in w (inlX1 w h)
theorem inlX2 : ∀ w ∈ wsX20, w ∈ wsL_law := fun _ h => List.mem_append_left _ (List.mem_append_left _ (List.mem_append_right _ h))
theorem inX2 : ∀ w ∈ wsX20, w ∈ lw_tbl := fun w h => wsL_law_in w (inlX2 w h)
theorem inlX3 : ∀ w ∈ wsX30, w ∈ wsL_law := fun _ h => List.mem_append_left _ (List.mem_append_left _ (List.mem_append_left _ (List.mem_append_left _ (List.mem_append_right _ h))))
theorem inX3 : ∀ w ∈ wsX30, w ∈ lw_tbl := fun w h => wsL_law_in w (inlX3 w h)
theorem inlX4 : ∀ w ∈ wsX40, w ∈ wsL_law := fun _ h => List.mem_append_left _ (List.mem_append_right _ h)
theorem inX4 : ∀ w ∈ wsX40, w ∈ lw_tbl := fun w h => wsL_law_in w (inlX4 w h)
theorem inlX5 : ∀ w ∈ wsX50, w ∈ wsL_law := fun _ h => List.mem_append_left _ (List.mem_append_left _ (List.mem_append_left _ (List.mem_append_left _ (List.mem_append_left _ (List.mem_append_left _ (List.mem_append_left _ (List.mem_append_right _ h)))))))
theorem inX5 : ∀ w ∈ wsX50, w ∈ lw_tbl := fun w h => wsL_law_in w (inlX5 w h)
theorem inlX6 : ∀ w ∈ wsX60, w ∈ wsL_law := fun _ h => List.mem_append_left _ (List.mem_append_left _ (List.mem_append_left _ (List.mem_append_left _ (List.mem_append_left _ (List.mem_append_left _ (List.mem_append_right _ h))))))
theorem inX6 : ∀ w ∈ wsX60, w ∈ lw_tbl := fun w h => wsL_law_in w (inlX6 w h)
theorem inJ9 : ∀ w ∈ wsJ90, w ∈ lw_tbl := by decide +kernel

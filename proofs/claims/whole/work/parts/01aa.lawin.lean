theorem in_r {big : List Cond} (ws : List Cond) (ps : List Nat) (hp : ws = ps.filterMap (fun i => big[i]?)) : ∀ w ∈ ws, w ∈ big := by
  intro w hw
  rw [hp] at hw
  obtain ⟨i, -, hi⟩ := List.mem_filterMap.mp hw
  first | exact List.mem_of_getElem? hi | exact List.getElem?_mem hi
set_option maxRecDepth 100000 in
theorem wl_1 : ∀ w ∈ wsL_law_r1, w ∈ lw_tbl := in_r _ [85, 86, 77, 564, 565, 81, 87, 88, 89, 90, 91, 92, 93, 94, 78, 179, 180, 181, 182, 134, 135, 79, 183, 150] rfl
set_option maxRecDepth 100000 in
theorem wl_2 : ∀ w ∈ wsL_law_r2, w ∈ lw_tbl := in_r _ [151, 80, 184, 96, 97, 98, 133, 99, 100, 101, 102, 103, 104, 105, 106, 107, 108, 109, 136, 137, 138, 139, 140, 143] rfl
set_option maxRecDepth 100000 in
theorem wl_3 : ∀ w ∈ wsL_law_r3, w ∈ lw_tbl := in_r _ [144, 153, 154, 155, 178, 156, 157, 158, 159, 160, 161, 162, 566, 567, 568, 569, 571, 572, 573, 575, 577, 581, 570, 198] rfl
set_option maxRecDepth 100000 in
theorem wl_4 : ∀ w ∈ wsL_law_r4, w ∈ lw_tbl := in_r _ [199, 200, 201, 202, 203, 204, 205, 206, 208, 207, 82, 209, 210, 211, 212, 213, 215, 0, 216, 217, 218, 219, 220, 222] rfl
set_option maxRecDepth 100000 in
theorem wl_5 : ∀ w ∈ wsL_law_r5, w ∈ lw_tbl := in_r _ [1, 223, 224, 226, 2, 227, 228, 230, 3, 231, 232, 233, 234, 235, 236, 238, 4, 239, 240, 610, 611, 612, 613, 614] rfl
set_option maxRecDepth 100000 in
theorem wl_6 : ∀ w ∈ wsL_law_r6, w ∈ lw_tbl := in_r _ [616, 32, 617, 618, 620, 33, 621, 622, 623, 624, 625, 627, 34, 628, 574, 629, 631, 35, 632, 633, 635, 36, 636, 637] rfl
set_option maxRecDepth 100000 in
theorem wl_7 : ∀ w ∈ wsL_law_r7, w ∈ lw_tbl := in_r _ [639, 37, 640, 641, 643, 38, 644, 645, 647, 39, 648, 241, 242, 243, 244, 245, 246, 247, 248, 249, 250, 251, 252, 253] rfl
set_option maxRecDepth 100000 in
theorem wl_8 : ∀ w ∈ wsL_law_r8, w ∈ lw_tbl := in_r _ [254, 649, 650, 651, 652, 653, 655, 40, 656, 255, 256, 257, 258, 259, 260, 261, 262, 263, 265, 5, 266, 657, 658, 659] rfl
set_option maxRecDepth 100000 in
theorem wl_9 : ∀ w ∈ wsL_law_r9, w ∈ lw_tbl := in_r _ [660, 661, 663, 41, 664, 665, 667, 42, 668, 267, 268, 269, 270, 271, 272, 273, 274, 275, 277, 6, 278, 283, 284, 83] rfl
set_option maxRecDepth 100000 in
theorem wl_10 : ∀ w ∈ wsL_law_r10, w ∈ lw_tbl := in_r _ [285, 279, 281, 7, 282, 286, 288, 8, 289, 290, 292, 9, 293, 294, 296, 10, 297, 298, 300, 11, 301, 302, 303, 84] rfl
set_option maxRecDepth 100000 in
theorem wl_11 : ∀ w ∈ wsL_law_r11, w ∈ lw_tbl := in_r _ [304, 305, 306, 307, 669, 670, 671, 672, 673, 675, 43, 676, 677, 679, 44, 680, 681, 683, 45, 684, 685, 687, 46, 688] rfl
set_option maxRecDepth 100000 in
theorem wl_12 : ∀ w ∈ wsL_law_r12, w ∈ lw_tbl := in_r _ [689, 691, 47, 692, 308, 309, 310, 311, 312, 313, 314, 315, 316, 318, 12, 319, 320, 322, 13, 323, 324, 693, 694, 695] rfl
set_option maxRecDepth 100000 in
theorem wl_13 : ∀ w ∈ wsL_law_r13, w ∈ lw_tbl := in_r _ [696, 697, 699, 48, 700, 701, 703, 49, 704, 325, 326, 327, 328, 329, 330, 331, 332, 333, 335, 705, 706, 707, 708, 709] rfl
set_option maxRecDepth 100000 in
theorem wl_14 : ∀ w ∈ wsL_law_r14, w ∈ lw_tbl := in_r _ [710, 711, 337, 338, 339, 340, 341, 342, 343, 344, 712, 713, 714, 715, 578, 345, 346, 347, 348, 349, 350, 351, 352, 716] rfl
set_option maxRecDepth 100000 in
theorem wl_15 : ∀ w ∈ wsL_law_r15, w ∈ lw_tbl := in_r _ [717, 718, 719, 353, 354, 355, 356, 357, 358, 359, 360, 361, 362, 363, 364, 365, 367, 14, 368, 369, 371, 15, 372, 373] rfl
set_option maxRecDepth 100000 in
theorem wl_16 : ∀ w ∈ wsL_law_r16, w ∈ lw_tbl := in_r _ [375, 16, 376, 377, 379, 17, 380, 381, 383, 18, 384, 385, 387, 19, 388, 389, 391, 20, 392, 393, 395, 21, 396, 397] rfl
set_option maxRecDepth 100000 in
theorem wl_17 : ∀ w ∈ wsL_law_r17, w ∈ lw_tbl := in_r _ [398, 399, 400, 401, 402, 403, 404, 405, 406, 408, 22, 409, 410, 411, 412, 413, 414, 415, 416, 417, 418, 419, 420, 421] rfl
set_option maxRecDepth 100000 in
theorem wl_18 : ∀ w ∈ wsL_law_r18, w ∈ lw_tbl := in_r _ [422, 423, 424, 425, 426, 427, 428, 720, 721, 722, 723, 582, 724, 726, 50, 727, 579, 580, 728, 730, 51, 731, 732, 734] rfl
set_option maxRecDepth 100000 in
theorem wl_19 : ∀ w ∈ wsL_law_r19, w ∈ lw_tbl := in_r _ [52, 735, 736, 738, 53, 739, 740, 742, 54, 743, 744, 746, 55, 747, 748, 750, 56, 751, 752, 754, 57, 755, 756, 758] rfl
set_option maxRecDepth 100000 in
theorem wl_20 : ∀ w ∈ wsL_law_r20, w ∈ lw_tbl := in_r _ [58, 759, 760, 762, 59, 763, 429, 430, 431, 432, 433, 434, 435, 436, 764, 765, 766, 767, 437, 438, 439, 440, 441, 442] rfl
set_option maxRecDepth 100000 in
theorem wl_21 : ∀ w ∈ wsL_law_r21, w ∈ lw_tbl := in_r _ [443, 444, 768, 769, 770, 771, 576, 445, 446, 447, 448, 772, 773, 774, 775, 449, 450, 451, 452, 453, 454, 455, 456, 457] rfl
set_option maxRecDepth 100000 in
theorem wl_22 : ∀ w ∈ wsL_law_r22, w ∈ lw_tbl := in_r _ [459, 23, 460, 461, 463, 24, 464, 465, 467, 25, 468, 469, 471, 26, 472, 776, 777, 778, 779, 780, 782, 60, 783, 784] rfl
set_option maxRecDepth 100000 in
theorem wl_23 : ∀ w ∈ wsL_law_r23, w ∈ lw_tbl := in_r _ [786, 61, 787, 788, 790, 62, 791, 792, 794, 63, 795, 796, 798, 64, 799, 473, 474, 475, 476, 477, 478, 479, 480, 800] rfl
set_option maxRecDepth 100000 in
theorem wl_24 : ∀ w ∈ wsL_law_r24, w ∈ lw_tbl := in_r _ [801, 802, 803, 481, 482, 483, 484, 485, 486, 487, 488, 804, 805, 806, 807, 489, 490, 491, 492, 493, 494, 495, 496, 497] rfl
set_option maxRecDepth 100000 in
theorem wl_25 : ∀ w ∈ wsL_law_r25, w ∈ lw_tbl := in_r _ [498, 499, 500, 501, 502, 503, 504, 505, 507, 27, 508, 509, 511, 28, 512, 513, 515, 29, 516, 517, 518, 519, 520, 522] rfl
set_option maxRecDepth 100000 in
theorem wl_26 : ∀ w ∈ wsL_law_r26, w ∈ lw_tbl := in_r _ [30, 523, 524, 526, 31, 527, 808, 809, 810, 811, 812, 814, 65, 815, 816, 818, 66, 819, 820, 822, 67, 823, 824, 826] rfl
set_option maxRecDepth 100000 in
theorem wl_27 : ∀ w ∈ wsL_law_r27, w ∈ lw_tbl := in_r _ [68, 827, 828, 830, 69, 831, 832, 834, 70, 835, 528, 529, 530, 531, 532, 533, 534, 535, 836, 837, 838, 839, 840, 842] rfl
set_option maxRecDepth 100000 in
theorem wl_28 : ∀ w ∈ wsL_law_r28, w ∈ lw_tbl := in_r _ [71, 843, 844, 846, 72, 847, 536, 537, 538, 539, 540, 541, 542, 543, 544, 545, 546, 547, 848, 849, 850, 851, 852, 854] rfl
set_option maxRecDepth 100000 in
theorem wl_29 : ∀ w ∈ wsL_law_r29, w ∈ lw_tbl := in_r _ [73, 855, 856, 858, 74, 859, 860, 862, 75, 863, 548, 549, 550, 551, 552, 553, 554, 555, 864, 865, 866, 867, 556, 557] rfl
set_option maxRecDepth 100000 in
theorem wl_30 : ∀ w ∈ wsL_law_r30, w ∈ lw_tbl := in_r _ [558, 559, 560, 561, 562, 563, 868, 869, 870, 871] rfl
set_option maxRecDepth 100000 in
theorem wl_wsX00 : ∀ w ∈ wsX00, w ∈ lw_tbl := in_r _ [145, 147] rfl
set_option maxRecDepth 100000 in
theorem wl_wsX10 : ∀ w ∈ wsX10, w ∈ lw_tbl := in_r _ [110, 112, 114, 116, 118, 120, 122, 124, 126, 128, 130] rfl
set_option maxRecDepth 100000 in
theorem wl_wsX20 : ∀ w ∈ wsX20, w ∈ lw_tbl := in_r _ [163, 165, 167, 169, 171, 173, 175] rfl
set_option maxRecDepth 100000 in
theorem wl_wsX30 : ∀ w ∈ wsX30, w ∈ lw_tbl := in_r _ [185, 187, 189, 191, 193, 195] rfl
set_option maxRecDepth 100000 in
theorem wl_wsX40 : ∀ w ∈ wsX40, w ∈ lw_tbl := in_r _ [583, 585, 587, 589, 591, 593, 595, 597, 599, 601, 603, 605, 607] rfl
set_option maxRecDepth 100000 in
theorem wl_wsJ60 : ∀ w ∈ wsJ60, w ∈ lw_tbl := in_r _ [] rfl
set_option maxRecDepth 100000 in
theorem wl_wsJ90 : ∀ w ∈ wsJ90, w ∈ lw_tbl := in_r _ [] rfl
set_option maxRecDepth 100000 in
theorem wl_wsJ100 : ∀ w ∈ wsJ100, w ∈ lw_tbl := in_r _ [] rfl
set_option maxRecDepth 100000 in
theorem wsL_law_in : ∀ w ∈ wsL_law, w ∈ lw_tbl := by
  show ∀ w ∈ (wsL_law_r1 ++ (wsL_law_r2 ++ (wsL_law_r3 ++ (wsL_law_r4 ++ (wsL_law_r5 ++ (wsL_law_r6 ++ (wsL_law_r7 ++ (wsL_law_r8 ++ (wsL_law_r9 ++ (wsL_law_r10 ++ (wsL_law_r11 ++ (wsL_law_r12 ++ (wsL_law_r13 ++ (wsL_law_r14 ++ (wsL_law_r15 ++ (wsL_law_r16 ++ (wsL_law_r17 ++ (wsL_law_r18 ++ (wsL_law_r19 ++ (wsL_law_r20 ++ (wsL_law_r21 ++ (wsL_law_r22 ++ (wsL_law_r23 ++ (wsL_law_r24 ++ (wsL_law_r25 ++ (wsL_law_r26 ++ (wsL_law_r27 ++ (wsL_law_r28 ++ (wsL_law_r29 ++ wsL_law_r30))))))))))))))))))))))))))))) ++ wsX30 ++ wsX40 ++ wsX10 ++ wsX00 ++ wsX20 ++ ([] : List Cond), w ∈ lw_tbl
  exact List.forall_mem_append.mpr ⟨(List.forall_mem_append.mpr ⟨(List.forall_mem_append.mpr ⟨(List.forall_mem_append.mpr ⟨(List.forall_mem_append.mpr ⟨(List.forall_mem_append.mpr ⟨(List.forall_mem_append.mpr ⟨wl_1, (List.forall_mem_append.mpr ⟨wl_2, (List.forall_mem_append.mpr ⟨wl_3, (List.forall_mem_append.mpr ⟨wl_4, (List.forall_mem_append.mpr ⟨wl_5, (List.forall_mem_append.mpr ⟨wl_6, (List.forall_mem_append.mpr ⟨wl_7, (List.forall_mem_append.mpr ⟨wl_8, (List.forall_mem_append.mpr ⟨wl_9, (List.forall_mem_append.mpr ⟨wl_10, (List.forall_mem_append.mpr ⟨wl_11, (List.forall_mem_append.mpr ⟨wl_12, (List.forall_mem_append.mpr ⟨wl_13, (List.forall_mem_append.mpr ⟨wl_14, (List.forall_mem_append.mpr ⟨wl_15, (List.forall_mem_append.mpr ⟨wl_16, (List.forall_mem_append.mpr ⟨wl_17, (List.forall_mem_append.mpr ⟨wl_18, (List.forall_mem_append.mpr ⟨wl_19, (List.forall_mem_append.mpr ⟨wl_20, (List.forall_mem_append.mpr ⟨wl_21, (List.forall_mem_append.mpr ⟨wl_22, (List.forall_mem_append.mpr ⟨wl_23, (List.forall_mem_append.mpr ⟨wl_24, (List.forall_mem_append.mpr ⟨wl_25, (List.forall_mem_append.mpr ⟨wl_26, (List.forall_mem_append.mpr ⟨wl_27, (List.forall_mem_append.mpr ⟨wl_28, (List.forall_mem_append.mpr ⟨wl_29, wl_30⟩)⟩)⟩)⟩)⟩)⟩)⟩)⟩)⟩)⟩)⟩)⟩)⟩)⟩)⟩)⟩)⟩)⟩)⟩)⟩)⟩)⟩)⟩)⟩)⟩)⟩)⟩)⟩)⟩), wl_wsX30⟩), wl_wsX40⟩), wl_wsX10⟩), wl_wsX00⟩), wl_wsX20⟩), fun _ h => absurd h List.not_mem_nil⟩
theorem inlX0 : ∀ w ∈ wsX00, w ∈ wsL_law := fun _ h => List.mem_append_left _ (List.mem_append_left _ (List.mem_append_right _ h))
theorem inX0 : ∀ w ∈ wsX00, w ∈ lw_tbl := fun w h => wsL_law_in w (inlX0 w h)
theorem inlX1 : ∀ w ∈ wsX10, w ∈ wsL_law := fun _ h => List.mem_append_left _ (List.mem_append_left _ (List.mem_append_left _ (List.mem_append_right _ h)))
theorem inX1 : ∀ w ∈ wsX10, w ∈ lw_tbl := fun w h => wsL_law_in w (inlX1 w h)
theorem inlX2 : ∀ w ∈ wsX20, w ∈ wsL_law := fun _ h => List.mem_append_left _ (List.mem_append_right _ h)
theorem inX2 : ∀ w ∈ wsX20, w ∈ lw_tbl := fun w h => wsL_law_in w (inlX2 w h)
theorem inlX3 : ∀ w ∈ wsX30, w ∈ wsL_law := fun _ h => List.mem_append_left _ (List.mem_append_left _ (List.mem_append_left _ (List.mem_append_left _ (List.mem_append_left _ (List.mem_append_right _ h)))))
theorem inX3 : ∀ w ∈ wsX30, w ∈ lw_tbl := fun w h => wsL_law_in w (inlX3 w h)
theorem inlX4 : ∀ w ∈ wsX40, w ∈ wsL_law := fun _ h => List.mem_append_left _ (List.mem_append_left _ (List.mem_append_left _ (List.mem_append_left _ (List.mem_append_right _ h))))
theorem inX4 : ∀ w ∈ wsX40, w ∈ lw_tbl := fun w h => wsL_law_in w (inlX4 w h)
theorem inJ6 : ∀ w ∈ wsJ60, w ∈ lw_tbl := by decide +kernel
theorem inJ9 : ∀ w ∈ wsJ90, w ∈ lw_tbl := by decide +kernel
theorem inJ10 : ∀ w ∈ wsJ100, w ∈ lw_tbl := by decide +kernel
abbrev vwCl : List vw_C := [(RX0, TX0, 2), (RX1, TX1, 11), (RX2, TX2, 7), (RX3, TX3, 6), (RX4, TX4, 13)]

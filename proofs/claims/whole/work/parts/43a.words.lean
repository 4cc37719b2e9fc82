theorem mem_by {big ws : List Cond} (ps : List Nat) (hp : ws = ps.filterMap (fun i => big[i]?)) : ∀ w ∈ ws, w ∈ big := by
  intro w hw
  rw [hp] at hw
  obtain ⟨i, -, hi⟩ := List.mem_filterMap.mp hw
  exact List.mem_of_getElem? hi
theorem mem_tbl {ws : List Cond} (h : ∀ w ∈ ws, w ∈ tables_1) : ∀ w ∈ ws, w ∈ lw_tbl := fun w hw => List.mem_append_right _ (h w hw)
theorem mem_app {big a b : List Cond} (ha : ∀ w ∈ a, w ∈ big) (hb : ∀ w ∈ b, w ∈ big) : ∀ w ∈ a ++ b, w ∈ big := fun w h => (List.mem_append.mp h).elim (ha w) (hb w)
theorem wl_1 : ∀ w ∈ wsL_law_r1, w ∈ lw_tbl := mem_by [49, 50, 36, 507, 508, 39, 793, 51, 52, 53, 54, 55, 56, 57, 91, 59, 37, 92, 95, 96, 97, 60, 61, 62] (by decide +kernel)
theorem wl_2 : ∀ w ∈ wsL_law_r2, w ∈ lw_tbl := mem_by [63, 64, 65, 38, 66, 89, 67, 90, 69, 71, 73, 509, 510, 511, 512, 513, 514, 516, 520, 521, 525, 526, 527, 528] (by decide +kernel)
theorem wl_3 : ∀ w ∈ wsL_law_r3, w ∈ lw_tbl := mem_by [529, 116, 117, 118, 119, 77, 120, 121, 122, 123, 124, 125, 126, 75, 574, 575, 576, 577, 515, 578, 579, 580, 581, 582] (by decide +kernel)
theorem wl_4 : ∀ w ∈ wsL_law_r4, w ∈ lw_tbl := mem_by [583, 584, 127, 128, 129, 130, 585, 586, 587, 588, 131, 132, 133, 134, 135, 136, 137, 138, 139, 140, 72, 74, 68, 70] (by decide +kernel)
theorem wl_5 : ∀ w ∈ wsL_law_r5, w ∈ lw_tbl := mem_by [141, 142, 143, 144, 145, 146, 147, 148, 150, 151, 152, 153, 154, 155, 156, 157, 158, 159, 160, 161, 162, 163, 164, 165] (by decide +kernel)
theorem wl_6 : ∀ w ∈ wsL_law_r6, w ∈ lw_tbl := mem_by [166, 167, 168, 169, 175, 170, 171, 173, 0, 174, 589, 590, 591, 592, 519, 593, 594, 595, 596, 597, 599, 11, 600, 601] (by decide +kernel)
theorem wl_7 : ∀ w ∈ wsL_law_r7, w ∈ lw_tbl := mem_by [602, 604, 12, 605, 606, 608, 13, 609, 610, 611, 613, 14, 614, 615, 617, 15, 618, 619, 621, 16, 622, 623, 625, 17] (by decide +kernel)
theorem wl_8 : ∀ w ∈ wsL_law_r8, w ∈ lw_tbl := mem_by [626, 627, 629, 18, 630, 176, 177, 178, 179, 180, 181, 182, 183, 184, 185, 631, 632, 633, 634, 635, 636, 638, 19, 639] (by decide +kernel)
theorem wl_9 : ∀ w ∈ wsL_law_r9, w ∈ lw_tbl := mem_by [186, 187, 188, 189, 190, 192, 1, 193, 194, 195, 196, 197, 198, 199, 200, 201, 202, 203, 204, 205, 206, 207, 208, 209] (by decide +kernel)
theorem wl_10 : ∀ w ∈ wsL_law_r10, w ∈ lw_tbl := mem_by [210, 211, 212, 213, 214, 640, 641, 642, 643, 644, 646, 20, 647, 648, 650, 21, 651, 652, 654, 22, 655, 522, 656, 658] (by decide +kernel)
theorem wl_11 : ∀ w ∈ wsL_law_r11, w ∈ lw_tbl := mem_by [23, 659, 215, 216, 217, 218, 660, 661, 662, 663, 664, 666, 24, 667, 219, 220, 221, 222, 223, 225, 2, 226, 231, 232] (by decide +kernel)
theorem wl_12 : ∀ w ∈ wsL_law_r12, w ∈ lw_tbl := mem_by [233, 227, 228, 229, 230, 234, 236, 3, 237, 668, 669, 670, 671, 672, 673, 674, 676, 25, 677, 238, 239, 240, 241, 678] (by decide +kernel)
theorem wl_13 : ∀ w ∈ wsL_law_r13, w ∈ lw_tbl := mem_by [679, 680, 681, 242, 243, 244, 245, 682, 683, 684, 685, 246, 247, 248, 249, 250, 251, 252, 686, 687, 688, 689, 690, 692] (by decide +kernel)
theorem wl_14 : ∀ w ∈ wsL_law_r14, w ∈ lw_tbl := mem_by [26, 693, 253, 254, 255, 256, 257, 258, 259, 260, 694, 695, 696, 697, 698, 261, 262, 263, 264, 265, 266, 267, 699, 700] (by decide +kernel)
theorem wl_15 : ∀ w ∈ wsL_law_r15, w ∈ lw_tbl := mem_by [701, 702, 268, 269, 270, 271, 703, 704, 705, 706, 272, 273, 274, 275, 707, 708, 709, 710, 711, 713, 27, 714, 276, 277] (by decide +kernel)
theorem wl_16 : ∀ w ∈ wsL_law_r16, w ∈ lw_tbl := mem_by [278, 279, 323, 280, 282, 4, 283, 98, 284, 286, 5, 287, 288, 289, 40, 321, 57, 290, 291, 292, 293, 294, 295, 43] (by decide +kernel)
theorem wl_17 : ∀ w ∈ wsL_law_r17, w ∈ lw_tbl := mem_by [320, 322, 296, 297, 298, 306, 308, 299, 300, 42, 301, 310, 302, 303, 41, 304, 305, 329, 330, 331, 332, 333, 334, 335] (by decide +kernel)
theorem wl_18 : ∀ w ∈ wsL_law_r18, w ∈ lw_tbl := mem_by [369, 76, 336, 337, 338, 339, 369, 341, 345, 347, 349, 309, 351, 354, 356, 358, 359, 360, 44, 361, 362, 363, 45, 364] (by decide +kernel)
theorem wl_19 : ∀ w ∈ wsL_law_r19, w ∈ lw_tbl := mem_by [365, 366, 367, 368, 371, 374, 377, 379, 381, 311, 312, 382, 384, 6, 385, 386, 388, 7, 389, 390, 392, 8, 393, 426] (by decide +kernel)
theorem wl_20 : ∀ w ∈ wsL_law_r20, w ∈ lw_tbl := mem_by [427, 394, 395, 46, 396, 397, 398, 399, 400, 401, 402, 403, 47, 404, 405, 800, 406, 413, 414, 415, 416, 417, 419, 420] (by decide +kernel)
theorem wl_21 : ∀ w ∈ wsL_law_r21, w ∈ lw_tbl := mem_by [421, 422, 423, 425, 424, 48, 429, 431, 432, 715, 716, 717, 718, 719, 721, 28, 722, 523, 524, 723, 725, 29, 726, 727] (by decide +kernel)
theorem wl_22 : ∀ w ∈ wsL_law_r22, w ∈ lw_tbl := mem_by [729, 30, 730, 731, 733, 31, 734, 433, 434, 435, 436, 735, 736, 737, 738, 739, 437, 438, 439, 440, 441, 443, 9, 444] (by decide +kernel)
theorem wl_23 : ∀ w ∈ wsL_law_r23, w ∈ lw_tbl := mem_by [93, 94, 740, 741, 742, 743, 744, 517, 518, 445, 446, 447, 448, 449, 745, 746, 747, 748, 749, 450, 451, 452, 453, 454] (by decide +kernel)
theorem wl_24 : ∀ w ∈ wsL_law_r24, w ∈ lw_tbl := mem_by [455, 456, 457, 750, 751, 752, 753, 754, 756, 32, 757, 458, 459, 460, 461, 758, 759, 760, 761, 462, 463, 464, 465, 466] (by decide +kernel)
theorem wl_25 : ∀ w ∈ wsL_law_r25, w ∈ lw_tbl := mem_by [467, 468, 469, 470, 471, 472, 473, 474, 475, 476, 477, 762, 763, 764, 765, 766, 768, 33, 769, 770, 530, 531, 771, 772] (by decide +kernel)
theorem wl_26 : ∀ w ∈ wsL_law_r26, w ∈ lw_tbl := mem_by [773, 478, 479, 480, 481, 482, 489, 483, 484, 485, 486, 487, 488, 774, 775, 776, 777, 778, 490, 491, 492, 493, 494, 496] (by decide +kernel)
theorem wl_27 : ∀ w ∈ wsL_law_r27, w ∈ lw_tbl := mem_by [10, 497, 779, 780, 781, 782, 498, 499, 500, 501, 502, 503, 504, 505, 506, 783, 784, 785, 786, 787, 532, 788, 790, 34] (by decide +kernel)
theorem wl_28 : ∀ w ∈ wsL_law_r28, w ∈ lw_tbl := mem_by [791, 792] (by decide +kernel)
theorem wl_X2 : ∀ w ∈ wsX20, w ∈ lw_tbl := mem_by [99, 101, 103, 105, 107, 109, 111, 113] (by decide +kernel)
theorem wl_X3 : ∀ w ∈ wsX30, w ∈ lw_tbl := mem_by [533, 535, 537, 539, 541, 543, 545, 547, 549, 551, 553, 555, 557, 559, 561, 563, 565, 567, 569, 571] (by decide +kernel)
theorem wl_X1 : ∀ w ∈ wsX10, w ∈ lw_tbl := mem_by [78, 80, 82, 84, 86] (by decide +kernel)
theorem wl_X0 : ∀ w ∈ wsX00, w ∈ lw_tbl := mem_by [324, 326] (by decide +kernel)
theorem wl_Jx4a65c : ∀ w ∈ wsJx4a65c0, w ∈ lw_tbl := mem_by [317, 313, 315] (by decide +kernel)
theorem wsL_law_in : ∀ w ∈ wsL_law, w ∈ lw_tbl := mem_app (mem_app (mem_app (mem_app (mem_app (mem_app (mem_app wl_1 (mem_app wl_2 (mem_app wl_3 (mem_app wl_4 (mem_app wl_5 (mem_app wl_6 (mem_app wl_7 (mem_app wl_8 (mem_app wl_9 (mem_app wl_10 (mem_app wl_11 (mem_app wl_12 (mem_app wl_13 (mem_app wl_14 (mem_app wl_15 (mem_app wl_16 (mem_app wl_17 (mem_app wl_18 (mem_app wl_19 (mem_app wl_20 (mem_app wl_21 (mem_app wl_22 (mem_app wl_23 (mem_app wl_24 (mem_app wl_25 (mem_app wl_26 (mem_app wl_27 wl_28))))))))))))))))))))))))))) wl_X2) wl_X3) wl_X1) wl_X0) wl_Jx4a65c) (fun w h => absurd h List.not_mem_nil)
theorem in_X2 : ∀ w ∈ wsX20, w ∈ lw_tbl := wl_X2
theorem in_X3 : ∀ w ∈ wsX30, w ∈ lw_tbl := wl_X3
theorem in_X1 : ∀ w ∈ wsX10, w ∈ lw_tbl := wl_X1
theorem in_X0 : ∀ w ∈ wsX00, w ∈ lw_tbl := wl_X0
theorem in_Jx4a65c : ∀ w ∈ wsJx4a65c0, w ∈ lw_tbl := wl_Jx4a65c

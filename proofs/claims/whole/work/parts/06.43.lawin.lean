theorem in_places {big ws : List Cond} (ps : List Nat) (hp : ws = ps.filterMap (fun i => big[i]?)) : ∀ w ∈ ws, w ∈ big := by
  intro w hw
  rw [hp] at hw
  obtain ⟨i, -, hi⟩ := List.mem_filterMap.mp hw
  exact List.mem_of_getElem? hi
set_option maxRecDepth 100000 in
theorem lin_r1 : ∀ w ∈ wsL_law_r1, w ∈ lw_tbl := in_places [51, 52, 41, 536, 537, 48, 829, 53, 54, 55, 56, 57, 58, 59, 60, 42, 200, 85, 86, 43, 201, 107, 108, 44] rfl
set_option maxRecDepth 100000 in
theorem lin_r2 : ∀ w ∈ wsL_law_r2, w ∈ lw_tbl := in_places [202, 203, 126, 127, 45, 204, 160, 161, 46, 205, 177, 179, 47, 206, 62, 63, 64, 65, 83, 71, 84, 73, 88, 89] rfl
set_option maxRecDepth 100000 in
theorem lin_r3 : ∀ w ∈ wsL_law_r3, w ∈ lw_tbl := in_places [90, 93, 106, 95, 110, 111, 112, 117, 129, 130, 131, 136, 138, 139, 140, 141, 142, 163, 164, 165, 176, 166, 167, 181] rfl
set_option maxRecDepth 100000 in
theorem lin_r4 : ∀ w ∈ wsL_law_r4, w ∈ lw_tbl := in_places [182, 183, 188, 538, 539, 540, 541, 543, 544, 546, 547, 548, 549, 550, 551, 555, 556, 557, 558, 560, 561, 562, 542, 563] rfl
set_option maxRecDepth 100000 in
theorem lin_r5 : ∀ w ∈ wsL_law_r5, w ∈ lw_tbl := in_places [564, 565, 566, 567, 225, 226, 227, 228, 66, 67, 229, 230, 231, 232, 113, 233, 235, 0, 236, 207, 619, 620, 621, 622] rfl
set_option maxRecDepth 100000 in
theorem lin_r6 : ∀ w ∈ wsL_law_r6, w ∈ lw_tbl := in_places [545, 623, 624, 625, 626, 628, 14, 629, 237, 238, 239, 240, 72, 241, 242, 243, 630, 631, 632, 633, 244, 245, 246, 247] rfl
set_option maxRecDepth 100000 in
theorem lin_r7 : ∀ w ∈ wsL_law_r7, w ∈ lw_tbl := in_places [248, 249, 250, 251, 253, 254, 255, 256, 69, 634, 635, 636, 637, 638, 640, 15, 641, 642, 644, 16, 645, 646, 648, 17] rfl
set_option maxRecDepth 100000 in
theorem lin_r8 : ∀ w ∈ wsL_law_r8, w ∈ lw_tbl := in_places [649, 257, 258, 259, 260, 650, 651, 652, 653, 261, 262, 263, 264, 265, 266, 267, 268, 654, 655, 656, 657, 658, 660, 18] rfl
set_option maxRecDepth 100000 in
theorem lin_r9 : ∀ w ∈ wsL_law_r9, w ∈ lw_tbl := in_places [661, 269, 270, 271, 272, 92, 273, 274, 275, 276, 277, 278, 279, 280, 281, 282, 91, 662, 663, 664, 665, 666, 552, 283] rfl
set_option maxRecDepth 100000 in
theorem lin_r10 : ∀ w ∈ wsL_law_r10, w ∈ lw_tbl := in_places [284, 285, 286, 94, 287, 288, 289, 290, 96, 291, 293, 1, 294, 295, 297, 2, 298, 299, 301, 3, 302, 304, 306, 4] rfl
set_option maxRecDepth 100000 in
theorem lin_r11 : ∀ w ∈ wsL_law_r11, w ∈ lw_tbl := in_places [307, 308, 310, 5, 311, 312, 313, 314, 315, 316, 317, 318, 319, 320, 667, 668, 669, 670, 553, 554, 671, 673, 19, 674] rfl
set_option maxRecDepth 100000 in
theorem lin_r12 : ∀ w ∈ wsL_law_r12, w ∈ lw_tbl := in_places [675, 677, 20, 678, 679, 681, 21, 682, 321, 322, 323, 324, 187, 189, 325, 326, 327, 328, 184, 190, 329, 330, 331, 332] rfl
set_option maxRecDepth 100000 in
theorem lin_r13 : ∀ w ∈ wsL_law_r13, w ∈ lw_tbl := in_places [333, 334, 825, 826, 827, 828, 814, 815, 816, 335, 336, 337, 338, 116, 120, 339, 340, 341, 342, 343, 344, 345, 346, 347] rfl
set_option maxRecDepth 100000 in
theorem lin_r14 : ∀ w ∈ wsL_law_r14, w ∈ lw_tbl := in_places [348, 349, 49, 350, 351, 352, 353, 354, 355, 356, 357, 358, 359, 360, 361, 362, 363, 364, 365, 683, 684, 685, 686, 687] rfl
set_option maxRecDepth 100000 in
theorem lin_r15 : ∀ w ∈ wsL_law_r15, w ∈ lw_tbl := in_places [689, 22, 690, 691, 692, 693, 694, 696, 23, 697, 698, 700, 24, 701, 702, 704, 25, 705, 366, 367, 368, 369, 370, 371] rfl
set_option maxRecDepth 100000 in
theorem lin_r16 : ∀ w ∈ wsL_law_r16, w ∈ lw_tbl := in_places [372, 373, 374, 706, 707, 708, 709, 375, 376, 377, 378, 710, 711, 712, 713, 379, 380, 381, 382, 714, 715, 716, 717, 383] rfl
set_option maxRecDepth 100000 in
theorem lin_r17 : ∀ w ∈ wsL_law_r17, w ∈ lw_tbl := in_places [384, 385, 386, 718, 719, 720, 721, 387, 388, 389, 390, 391, 722, 723, 724, 725, 392, 393, 394, 395, 135, 133, 396, 398] rfl
set_option maxRecDepth 100000 in
theorem lin_r18 : ∀ w ∈ wsL_law_r18, w ∈ lw_tbl := in_places [6, 399, 400, 401, 402, 403, 132, 134, 114, 118, 68, 404, 406, 7, 407, 408, 409, 411, 8, 412, 413, 414, 415, 416] rfl
set_option maxRecDepth 100000 in
theorem lin_r19 : ∀ w ∈ wsL_law_r19, w ∈ lw_tbl := in_places [417, 418, 419, 420, 421, 422, 424, 9, 425, 426, 427, 428, 429, 726, 727, 728, 729, 559, 730, 732, 26, 733, 734, 736] rfl
set_option maxRecDepth 100000 in
theorem lin_r20 : ∀ w ∈ wsL_law_r20, w ∈ lw_tbl := in_places [27, 737, 738, 740, 28, 741, 742, 744, 29, 745, 746, 748, 30, 749, 750, 752, 31, 753, 430, 431, 432, 433, 434, 435] rfl
set_option maxRecDepth 100000 in
theorem lin_r21 : ∀ w ∈ wsL_law_r21, w ∈ lw_tbl := in_places [436, 437, 438, 439, 441, 10, 442, 754, 755, 756, 757, 758, 760, 32, 761, 443, 444, 445, 446, 447, 448, 449, 450, 762] rfl
set_option maxRecDepth 100000 in
theorem lin_r22 : ∀ w ∈ wsL_law_r22, w ∈ lw_tbl := in_places [763, 764, 765, 451, 452, 453, 454, 455, 456, 457, 458, 766, 767, 768, 769, 459, 460, 461, 462, 137, 463, 770, 771, 772] rfl
set_option maxRecDepth 100000 in
theorem lin_r23 : ∀ w ∈ wsL_law_r23, w ∈ lw_tbl := in_places [773, 774, 776, 33, 777, 464, 465, 466, 467, 468, 469, 470, 471, 778, 779, 780, 781, 472, 473, 474, 475, 476, 477, 478] rfl
set_option maxRecDepth 100000 in
theorem lin_r24 : ∀ w ∈ wsL_law_r24, w ∈ lw_tbl := in_places [479, 480, 481, 482, 483, 484, 168, 115, 119, 485, 486, 50, 487, 488, 490, 11, 491, 492, 493, 494, 495, 496, 497, 498] rfl
set_option maxRecDepth 100000 in
theorem lin_r25 : ∀ w ∈ wsL_law_r25, w ∈ lw_tbl := in_places [499, 500, 501, 502, 504, 12, 505, 70, 506, 507, 509, 13, 510, 511, 512, 782, 783, 784, 785, 786, 788, 34, 789, 790] rfl
set_option maxRecDepth 100000 in
theorem lin_r26 : ∀ w ∈ wsL_law_r26, w ∈ lw_tbl := in_places [792, 35, 793, 794, 796, 36, 797, 798, 800, 37, 801, 802, 804, 38, 805, 806, 808, 39, 809, 513, 514, 515, 516, 517] rfl
set_option maxRecDepth 100000 in
theorem lin_r27 : ∀ w ∈ wsL_law_r27, w ∈ lw_tbl := in_places [518, 519, 520, 186, 521, 522, 523, 810, 811, 812, 813, 524, 525, 526, 527, 185, 817, 818, 819, 820, 528, 529, 530, 531] rfl
set_option maxRecDepth 100000 in
theorem lin_r28 : ∀ w ∈ wsL_law_r28, w ∈ lw_tbl := in_places [532, 533, 534, 535, 821, 822, 823, 824] rfl
set_option maxRecDepth 100000 in
theorem inX7 : ∀ w ∈ wsX70, w ∈ lw_tbl := in_places [208, 210, 212, 214, 216, 218, 220, 222] rfl
set_option maxRecDepth 100000 in
theorem inX8 : ∀ w ∈ wsX80, w ∈ lw_tbl := in_places [568, 570, 572, 574, 576, 578, 580, 582, 584, 586, 588, 590, 592, 594, 596, 598, 600, 602, 604, 606, 608, 610, 612, 614, 616] rfl
set_option maxRecDepth 100000 in
theorem inX0 : ∀ w ∈ wsX00, w ∈ lw_tbl := in_places [74, 76, 78, 80] rfl
set_option maxRecDepth 100000 in
theorem inX4 : ∀ w ∈ wsX40, w ∈ lw_tbl := in_places [97, 99, 101, 103] rfl
set_option maxRecDepth 100000 in
theorem inX1 : ∀ w ∈ wsX10, w ∈ lw_tbl := in_places [121, 123] rfl
set_option maxRecDepth 100000 in
theorem inX2 : ∀ w ∈ wsX20, w ∈ lw_tbl := in_places [143, 145, 147, 149, 151, 153, 155, 157] rfl
set_option maxRecDepth 100000 in
theorem inX5 : ∀ w ∈ wsX50, w ∈ lw_tbl := in_places [169, 171, 173] rfl
set_option maxRecDepth 100000 in
theorem inX3 : ∀ w ∈ wsX30, w ∈ lw_tbl := in_places [191, 193, 195, 197] rfl
set_option maxRecDepth 100000 in
theorem wsL_law_in : ∀ w ∈ wsL_law, w ∈ lw_tbl := List.forall_mem_append.mpr ⟨List.forall_mem_append.mpr ⟨List.forall_mem_append.mpr ⟨List.forall_mem_append.mpr ⟨List.forall_mem_append.mpr ⟨List.forall_mem_append.mpr ⟨List.forall_mem_append.mpr ⟨List.forall_mem_append.mpr ⟨List.forall_mem_append.mpr ⟨List.forall_mem_append.mpr ⟨lin_r1, List.forall_mem_append.mpr ⟨lin_r2, List.forall_mem_append.mpr ⟨lin_r3, List.forall_mem_append.mpr ⟨lin_r4, List.forall_mem_append.mpr ⟨lin_r5, List.forall_mem_append.mpr ⟨lin_r6, List.forall_mem_append.mpr ⟨lin_r7, List.forall_mem_append.mpr ⟨lin_r8, List.forall_mem_append.mpr ⟨lin_r9, List.forall_mem_append.mpr ⟨lin_r10, List.forall_mem_append.mpr ⟨lin_r11, List.forall_mem_append.mpr ⟨lin_r12, List.forall_mem_append.mpr ⟨lin_r13, List.forall_mem_append.mpr ⟨lin_r14, List.forall_mem_append.mpr ⟨lin_r15, List.forall_mem_append.mpr ⟨lin_r16, List.forall_mem_append.mpr ⟨lin_r17, List.forall_mem_append.mpr ⟨lin_r18, List.forall_mem_append.mpr ⟨lin_r19, List.forall_mem_append.mpr ⟨lin_r20, List.forall_mem_append.mpr ⟨lin_r21, List.forall_mem_append.mpr ⟨lin_r22, List.forall_mem_append.mpr ⟨lin_r23, List.forall_mem_append.mpr ⟨lin_r24, List.forall_mem_append.mpr ⟨lin_r25, List.forall_mem_append.mpr ⟨lin_r26, List.forall_mem_append.mpr ⟨lin_r27, lin_r28⟩⟩⟩⟩⟩⟩⟩⟩⟩⟩⟩⟩⟩⟩⟩⟩⟩⟩⟩⟩⟩⟩⟩⟩⟩⟩⟩, inX7⟩, inX8⟩, inX0⟩, inX4⟩, inX1⟩, inX2⟩, inX5⟩, inX3⟩, fun _ h => absurd h List.not_mem_nil⟩

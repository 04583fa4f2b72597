set_option maxRecDepth 20000 in
theorem jlaw_1 : ∀ w ∈ wsL_law_r1, w ∈ lw_tbl := by
  intro w h
  rw [show wsL_law_r1 = [71, 72, 60, 571, 572, 69, 796, 73, 74, 75, 76, 77, 78, 79, 80, 61, 273, 274, 237, 238, 67, 275, 276, 271].filterMap (fun i => lw_tbl[i]?) from by decide +kernel] at h
  obtain ⟨i, -, hi⟩ := List.mem_filterMap.mp h
  exact List.mem_of_getElem? hi
set_option maxRecDepth 20000 in
theorem jlaw_2 : ∀ w ∈ wsL_law_r2, w ∈ lw_tbl := by
  intro w h
  rw [show wsL_law_r2 = [277, 257, 258, 68, 278, 82, 83, 84, 85, 86, 62, 216, 144, 145, 64, 218, 172, 173, 65, 220, 185, 186, 66, 222].filterMap (fun i => lw_tbl[i]?) from by decide +kernel] at h
  obtain ⟨i, -, hi⟩ := List.mem_filterMap.mp h
  exact List.mem_of_getElem? hi
set_option maxRecDepth 20000 in
theorem jlaw_3 : ∀ w ∈ wsL_law_r3, w ∈ lw_tbl := by
  intro w h
  rw [show wsL_law_r3 = [88, 89, 90, 143, 96, 111, 93, 95, 94, 63, 147, 148, 149, 175, 176, 177, 178, 188, 189, 190, 191, 240, 241, 242].filterMap (fun i => lw_tbl[i]?) from by decide +kernel] at h
  obtain ⟨i, -, hi⟩ := List.mem_filterMap.mp h
  exact List.mem_of_getElem? hi
set_option maxRecDepth 20000 in
theorem jlaw_4 : ∀ w ∈ wsL_law_r4, w ∈ lw_tbl := by
  intro w h
  rw [show wsL_law_r4 = [243, 246, 260, 261, 262, 272, 263, 573, 574, 575, 576, 577, 578, 579, 580, 581, 582, 583, 584, 292, 293, 294, 295, 296].filterMap (fun i => lw_tbl[i]?) from by decide +kernel] at h
  obtain ⟨i, -, hi⟩ := List.mem_filterMap.mp h
  exact List.mem_of_getElem? hi
set_option maxRecDepth 20000 in
theorem jlaw_5 : ∀ w ∈ wsL_law_r5, w ∈ lw_tbl := by
  intro w h
  rw [show wsL_law_r5 = [298, 302, 0, 303, 247, 248, 306, 1, 307, 224, 310, 2, 311, 99, 103, 107, 109, 114, 116, 119, 314, 3, 315, 150].filterMap (fun i => lw_tbl[i]?) from by decide +kernel] at h
  obtain ⟨i, -, hi⟩ := List.mem_filterMap.mp h
  exact List.mem_of_getElem? hi
set_option maxRecDepth 20000 in
theorem jlaw_6 : ∀ w ∈ wsL_law_r6, w ∈ lw_tbl := by
  intro w h
  rw [show wsL_law_r6 = [153, 155, 157, 159, 318, 4, 319, 320, 179, 323, 5, 324, 325, 193, 195, 197, 199, 201, 614, 615, 616, 617, 618, 619].filterMap (fun i => lw_tbl[i]?) from by decide +kernel] at h
  obtain ⟨i, -, hi⟩ := List.mem_filterMap.mp h
  exact List.mem_of_getElem? hi
set_option maxRecDepth 20000 in
theorem jlaw_7 : ∀ w ∈ wsL_law_r7, w ∈ lw_tbl := by
  intro w h
  rw [show wsL_law_r7 = [620, 621, 622, 623, 624, 626, 37, 627, 628, 630, 38, 631, 586, 326, 327, 328, 329, 332, 6, 333, 336, 7, 337, 340].filterMap (fun i => lw_tbl[i]?) from by decide +kernel] at h
  obtain ⟨i, -, hi⟩ := List.mem_filterMap.mp h
  exact List.mem_of_getElem? hi
set_option maxRecDepth 20000 in
theorem jlaw_8 : ∀ w ∈ wsL_law_r8, w ∈ lw_tbl := by
  intro w h
  rw [show wsL_law_r8 = [8, 341, 632, 633, 634, 635, 636, 638, 39, 639, 342, 343, 344, 345, 640, 641, 642, 643, 644, 646, 40, 647, 346, 347].filterMap (fun i => lw_tbl[i]?) from by decide +kernel] at h
  obtain ⟨i, -, hi⟩ := List.mem_filterMap.mp h
  exact List.mem_of_getElem? hi
set_option maxRecDepth 20000 in
theorem jlaw_9 : ∀ w ∈ wsL_law_r9, w ∈ lw_tbl := by
  intro w h
  rw [show wsL_law_r9 = [348, 349, 648, 649, 650, 651, 652, 654, 41, 655, 350, 351, 352, 353, 656, 657, 658, 659, 354, 355, 356, 357, 660, 661].filterMap (fun i => lw_tbl[i]?) from by decide +kernel] at h
  obtain ⟨i, -, hi⟩ := List.mem_filterMap.mp h
  exact List.mem_of_getElem? hi
set_option maxRecDepth 20000 in
theorem jlaw_10 : ∀ w ∈ wsL_law_r10, w ∈ lw_tbl := by
  intro w h
  rw [show wsL_law_r10 = [662, 663, 358, 359, 360, 361, 364, 9, 365, 366, 369, 10, 370, 371, 373, 11, 374, 377, 12, 378, 390, 391, 70, 392].filterMap (fun i => lw_tbl[i]?) from by decide +kernel] at h
  obtain ⟨i, -, hi⟩ := List.mem_filterMap.mp h
  exact List.mem_of_getElem? hi
set_option maxRecDepth 20000 in
theorem jlaw_11 : ∀ w ∈ wsL_law_r11, w ∈ lw_tbl := by
  intro w h
  rw [show wsL_law_r11 = [379, 381, 13, 382, 383, 384, 385, 386, 388, 14, 389, 393, 395, 15, 396, 397, 399, 16, 400, 401, 403, 17, 404, 405].filterMap (fun i => lw_tbl[i]?) from by decide +kernel] at h
  obtain ⟨i, -, hi⟩ := List.mem_filterMap.mp h
  exact List.mem_of_getElem? hi
set_option maxRecDepth 20000 in
theorem jlaw_12 : ∀ w ∈ wsL_law_r12, w ∈ lw_tbl := by
  intro w h
  rw [show wsL_law_r12 = [407, 18, 408, 411, 19, 412, 421, 415, 20, 416, 418, 419, 424, 21, 425, 426, 427, 429, 22, 430, 433, 23, 434, 439].filterMap (fun i => lw_tbl[i]?) from by decide +kernel] at h
  obtain ⟨i, -, hi⟩ := List.mem_filterMap.mp h
  exact List.mem_of_getElem? hi
set_option maxRecDepth 20000 in
theorem jlaw_13 : ∀ w ∈ wsL_law_r13, w ∈ lw_tbl := by
  intro w h
  rw [show wsL_law_r13 = [24, 440, 443, 25, 444, 445, 448, 26, 449, 664, 665, 666, 667, 668, 670, 42, 671, 672, 673, 675, 43, 676, 677, 679].filterMap (fun i => lw_tbl[i]?) from by decide +kernel] at h
  obtain ⟨i, -, hi⟩ := List.mem_filterMap.mp h
  exact List.mem_of_getElem? hi
set_option maxRecDepth 20000 in
theorem jlaw_14 : ∀ w ∈ wsL_law_r14, w ∈ lw_tbl := by
  intro w h
  rw [show wsL_law_r14 = [44, 680, 681, 683, 45, 684, 685, 687, 46, 688, 689, 691, 47, 692, 693, 695, 48, 696, 697, 699, 49, 700, 450, 451].filterMap (fun i => lw_tbl[i]?) from by decide +kernel] at h
  obtain ⟨i, -, hi⟩ := List.mem_filterMap.mp h
  exact List.mem_of_getElem? hi
set_option maxRecDepth 20000 in
theorem jlaw_15 : ∀ w ∈ wsL_law_r15, w ∈ lw_tbl := by
  intro w h
  rw [show wsL_law_r15 = [452, 453, 456, 27, 457, 264, 458, 460, 28, 461, 462, 463, 464, 465, 466, 467, 468, 469, 470, 471, 472, 473, 476, 29].filterMap (fun i => lw_tbl[i]?) from by decide +kernel] at h
  obtain ⟨i, -, hi⟩ := List.mem_filterMap.mp h
  exact List.mem_of_getElem? hi
set_option maxRecDepth 20000 in
theorem jlaw_16 : ∀ w ∈ wsL_law_r16, w ∈ lw_tbl := by
  intro w h
  rw [show wsL_law_r16 = [477, 481, 30, 482, 483, 485, 31, 486, 701, 702, 703, 704, 587, 585, 705, 707, 50, 708, 588, 709, 711, 51, 712, 713].filterMap (fun i => lw_tbl[i]?) from by decide +kernel] at h
  obtain ⟨i, -, hi⟩ := List.mem_filterMap.mp h
  exact List.mem_of_getElem? hi
set_option maxRecDepth 20000 in
theorem jlaw_17 : ∀ w ∈ wsL_law_r17, w ∈ lw_tbl := by
  intro w h
  rw [show wsL_law_r17 = [715, 52, 716, 717, 719, 53, 720, 721, 723, 54, 724, 725, 727, 55, 728, 487, 488, 489, 490, 491, 729, 730, 731, 732].filterMap (fun i => lw_tbl[i]?) from by decide +kernel] at h
  obtain ⟨i, -, hi⟩ := List.mem_filterMap.mp h
  exact List.mem_of_getElem? hi
set_option maxRecDepth 20000 in
theorem jlaw_18 : ∀ w ∈ wsL_law_r18, w ∈ lw_tbl := by
  intro w h
  rw [show wsL_law_r18 = [493, 494, 495, 496, 499, 32, 500, 733, 734, 735, 736, 501, 502, 503, 504, 737, 738, 739, 740, 505, 506, 507, 508, 512].filterMap (fun i => lw_tbl[i]?) from by decide +kernel] at h
  obtain ⟨i, -, hi⟩ := List.mem_filterMap.mp h
  exact List.mem_of_getElem? hi
set_option maxRecDepth 20000 in
theorem jlaw_19 : ∀ w ∈ wsL_law_r19, w ∈ lw_tbl := by
  intro w h
  rw [show wsL_law_r19 = [33, 513, 741, 742, 743, 744, 745, 747, 56, 748, 749, 751, 57, 752, 753, 755, 58, 756, 517, 518, 519, 520, 523, 34].filterMap (fun i => lw_tbl[i]?) from by decide +kernel] at h
  obtain ⟨i, -, hi⟩ := List.mem_filterMap.mp h
  exact List.mem_of_getElem? hi
set_option maxRecDepth 20000 in
theorem jlaw_20 : ∀ w ∈ wsL_law_r20, w ∈ lw_tbl := by
  intro w h
  rw [show wsL_law_r20 = [524, 757, 758, 759, 760, 525, 526, 527, 528, 761, 762, 763, 764, 529, 530, 531, 532, 765, 766, 767, 768, 533, 534, 535].filterMap (fun i => lw_tbl[i]?) from by decide +kernel] at h
  obtain ⟨i, -, hi⟩ := List.mem_filterMap.mp h
  exact List.mem_of_getElem? hi
set_option maxRecDepth 20000 in
theorem jlaw_21 : ∀ w ∈ wsL_law_r21, w ∈ lw_tbl := by
  intro w h
  rw [show wsL_law_r21 = [536, 538, 539, 540, 541, 542, 545, 35, 546, 769, 770, 771, 772, 773, 774, 775, 547, 548, 549, 550, 776, 777, 778, 779].filterMap (fun i => lw_tbl[i]?) from by decide +kernel] at h
  obtain ⟨i, -, hi⟩ := List.mem_filterMap.mp h
  exact List.mem_of_getElem? hi
set_option maxRecDepth 20000 in
theorem jlaw_22 : ∀ w ∈ wsL_law_r22, w ∈ lw_tbl := by
  intro w h
  rw [show wsL_law_r22 = [551, 552, 553, 554, 780, 781, 782, 783, 555, 556, 557, 558, 561, 36, 562, 784, 785, 786, 787, 563, 564, 565, 566, 788].filterMap (fun i => lw_tbl[i]?) from by decide +kernel] at h
  obtain ⟨i, -, hi⟩ := List.mem_filterMap.mp h
  exact List.mem_of_getElem? hi
set_option maxRecDepth 20000 in
theorem jlaw_23 : ∀ w ∈ wsL_law_r23, w ∈ lw_tbl := by
  intro w h
  rw [show wsL_law_r23 = [789, 790, 791, 567, 568, 569, 570, 792, 793, 794, 795].filterMap (fun i => lw_tbl[i]?) from by decide +kernel] at h
  obtain ⟨i, -, hi⟩ := List.mem_filterMap.mp h
  exact List.mem_of_getElem? hi
set_option maxRecDepth 20000 in
theorem jlaw_u7 : ∀ w ∈ wsX70, w ∈ lw_tbl := by
  intro w h
  rw [show wsX70 = [279, 281, 283, 285, 287, 289].filterMap (fun i => lw_tbl[i]?) from by decide +kernel] at h
  obtain ⟨i, -, hi⟩ := List.mem_filterMap.mp h
  exact List.mem_of_getElem? hi
set_option maxRecDepth 20000 in
theorem jlaw_u8 : ∀ w ∈ wsX80, w ∈ lw_tbl := by
  intro w h
  rw [show wsX80 = [589, 591, 593, 595, 597, 599, 601, 603, 605, 607, 609, 611].filterMap (fun i => lw_tbl[i]?) from by decide +kernel] at h
  obtain ⟨i, -, hi⟩ := List.mem_filterMap.mp h
  exact List.mem_of_getElem? hi
set_option maxRecDepth 20000 in
theorem jlaw_u5 : ∀ w ∈ wsX50, w ∈ lw_tbl := by
  intro w h
  rw [show wsX50 = [226, 228, 230, 232, 234].filterMap (fun i => lw_tbl[i]?) from by decide +kernel] at h
  obtain ⟨i, -, hi⟩ := List.mem_filterMap.mp h
  exact List.mem_of_getElem? hi
set_option maxRecDepth 20000 in
theorem jlaw_u2 : ∀ w ∈ wsX20, w ∈ lw_tbl := by
  intro w h
  rw [show wsX20 = [250, 252, 254].filterMap (fun i => lw_tbl[i]?) from by decide +kernel] at h
  obtain ⟨i, -, hi⟩ := List.mem_filterMap.mp h
  exact List.mem_of_getElem? hi
set_option maxRecDepth 20000 in
theorem jlaw_u4 : ∀ w ∈ wsX40, w ∈ lw_tbl := by
  intro w h
  rw [show wsX40 = [266, 268].filterMap (fun i => lw_tbl[i]?) from by decide +kernel] at h
  obtain ⟨i, -, hi⟩ := List.mem_filterMap.mp h
  exact List.mem_of_getElem? hi
set_option maxRecDepth 20000 in
theorem jlaw_u1 : ∀ w ∈ wsX10, w ∈ lw_tbl := by
  intro w h
  rw [show wsX10 = [124, 126, 128, 130, 132, 134, 136, 138, 140].filterMap (fun i => lw_tbl[i]?) from by decide +kernel] at h
  obtain ⟨i, -, hi⟩ := List.mem_filterMap.mp h
  exact List.mem_of_getElem? hi
set_option maxRecDepth 20000 in
theorem jlaw_u0 : ∀ w ∈ wsX00, w ∈ lw_tbl := by
  intro w h
  rw [show wsX00 = [161, 163, 165, 167, 169].filterMap (fun i => lw_tbl[i]?) from by decide +kernel] at h
  obtain ⟨i, -, hi⟩ := List.mem_filterMap.mp h
  exact List.mem_of_getElem? hi
set_option maxRecDepth 20000 in
theorem jlaw_u3 : ∀ w ∈ wsX30, w ∈ lw_tbl := by
  intro w h
  rw [show wsX30 = [180, 182].filterMap (fun i => lw_tbl[i]?) from by decide +kernel] at h
  obtain ⟨i, -, hi⟩ := List.mem_filterMap.mp h
  exact List.mem_of_getElem? hi
set_option maxRecDepth 20000 in
theorem jlaw_u6 : ∀ w ∈ wsX60, w ∈ lw_tbl := by
  intro w h
  rw [show wsX60 = [203, 205, 207, 209, 211, 213].filterMap (fun i => lw_tbl[i]?) from by decide +kernel] at h
  obtain ⟨i, -, hi⟩ := List.mem_filterMap.mp h
  exact List.mem_of_getElem? hi
theorem wsL_law_in : ∀ w ∈ wsL_law, w ∈ lw_tbl := by
  unfold wsL_law
  exact List.forall_mem_append.mpr ⟨List.forall_mem_append.mpr ⟨List.forall_mem_append.mpr ⟨List.forall_mem_append.mpr ⟨List.forall_mem_append.mpr ⟨List.forall_mem_append.mpr ⟨List.forall_mem_append.mpr ⟨List.forall_mem_append.mpr ⟨List.forall_mem_append.mpr ⟨List.forall_mem_append.mpr ⟨List.forall_mem_append.mpr ⟨jlaw_1, List.forall_mem_append.mpr ⟨jlaw_2, List.forall_mem_append.mpr ⟨jlaw_3, List.forall_mem_append.mpr ⟨jlaw_4, List.forall_mem_append.mpr ⟨jlaw_5, List.forall_mem_append.mpr ⟨jlaw_6, List.forall_mem_append.mpr ⟨jlaw_7, List.forall_mem_append.mpr ⟨jlaw_8, List.forall_mem_append.mpr ⟨jlaw_9, List.forall_mem_append.mpr ⟨jlaw_10, List.forall_mem_append.mpr ⟨jlaw_11, List.forall_mem_append.mpr ⟨jlaw_12, List.forall_mem_append.mpr ⟨jlaw_13, List.forall_mem_append.mpr ⟨jlaw_14, List.forall_mem_append.mpr ⟨jlaw_15, List.forall_mem_append.mpr ⟨jlaw_16, List.forall_mem_append.mpr ⟨jlaw_17, List.forall_mem_append.mpr ⟨jlaw_18, List.forall_mem_append.mpr ⟨jlaw_19, List.forall_mem_append.mpr ⟨jlaw_20, List.forall_mem_append.mpr ⟨jlaw_21, List.forall_mem_append.mpr ⟨jlaw_22, jlaw_23⟩⟩⟩⟩⟩⟩⟩⟩⟩⟩⟩⟩⟩⟩⟩⟩⟩⟩⟩⟩⟩⟩, jlaw_u7⟩, jlaw_u8⟩, jlaw_u5⟩, jlaw_u2⟩, jlaw_u4⟩, jlaw_u1⟩, jlaw_u0⟩, jlaw_u3⟩, jlaw_u6⟩, fun _ h => absurd h List.not_mem_nil⟩
theorem inlX0 : ∀ w ∈ wsX00, w ∈ wsL_law := fun _ h => List.mem_append_left _ (List.mem_append_left _ (List.mem_append_left _ (List.mem_append_right _ h)))
theorem inX0 : ∀ w ∈ wsX00, w ∈ lw_tbl := fun w h => wsL_law_in w (inlX0 w h)
theorem inlX1 : ∀ w ∈ wsX10, w ∈ wsL_law := fun _ h => List.mem_append_left _ (List.mem_append_left _ (List.mem_append_left _ (List.mem_append_left _ (List.mem_append_right _ h))))
theorem inX1 : ∀ w ∈ wsX10, w ∈ lw_tbl := fun w h => wsL_law_in w (inlX1 w h)
theorem inlX2 : ∀ w ∈ wsX20, w ∈ wsL_law := fun _ h => List.mem_append_left _ (List.mem_append_left _ (List.mem_append_left _ (List.mem_append_left _ (List.mem_append_left _ (List.mem_append_left _ (List.mem_append_right _ h))))))
theorem inX2 : ∀ w ∈ wsX20, w ∈ lw_tbl := fun w h => wsL_law_in w (inlX2 w h)
theorem inlX3 : ∀ w ∈ wsX30, w ∈ wsL_law := fun _ h => List.mem_append_left _ (List.mem_append_left _ (List.mem_append_right _ h))
theorem inX3 : ∀ w ∈ wsX30, w ∈ lw_tbl := fun w h => wsL_law_in w (inlX3 w h)
theorem inlX4 : ∀ w ∈ wsX40, w ∈ wsL_law := fun _ h => List.mem_append_left _ (List.mem_append_left _ (List.mem_append_left _ (List.mem_append_left _ (List.mem_append_left _ (List.mem_append_right _ h)))))
theorem inX4 : ∀ w ∈ wsX40, w ∈ lw_tbl := fun w h => wsL_law_in w (inlX4 w h)
theorem inlX5 : ∀ w ∈ wsX50, w ∈ wsL_law := fun _ h => List.mem_append_left _ (List.mem_append_left _ (List.mem_append_left _ (List.mem_append_left _ (List.mem_append_left _ (List.mem_append_left _ (List.mem_append_left _ (List.mem_append_right _ h)))))))
theorem inX5 : ∀ w ∈ wsX50, w ∈ lw_tbl := fun w h => wsL_law_in w (inlX5 w h)
theorem inlX6 : ∀ w ∈ wsX60, w ∈ wsL_law := fun _ h => List.mem_append_left _ (List.mem_append_right _ h)
theorem inX6 : ∀ w ∈ wsX60, w ∈ lw_tbl := fun w h => wsL_law_in w (inlX6 w h)
theorem inlX7 : ∀ w ∈ wsX70, w ∈ wsL_law := fun _ h => List.mem_append_left _ (List.mem_append_left _ (List.mem_append_left _ (List.mem_append_left _ (List.mem_append_left _ (List.mem_append_left _ (List.mem_append_left _ (List.mem_append_left _ (List.mem_append_left _ (List.mem_append_right _ h)))))))))
theorem inX7 : ∀ w ∈ wsX70, w ∈ lw_tbl := fun w h => wsL_law_in w (inlX7 w h)
theorem inlX8 : ∀ w ∈ wsX80, w ∈ wsL_law := fun _ h => List.mem_append_left _ (List.mem_append_left _ (List.mem_append_left _ (List.mem_append_left _ (List.mem_append_left _ (List.mem_append_left _ (List.mem_append_left _ (List.mem_append_left _ (List.mem_append_right _ h))))))))
theorem inX8 : ∀ w ∈ wsX80, w ∈ lw_tbl := fun w h => wsL_law_in w (inlX8 w h)
theorem inJ9 : ∀ w ∈ wsJ90, w ∈ lw_tbl := by decide +kernel
theorem inJ10 : ∀ w ∈ wsJ100, w ∈ lw_tbl := by decide +kernel

set_option maxRecDepth 20000 in
theorem jlaw_nests : ∀ w ∈ jNests, w ∈ lw_tbl := by
  intro w h
  rw [show jNests = [81, 87, 91, 97, 98, 100, 101, 102, 104, 105, 106, 108, 110, 112, 113, 115, 117, 118, 120, 121, 122, 123, 146, 151, 152, 154, 156, 158, 160, 174, 187, 192, 194, 196, 198, 200, 202, 217, 219, 221, 223, 225, 239, 245, 249, 259, 265, 300, 304, 308, 312, 316, 321, 330, 334, 338, 362, 367, 375, 409, 413, 417, 420, 422, 431, 435, 436, 437, 441, 446, 454, 474, 478, 479, 492, 497, 509, 510, 514, 515, 516, 521, 537, 543, 559].filterMap (fun i => lw_tbl[i]?) from by decide +kernel] at h
  obtain ⟨i, -, hi⟩ := List.mem_filterMap.mp h
  exact List.mem_of_getElem? hi

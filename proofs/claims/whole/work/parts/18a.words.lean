/-! the tables keep to the rules -/
set_option maxRecDepth 100000 in
theorem pg_A0_eq : pg_A0 = [0, 1, 2, 3, 4, 5, 6, 7, 8, 9, 10, 11, 12, 13, 14, 15, 16, 17, 18, 19, 20, 21, 22, 23, 24, 25, 26, 27, 28, 29, 30, 31, 32, 33, 34, 35, 36, 37, 38, 39].filterMap (fun i => lw_tbl[i]?) := rfl
theorem pg_A0_in : ∀ w ∈ pg_A0, w ∈ lw_tbl := by
  intro w hw
  rw [pg_A0_eq] at hw
  obtain ⟨i, -, hi⟩ := List.mem_filterMap.mp hw
  exact List.mem_of_getElem? hi
set_option maxRecDepth 100000 in
theorem pg_A0_ok : pg_A0.all goodWord = true := by decide +kernel
set_option maxRecDepth 100000 in
theorem pg_A1_eq : pg_A1 = [40, 41, 42, 43, 44, 45, 46, 47, 49, 50, 52, 53, 54, 55, 56, 57, 58, 59, 60, 61, 62, 63, 64, 65, 66, 67, 68, 69, 71, 73, 75, 77, 79, 81, 83, 85, 88, 89, 90, 92].filterMap (fun i => lw_tbl[i]?) := rfl
theorem pg_A1_in : ∀ w ∈ pg_A1, w ∈ lw_tbl := by
  intro w hw
  rw [pg_A1_eq] at hw
  obtain ⟨i, -, hi⟩ := List.mem_filterMap.mp hw
  exact List.mem_of_getElem? hi
set_option maxRecDepth 100000 in
theorem pg_A1_ok : pg_A1.all goodWord = true := by decide +kernel
set_option maxRecDepth 100000 in
theorem pg_A2_eq : pg_A2 = [93, 94, 95, 96, 97, 98, 99, 100, 101, 102, 104, 106, 108, 111, 112, 113, 114, 115, 116, 117, 118, 119, 121, 123, 125, 127, 129, 131, 133, 136, 137, 138, 139, 140, 141, 142, 143, 144, 145, 147].filterMap (fun i => lw_tbl[i]?) := rfl
theorem pg_A2_in : ∀ w ∈ pg_A2, w ∈ lw_tbl := by
  intro w hw
  rw [pg_A2_eq] at hw
  obtain ⟨i, -, hi⟩ := List.mem_filterMap.mp hw
  exact List.mem_of_getElem? hi
set_option maxRecDepth 100000 in
theorem pg_A2_ok : pg_A2.all goodWord = true := by decide +kernel
set_option maxRecDepth 100000 in
theorem pg_A3_eq : pg_A3 = [148, 150, 151, 152, 153, 154, 155, 156, 157, 158, 159, 160, 161, 162, 163, 165, 167, 169, 171, 173, 175, 178, 179, 180, 181, 182, 183, 184, 185, 186, 187, 188, 189, 190, 191, 192, 193, 194, 195, 197].filterMap (fun i => lw_tbl[i]?) := rfl
theorem pg_A3_in : ∀ w ∈ pg_A3, w ∈ lw_tbl := by
  intro w hw
  rw [pg_A3_eq] at hw
  obtain ⟨i, -, hi⟩ := List.mem_filterMap.mp hw
  exact List.mem_of_getElem? hi
set_option maxRecDepth 100000 in
theorem pg_A3_ok : pg_A3.all goodWord = true := by decide +kernel
set_option maxRecDepth 100000 in
theorem pg_A4_eq : pg_A4 = [199, 201, 203, 205, 207, 209, 211, 213, 216, 217, 218, 219, 220, 222, 223, 224, 225, 226, 227, 228, 229, 230, 231, 232, 233, 234, 235, 236, 237, 238, 239, 240, 241, 242, 243, 244, 245, 246, 247, 248].filterMap (fun i => lw_tbl[i]?) := rfl
theorem pg_A4_in : ∀ w ∈ pg_A4, w ∈ lw_tbl := by
  intro w hw
  rw [pg_A4_eq] at hw
  obtain ⟨i, -, hi⟩ := List.mem_filterMap.mp hw
  exact List.mem_of_getElem? hi
set_option maxRecDepth 100000 in
theorem pg_A4_ok : pg_A4.all goodWord = true := by decide +kernel
set_option maxRecDepth 100000 in
theorem pg_A5_eq : pg_A5 = [249, 250, 252, 254, 257, 258, 259, 260, 261, 262, 263, 264, 265, 266, 267, 268, 269, 270, 271, 272, 273, 274, 275, 276, 277, 278, 279, 280, 282, 283, 284, 286, 287, 288, 289, 290, 291, 292, 293, 294].filterMap (fun i => lw_tbl[i]?) := rfl
theorem pg_A5_in : ∀ w ∈ pg_A5, w ∈ lw_tbl := by
  intro w hw
  rw [pg_A5_eq] at hw
  obtain ⟨i, -, hi⟩ := List.mem_filterMap.mp hw
  exact List.mem_of_getElem? hi
set_option maxRecDepth 100000 in
theorem pg_A5_ok : pg_A5.all goodWord = true := by decide +kernel
set_option maxRecDepth 100000 in
theorem pg_A6_eq : pg_A6 = [295, 296, 297, 298, 299, 300, 301, 302, 303, 304, 305, 306, 307, 308, 309, 310, 311, 312, 313, 314, 315, 316, 317, 318, 319, 320, 321, 322, 323, 324, 325, 326, 327, 328, 329, 330, 331, 332, 333, 335].filterMap (fun i => lw_tbl[i]?) := rfl
theorem pg_A6_in : ∀ w ∈ pg_A6, w ∈ lw_tbl := by
  intro w hw
  rw [pg_A6_eq] at hw
  obtain ⟨i, -, hi⟩ := List.mem_filterMap.mp hw
  exact List.mem_of_getElem? hi
set_option maxRecDepth 100000 in
theorem pg_A6_ok : pg_A6.all goodWord = true := by decide +kernel
set_option maxRecDepth 100000 in
theorem pg_A7_eq : pg_A7 = [336, 337, 339, 340, 341, 343, 344, 345, 347, 348, 349, 351, 352, 353, 355, 356, 357, 358, 359, 360, 361, 363, 364, 365, 366, 367, 368, 369, 370, 371, 372, 373, 374, 375, 376, 377, 378, 379, 380, 381].filterMap (fun i => lw_tbl[i]?) := rfl
theorem pg_A7_in : ∀ w ∈ pg_A7, w ∈ lw_tbl := by
  intro w hw
  rw [pg_A7_eq] at hw
  obtain ⟨i, -, hi⟩ := List.mem_filterMap.mp hw
  exact List.mem_of_getElem? hi
set_option maxRecDepth 100000 in
theorem pg_A7_ok : pg_A7.all goodWord = true := by decide +kernel
set_option maxRecDepth 100000 in
theorem pg_A8_eq : pg_A8 = [382, 384, 385, 386, 387, 388, 389, 390, 391, 392, 393, 394, 395, 396, 397, 398, 400, 401, 402, 403, 404, 405, 406, 407, 408, 409, 410, 411, 412, 413, 414, 416, 417, 418, 419, 420, 421, 422, 423, 424].filterMap (fun i => lw_tbl[i]?) := rfl
theorem pg_A8_in : ∀ w ∈ pg_A8, w ∈ lw_tbl := by
  intro w hw
  rw [pg_A8_eq] at hw
  obtain ⟨i, -, hi⟩ := List.mem_filterMap.mp hw
  exact List.mem_of_getElem? hi
set_option maxRecDepth 100000 in
theorem pg_A8_ok : pg_A8.all goodWord = true := by decide +kernel
set_option maxRecDepth 100000 in
theorem pg_A9_eq : pg_A9 = [425, 426, 427, 428, 429, 430, 431, 433, 434, 435, 436, 437, 438, 439, 440, 441, 442, 443, 444, 445, 446, 447, 448, 449, 450, 451, 452, 453, 454, 455, 456, 457, 458, 459, 460, 461, 462, 463, 464, 465].filterMap (fun i => lw_tbl[i]?) := rfl
theorem pg_A9_in : ∀ w ∈ pg_A9, w ∈ lw_tbl := by
  intro w hw
  rw [pg_A9_eq] at hw
  obtain ⟨i, -, hi⟩ := List.mem_filterMap.mp hw
  exact List.mem_of_getElem? hi
set_option maxRecDepth 100000 in
theorem pg_A9_ok : pg_A9.all goodWord = true := by decide +kernel
set_option maxRecDepth 100000 in
theorem pg_A10_eq : pg_A10 = [466, 467, 468, 469, 470, 471, 472, 473, 474, 475, 476, 477, 478, 479, 481, 482, 483, 484, 485, 486, 487, 488, 489, 490, 491, 492, 493, 494, 495, 496, 497, 498, 499, 500, 501, 502, 503, 504, 505, 506].filterMap (fun i => lw_tbl[i]?) := rfl
theorem pg_A10_in : ∀ w ∈ pg_A10, w ∈ lw_tbl := by
  intro w hw
  rw [pg_A10_eq] at hw
  obtain ⟨i, -, hi⟩ := List.mem_filterMap.mp hw
  exact List.mem_of_getElem? hi
set_option maxRecDepth 100000 in
theorem pg_A10_ok : pg_A10.all goodWord = true := by decide +kernel
set_option maxRecDepth 100000 in
theorem pg_A11_eq : pg_A11 = [507, 508, 509, 510, 511, 512, 513, 514, 515, 516, 517, 518, 519, 520, 521, 522, 523, 524, 526, 528, 530, 532, 534, 536, 538, 540, 542, 544, 546, 548, 550, 552, 554, 556, 558, 560, 562, 564, 566, 568].filterMap (fun i => lw_tbl[i]?) := rfl
theorem pg_A11_in : ∀ w ∈ pg_A11, w ∈ lw_tbl := by
  intro w hw
  rw [pg_A11_eq] at hw
  obtain ⟨i, -, hi⟩ := List.mem_filterMap.mp hw
  exact List.mem_of_getElem? hi
set_option maxRecDepth 100000 in
theorem pg_A11_ok : pg_A11.all goodWord = true := by decide +kernel
set_option maxRecDepth 100000 in
theorem pg_A12_eq : pg_A12 = [570, 572, 574, 576, 578, 580, 582, 584, 586, 588, 590, 592, 595, 596, 597, 598, 599, 600, 601, 602, 603, 604, 605, 606, 608, 609, 610, 611, 612, 613, 614, 615, 616, 617, 618, 619, 620, 621, 622, 624].filterMap (fun i => lw_tbl[i]?) := rfl
theorem pg_A12_in : ∀ w ∈ pg_A12, w ∈ lw_tbl := by
  intro w hw
  rw [pg_A12_eq] at hw
  obtain ⟨i, -, hi⟩ := List.mem_filterMap.mp hw
  exact List.mem_of_getElem? hi
set_option maxRecDepth 100000 in
theorem pg_A12_ok : pg_A12.all goodWord = true := by decide +kernel
set_option maxRecDepth 100000 in
theorem pg_A13_eq : pg_A13 = [625, 626, 627, 628, 629, 630, 632, 633, 634, 636, 637, 638, 639, 640, 641, 642, 643, 644, 645, 646, 647, 648, 649, 650, 651, 653, 654, 655, 656, 657, 658, 659, 660, 661, 662, 663, 664, 666, 667, 668].filterMap (fun i => lw_tbl[i]?) := rfl
theorem pg_A13_in : ∀ w ∈ pg_A13, w ∈ lw_tbl := by
  intro w hw
  rw [pg_A13_eq] at hw
  obtain ⟨i, -, hi⟩ := List.mem_filterMap.mp hw
  exact List.mem_of_getElem? hi
set_option maxRecDepth 100000 in
theorem pg_A13_ok : pg_A13.all goodWord = true := by decide +kernel
set_option maxRecDepth 100000 in
theorem pg_A14_eq : pg_A14 = [670, 671, 672, 674, 675, 676, 678, 679, 680, 682, 683, 684, 686, 687, 688, 689, 691, 692, 693, 695, 696, 697, 699, 700, 701, 703, 704, 705, 706, 707, 708, 709, 710, 711, 712, 713, 714, 715, 716, 717].filterMap (fun i => lw_tbl[i]?) := rfl
theorem pg_A14_in : ∀ w ∈ pg_A14, w ∈ lw_tbl := by
  intro w hw
  rw [pg_A14_eq] at hw
  obtain ⟨i, -, hi⟩ := List.mem_filterMap.mp hw
  exact List.mem_of_getElem? hi
set_option maxRecDepth 100000 in
theorem pg_A14_ok : pg_A14.all goodWord = true := by decide +kernel
set_option maxRecDepth 100000 in
theorem pg_A15_eq : pg_A15 = [718, 719, 720, 721, 722, 723, 724, 725, 726, 727, 728, 729, 730, 731, 732, 733, 734, 735, 736].filterMap (fun i => lw_tbl[i]?) := rfl
theorem pg_A15_in : ∀ w ∈ pg_A15, w ∈ lw_tbl := by
  intro w hw
  rw [pg_A15_eq] at hw
  obtain ⟨i, -, hi⟩ := List.mem_filterMap.mp hw
  exact List.mem_of_getElem? hi
set_option maxRecDepth 100000 in
theorem pg_A15_ok : pg_A15.all goodWord = true := by decide +kernel
theorem pg_AL_in : ∀ w ∈ pg_AL, w ∈ lw_tbl := by
  unfold pg_AL
  exact List.forall_mem_append.mpr ⟨pg_A0_in, List.forall_mem_append.mpr ⟨pg_A1_in, List.forall_mem_append.mpr ⟨pg_A2_in, List.forall_mem_append.mpr ⟨pg_A3_in, List.forall_mem_append.mpr ⟨pg_A4_in, List.forall_mem_append.mpr ⟨pg_A5_in, List.forall_mem_append.mpr ⟨pg_A6_in, List.forall_mem_append.mpr ⟨pg_A7_in, List.forall_mem_append.mpr ⟨pg_A8_in, List.forall_mem_append.mpr ⟨pg_A9_in, List.forall_mem_append.mpr ⟨pg_A10_in, List.forall_mem_append.mpr ⟨pg_A11_in, List.forall_mem_append.mpr ⟨pg_A12_in, List.forall_mem_append.mpr ⟨pg_A13_in, List.forall_mem_append.mpr ⟨pg_A14_in, pg_A15_in⟩⟩⟩⟩⟩⟩⟩⟩⟩⟩⟩⟩⟩⟩⟩
set_option maxRecDepth 100000 in
theorem pg_NL_eq : pg_NL = [51, 91, 149].filterMap (fun i => lw_tbl[i]?) := by decide +kernel
theorem pg_NL_in : ∀ w ∈ pg_NL, w ∈ lw_tbl := by
  intro w hw
  rw [pg_NL_eq] at hw
  obtain ⟨i, -, hi⟩ := List.mem_filterMap.mp hw
  exact List.mem_of_getElem? hi
theorem pg_AL_good : ∀ w ∈ mm_AL pg_S, (w.onTables && w.keeps) = true ∨ ∃ ty, w = .arrayClass ty := by
  have h : ∀ w ∈ pg_AL, goodWord w = true := by
    unfold pg_AL
    exact List.forall_mem_append.mpr ⟨(List.all_eq_true.mp pg_A0_ok), List.forall_mem_append.mpr ⟨(List.all_eq_true.mp pg_A1_ok), List.forall_mem_append.mpr ⟨(List.all_eq_true.mp pg_A2_ok), List.forall_mem_append.mpr ⟨(List.all_eq_true.mp pg_A3_ok), List.forall_mem_append.mpr ⟨(List.all_eq_true.mp pg_A4_ok), List.forall_mem_append.mpr ⟨(List.all_eq_true.mp pg_A5_ok), List.forall_mem_append.mpr ⟨(List.all_eq_true.mp pg_A6_ok), List.forall_mem_append.mpr ⟨(List.all_eq_true.mp pg_A7_ok), List.forall_mem_append.mpr ⟨(List.all_eq_true.mp pg_A8_ok), List.forall_mem_append.mpr ⟨(List.all_eq_true.mp pg_A9_ok), List.forall_mem_append.mpr ⟨(List.all_eq_true.mp pg_A10_ok), List.forall_mem_append.mpr ⟨(List.all_eq_true.mp pg_A11_ok), List.forall_mem_append.mpr ⟨(List.all_eq_true.mp pg_A12_ok), List.forall_mem_append.mpr ⟨(List.all_eq_true.mp pg_A13_ok), List.forall_mem_append.mpr ⟨(List.all_eq_true.mp pg_A14_ok), (List.all_eq_true.mp pg_A15_ok)⟩⟩⟩⟩⟩⟩⟩⟩⟩⟩⟩⟩⟩⟩⟩
  exact fun w hw => good_of_word (h w hw)
theorem pg_NL_good : mm_NG pg_S := by
  intro w hw
  have h : w ∈ pg_NL := hw
  unfold pg_NL at h
  simp only [List.mem_cons, List.not_mem_nil, or_false] at h
  rcases h with rfl | rfl | rfl <;> exact ⟨_, _, _, _, rfl⟩

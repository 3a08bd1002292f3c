/-! THE LAW'S WORDS stand among the claim's, laid by wip/p40/lawin.py -/
theorem at_in {big ws : List Cond} (is : List Nat) (h : is.filterMap (fun i => big[i]?) = ws) : ∀ w ∈ ws, w ∈ big := fun w hw => by
  rw [← h] at hw
  obtain ⟨i, -, hi⟩ := List.mem_filterMap.mp hw
  exact List.mem_of_getElem? hi
theorem in_app {big a b : List Cond} (ha : ∀ w ∈ a, w ∈ big) (hb : ∀ w ∈ b, w ∈ big) : ∀ w ∈ a ++ b, w ∈ big := fun w h => (List.mem_append.mp h).elim (ha w) (hb w)
set_option maxRecDepth 20000 in
theorem wsL_law0_r1_in : ∀ w ∈ wsL_law0_r1, w ∈ lw_tbl := at_in [41, 42, 27, 43, 44, 45, 46, 47, 48, 49, 137, 109, 138, 51, 52, 28, 139, 110, 111, 29, 140, 127, 30, 141] (by decide +kernel)
set_option maxRecDepth 20000 in
theorem wsL_law0_r2_in : ∀ w ∈ wsL_law0_r2, w ∈ lw_tbl := at_in [142, 143, 144, 145, 146, 53, 54, 55, 56, 57, 58, 59, 60, 61, 62, 63, 64, 65, 66, 67, 68, 69, 70, 112] (by decide +kernel)
set_option maxRecDepth 20000 in
theorem wsL_law0_r3_in : ∀ w ∈ wsL_law0_r3, w ∈ lw_tbl := at_in [113, 114, 115, 116, 126, 117, 118, 128, 129, 130, 131, 132, 576, 577, 26, 578, 579, 580, 581, 582, 630, 572, 573, 574] (by decide +kernel)
set_option maxRecDepth 20000 in
theorem wsL_law0_r4_in : ∀ w ∈ wsL_law0_r4, w ∈ lw_tbl := at_in [575, 583, 584, 585, 586, 133, 172, 173, 174, 175, 34, 441, 442, 443, 587, 350, 351, 352, 289, 588, 590, 23, 591, 592] (by decide +kernel)
set_option maxRecDepth 20000 in
theorem wsL_law0_r5_in : ∀ w ∈ wsL_law0_r5, w ∈ lw_tbl := at_in [593, 594, 595, 596, 598, 24, 599, 560, 562, 22, 563, 600, 601, 602, 603, 604, 321, 35, 322, 323, 324, 325, 605, 260] (by decide +kernel)
set_option maxRecDepth 20000 in
theorem wsL_law0_r6_in : ∀ w ∈ wsL_law0_r6, w ∈ lw_tbl := at_in [261, 262, 606, 608, 25, 609, 422, 424, 14, 425, 390, 391, 392, 393, 394, 395, 396, 397, 305, 306, 307, 386, 388, 7] (by decide +kernel)
set_option maxRecDepth 20000 in
theorem wsL_law0_r7_in : ∀ w ∈ wsL_law0_r7, w ∈ lw_tbl := at_in [389, 71, 426, 428, 15, 429, 610, 611, 612, 613, 430, 431, 432, 433, 435, 16, 436, 312, 313, 314, 315, 614, 615, 616] (by decide +kernel)
set_option maxRecDepth 20000 in
theorem wsL_law0_r8_in : ∀ w ∈ wsL_law0_r8, w ∈ lw_tbl := at_in [617, 618, 361, 360, 36, 298, 299, 300, 301, 72, 73, 302, 303, 304, 619, 620, 621, 622, 623, 624, 625, 243, 37, 627] (by decide +kernel)
set_option maxRecDepth 20000 in
theorem wsL_law0_r9_in : ∀ w ∈ wsL_law0_r9, w ∈ lw_tbl := at_in [628, 629, 366, 367, 368, 369, 370, 371, 372, 374, 375, 376, 377, 378, 380, 5, 381, 382, 384, 6, 385, 398, 400, 8] (by decide +kernel)
set_option maxRecDepth 20000 in
theorem wsL_law0_r10_in : ∀ w ∈ wsL_law0_r10, w ∈ lw_tbl := at_in [401, 402, 404, 9, 405, 406, 408, 10, 409, 410, 412, 11, 413, 414, 416, 12, 417, 418, 420, 13, 421, 437, 438, 439] (by decide +kernel)
set_option maxRecDepth 20000 in
theorem wsL_law0_r11_in : ∀ w ∈ wsL_law0_r11, w ∈ lw_tbl := at_in [440, 445, 447, 17, 448, 449, 450, 451, 452, 453, 454, 455, 456, 457, 458, 459, 460, 461, 631, 632, 633, 645, 634, 499] (by decide +kernel)
set_option maxRecDepth 20000 in
theorem wsL_law0_r12_in : ∀ w ∈ wsL_law0_r12, w ∈ lw_tbl := at_in [500, 501, 467, 468, 469, 470, 308, 309, 310, 311, 294, 295, 296, 297, 635, 508, 509, 510, 636, 637, 548, 549, 550, 638] (by decide +kernel)
set_option maxRecDepth 20000 in
theorem wsL_law0_r13_in : ∀ w ∈ wsL_law0_r13, w ∈ lw_tbl := at_in [530, 531, 532, 533, 534, 535, 536, 537, 538, 38, 539, 520, 521, 523, 20, 524, 525, 527, 21, 528, 639, 513, 514, 515] (by decide +kernel)
set_option maxRecDepth 20000 in
theorem wsL_law0_r14_in : ∀ w ∈ wsL_law0_r14, w ∈ lw_tbl := at_in [516, 517, 518, 519, 263, 264, 265, 266, 267, 268, 269, 270, 271, 272, 39, 273, 274, 275, 276, 640, 641, 642, 643, 644] (by decide +kernel)
set_option maxRecDepth 20000 in
theorem wsL_law0_r15_in : ∀ w ∈ wsL_law0_r15, w ∈ lw_tbl := at_in [483, 484, 485, 486, 487, 488, 489, 490, 491, 492, 493, 494, 495, 496, 497, 498, 502, 504, 19, 505, 506, 507, 511, 512] (by decide +kernel)
set_option maxRecDepth 20000 in
theorem wsL_law0_r16_in : ∀ w ∈ wsL_law0_r16, w ∈ lw_tbl := at_in [529, 540, 291, 292, 293, 259, 541, 278, 279, 280, 282, 283, 284, 285, 286, 287, 288, 542, 543, 544, 545, 546, 547, 551] (by decide +kernel)
set_option maxRecDepth 20000 in
theorem wsL_law0_r17_in : ∀ w ∈ wsL_law0_r17, w ∈ lw_tbl := at_in [552, 553, 554, 555, 556, 557, 558, 559, 564, 565, 566, 567, 568, 569, 570, 571, 475, 476, 477, 478, 479, 480, 481, 482] (by decide +kernel)
set_option maxRecDepth 20000 in
theorem wsL_law0_r18_in : ∀ w ∈ wsL_law0_r18, w ∈ lw_tbl := at_in [466, 316, 317, 318, 319, 320, 326, 327, 328, 329, 330, 331, 332, 333, 334, 335, 336, 337, 338, 340, 1, 341, 342, 344] (by decide +kernel)
set_option maxRecDepth 20000 in
theorem wsL_law0_r19_in : ∀ w ∈ wsL_law0_r19, w ∈ lw_tbl := at_in [2, 345, 359, 346, 347, 348, 354, 349, 355, 357, 3, 358, 362, 364, 4, 365, 646, 647, 648, 649, 650, 651, 652, 653] (by decide +kernel)
set_option maxRecDepth 20000 in
theorem wsL_law0_r20_in : ∀ w ∈ wsL_law0_r20, w ∈ lw_tbl := at_in [654, 655, 656, 657, 658, 659, 660, 661, 662, 663, 664, 665, 666, 667, 668, 669, 670, 671, 672, 673, 674, 675, 676, 677] (by decide +kernel)
set_option maxRecDepth 20000 in
theorem wsL_law0_r21_in : ∀ w ∈ wsL_law0_r21, w ∈ lw_tbl := at_in [678, 679, 680, 681, 682, 683, 684, 687, 688, 689, 690, 691, 692, 693, 694, 695, 696, 697, 698, 699, 700, 701, 702, 703] (by decide +kernel)
set_option maxRecDepth 20000 in
theorem wsL_law0_r22_in : ∀ w ∈ wsL_law0_r22, w ∈ lw_tbl := at_in [704, 705, 706, 707, 40, 723, 724, 725, 726, 727, 290, 277, 168, 169, 170, 171, 462, 463, 464, 465, 471, 473, 18, 474] (by decide +kernel)
set_option maxRecDepth 20000 in
theorem wsX30_in : ∀ w ∈ wsX30, w ∈ lw_tbl := at_in [147, 149, 151, 153, 155, 157, 159, 161, 163, 165] (by decide +kernel)
set_option maxRecDepth 20000 in
theorem wsX00_in : ∀ w ∈ wsX00, w ∈ lw_tbl := at_in [74, 76, 78, 80, 82, 84, 86, 88, 90, 92, 94, 96, 98, 100, 102, 104, 106] (by decide +kernel)
set_option maxRecDepth 20000 in
theorem wsX10_in : ∀ w ∈ wsX10, w ∈ lw_tbl := at_in [119, 121, 123] (by decide +kernel)
set_option maxRecDepth 20000 in
theorem wsX20_in : ∀ w ∈ wsX20, w ∈ lw_tbl := at_in [134] (by decide +kernel)
theorem wsL_law_in0 : ∀ w ∈ wsL_law0, w ∈ lw_tbl := in_app (in_app (in_app (in_app (in_app (in_app wsL_law0_r1_in (in_app wsL_law0_r2_in (in_app wsL_law0_r3_in (in_app wsL_law0_r4_in (in_app wsL_law0_r5_in (in_app wsL_law0_r6_in (in_app wsL_law0_r7_in (in_app wsL_law0_r8_in (in_app wsL_law0_r9_in (in_app wsL_law0_r10_in (in_app wsL_law0_r11_in (in_app wsL_law0_r12_in (in_app wsL_law0_r13_in (in_app wsL_law0_r14_in (in_app wsL_law0_r15_in (in_app wsL_law0_r16_in (in_app wsL_law0_r17_in (in_app wsL_law0_r18_in (in_app wsL_law0_r19_in (in_app wsL_law0_r20_in (in_app wsL_law0_r21_in wsL_law0_r22_in))))))))))))))))))))) wsX30_in) wsX00_in) wsX10_in) wsX20_in) (fun w h => absurd h List.not_mem_nil)
theorem wsL_law_x0 : ∀ w ∈ (vx_atS RX3 273 "java/lang/IndexOutOfBoundsException" ["java/lang/RuntimeException", "java/lang/Exception"]).filter goodWord, w ∈ lw_tbl := by decide +kernel
theorem wsL_law_x1 : ∀ w ∈ (vx_atS RX3 80 "java/lang/IllegalArgumentException" ["java/lang/RuntimeException", "java/lang/Exception"]).filter goodWord, w ∈ lw_tbl := by decide +kernel
theorem wsL_law_x2 : ∀ w ∈ (vx_atS RX3 118 "java/lang/IllegalStateException" ["java/lang/RuntimeException", "java/lang/Exception"]).filter goodWord, w ∈ lw_tbl := by decide +kernel
theorem wsL_law_in : ∀ w ∈ wsL_law, w ∈ lw_tbl := fun w h => (List.mem_append.mp h).elim (fun h => (List.mem_append.mp h).elim (fun h => (List.mem_append.mp h).elim (fun h => wsL_law_in0 w h) (fun h => wsL_law_x0 w h)) (fun h => wsL_law_x1 w h)) (fun h => wsL_law_x2 w h)
theorem inlX0 : ∀ w ∈ wsX00, w ∈ wsL_law := fun _ h => List.mem_append_left _ (List.mem_append_left _ (List.mem_append_left _ (List.mem_append_left _ (List.mem_append_left _ (List.mem_append_left _ (List.mem_append_right _ h))))))
theorem inX0 : ∀ w ∈ wsX00, w ∈ lw_tbl := fun w h => wsL_law_in w (inlX0 w h)
theorem inlX1 : ∀ w ∈ wsX10, w ∈ wsL_law := fun _ h => List.mem_append_left _ (List.mem_append_left _ (List.mem_append_left _ (List.mem_append_left _ (List.mem_append_left _ (List.mem_append_right _ h)))))
theorem inX1 : ∀ w ∈ wsX10, w ∈ lw_tbl := fun w h => wsL_law_in w (inlX1 w h)
theorem inlX2 : ∀ w ∈ wsX20, w ∈ wsL_law := fun _ h => List.mem_append_left _ (List.mem_append_left _ (List.mem_append_left _ (List.mem_append_left _ (List.mem_append_right _ h))))
theorem inX2 : ∀ w ∈ wsX20, w ∈ lw_tbl := fun w h => wsL_law_in w (inlX2 w h)
theorem inlX3 : ∀ w ∈ wsX30, w ∈ wsL_law := fun _ h => List.mem_append_left _ (List.mem_append_left _ (List.mem_append_left _ (List.mem_append_left _ (List.mem_append_left _ (List.mem_append_left _ (List.mem_append_left _ (List.mem_append_right _ h)))))))
theorem inX3 : ∀ w ∈ wsX30, w ∈ lw_tbl := fun w h => wsL_law_in w (inlX3 w h)
theorem inX4 : ∀ w ∈ wsX40, w ∈ lw_tbl := by decide +kernel
theorem inX5 : ∀ w ∈ wsX50, w ∈ lw_tbl := by decide +kernel
theorem inJx145de : ∀ w ∈ wsJx145de0, w ∈ lw_tbl := by decide +kernel
theorem inJ6 : ∀ w ∈ wsJ60, w ∈ lw_tbl := by decide +kernel
theorem inJ13 : ∀ w ∈ wsJ130, w ∈ lw_tbl := by decide +kernel
theorem inJ9 : ∀ w ∈ wsJ90, w ∈ lw_tbl := by decide +kernel
theorem inJ0 : ∀ w ∈ wsJ00, w ∈ lw_tbl := by decide +kernel
theorem inJ10 : ∀ w ∈ wsJ100, w ∈ lw_tbl := by decide +kernel

/-! THE LAW'S CALLS: their words lie in the law's (printed by the names' program) -/
set_option maxRecDepth 20000 in
theorem ggL_law_X6_multiply : GoodIn wsL_law wsX6_multiply := goodIn_r _ [466, 87, 133, 134, 5, 135, 136, 137, 138, 467, 468, 469, 470, 471, 472, 473, 474, 89, 88, 90, 475, 476, 477, 478, 101, 91, 356, 357, 358, 186, 187, 188, 479, 480, 481, 482, 483, 359, 360, 361, 142, 143, 144, 145, 146, 484, 485, 486, 487, 1016, 1017, 1018, 1019, 1020, 1021, 1022, 1023, 1024, 1025, 1026, 1027, 1028, 1029, 1030, 1031, 1032, 1033, 1034] (by decide +kernel) (by decide +kernel)
set_option maxRecDepth 20000 in
theorem gL_law_X6_multiply : GoodIn wsL_law (wsV RL 163 RX6 yX6_multiply wsX6_multiply) := goodIn_app (goodIn_of _ (by decide +kernel)) ggL_law_X6_multiply
set_option maxRecDepth 20000 in
theorem ggL_law_L_star : GoodIn wsL_law wsL_star := goodIn_ca (goodIn_ca (goodIn_r _ [490, 106, 325, 491, 492, 493, 2, 494, 330, 331, 29, 16, 112, 113, 114, 115, 116, 117, 118, 119, 454, 455, 456, 28, 457, 69, 64, 458, 307, 308, 309, 495, 496, 497, 498, 444, 167, 168, 169, 340, 341, 123, 499, 500, 501, 502, 445, 446, 447, 448, 449, 450, 451, 452, 453, 346, 347, 459, 460, 461, 462, 70, 1006, 1007, 1008, 1009, 1010, 1011, 1012, 1013, 1014, 1015, 1041, 1042] (by decide +kernel) (by decide +kernel)) (goodIn_sub (fun _ h => List.mem_append_right _ h) (by decide +kernel))) (goodIn_sub (fun _ h => List.mem_append_left _ (List.mem_append_left _ (List.mem_append_right _ h))) (by decide +kernel))
set_option maxRecDepth 20000 in
theorem gL_law_L_star : GoodIn wsL_law (va_wsS RL 164 yL_star wsL_star) := goodIn_app (goodIn_of _ (by decide +kernel)) ggL_law_L_star
set_option maxRecDepth 20000 in
theorem ggL_law_X6_star : GoodIn wsL_law wsX6_star := goodIn_r _ [506, 87, 133, 134, 5, 135, 136, 137, 138, 507, 508, 509, 510, 89, 90, 471, 472, 473, 474, 88, 186, 187, 188, 511, 512, 513, 514, 91, 475, 476, 477, 478, 101, 356, 357, 358, 515, 516, 517, 518, 479, 480, 481, 482, 483, 359, 360, 361, 142, 143, 144, 145, 146, 484, 485, 486, 487, 1016, 1017, 1018, 1019, 1020, 1021, 1022, 1023, 1024, 1025, 1026, 1027, 1028, 1029, 1030, 1031, 1032, 1033, 1034] (by decide +kernel) (by decide +kernel)
set_option maxRecDepth 20000 in
theorem gL_law_X6_star : GoodIn wsL_law (wsV RL 166 RX6 yX6_star wsX6_star) := goodIn_app (goodIn_of _ (by decide +kernel)) ggL_law_X6_star
set_option maxRecDepth 20000 in
theorem ggL_law_L_mean : GoodIn wsL_law wsL_mean := goodIn_ca (goodIn_ca (goodIn_r _ [521, 106, 107, 522, 523, 524, 2, 525, 16, 35, 112, 113, 114, 115, 116, 117, 118, 119, 124, 125, 126, 127, 128, 526, 527, 528, 529, 29, 30, 123, 530, 531, 532, 34, 533, 247, 248, 454, 455, 456, 28, 457, 69, 64, 458, 307, 308, 309, 534, 535, 536, 537, 538, 244, 245, 246, 440, 441, 442, 443, 70, 444, 167, 168, 169, 340, 341, 1006, 1007, 1008, 1009, 1010, 1011, 1012, 1013, 1014, 1015, 1043, 1044, 1041, 1042] (by decide +kernel) (by decide +kernel)) (goodIn_sub (fun _ h => List.mem_append_left _ (List.mem_append_left _ (List.mem_append_right _ h))) (by decide +kernel))) (goodIn_sub (fun _ h => List.mem_append_left _ (List.mem_append_right _ h)) (by decide +kernel))
set_option maxRecDepth 20000 in
theorem gL_law_L_mean : GoodIn wsL_law (va_wsS RL 167 yL_mean wsL_mean) := goodIn_app (goodIn_of _ (by decide +kernel)) ggL_law_L_mean
set_option maxRecDepth 20000 in
theorem ggL_law_X6_mean : GoodIn wsL_law wsX6_mean := goodIn_r _ [542, 133, 134, 5, 135, 136, 137, 138, 142, 143, 144, 145, 146, 543, 544, 545, 546, 87, 101, 471, 472, 473, 474, 89, 88, 90, 515, 516, 517, 518, 186, 187, 188, 511, 512, 513, 514, 91, 475, 476, 477, 478, 356, 357, 358, 253, 254, 255, 1016, 1017, 1018, 1019, 1020, 1021, 1022, 1023, 1024, 1025, 1026, 1027, 1028, 1029, 1030, 1031, 1032, 1033, 1034] (by decide +kernel) (by decide +kernel)
set_option maxRecDepth 20000 in
theorem gL_law_X6_mean : GoodIn wsL_law (wsV RL 169 RX6 yX6_mean wsX6_mean) := goodIn_app (goodIn_of _ (by decide +kernel)) ggL_law_X6_mean
set_option maxRecDepth 20000 in
theorem ggL_law_L_determinant : GoodIn wsL_law wsL_determinant := goodIn_ca (goodIn_r _ [549, 106, 550, 551, 552, 2, 553, 39, 16, 112, 113, 114, 115, 116, 117, 118, 119, 554, 555, 556, 38, 557, 78, 558, 559, 560, 561, 79, 562, 563, 564, 565, 566, 567, 568, 569, 570, 571, 572, 573, 340, 341, 123, 1006, 1007, 1008, 1009, 1010, 1011, 1012, 1013, 1014, 1015, 1045, 1046, 1041, 1042] (by decide +kernel) (by decide +kernel)) (goodIn_sub (fun _ h => List.mem_append_left _ (List.mem_append_left _ (List.mem_append_right _ h))) (by decide +kernel))
set_option maxRecDepth 20000 in
theorem gL_law_L_determinant : GoodIn wsL_law (va_wsS RL 170 yL_determinant wsL_determinant) := goodIn_app (goodIn_of _ (by decide +kernel)) ggL_law_L_determinant
set_option maxRecDepth 20000 in
theorem ggL_law_X6_determinant : GoodIn wsL_law wsX6_determinant := goodIn_r _ [577, 133, 134, 5, 135, 136, 137, 138, 142, 143, 144, 145, 146, 578, 579, 580, 581, 94, 87, 582, 583, 584, 585, 95, 101, 586, 587, 588, 393, 394, 395, 396, 88, 356, 357, 358, 186, 187, 188, 1016, 1017, 1018, 1019, 1020, 1021, 1022, 1023, 1024, 1025, 1026, 1027, 1028, 1029, 1030, 1031, 1032, 1033, 1034] (by decide +kernel) (by decide +kernel)
set_option maxRecDepth 20000 in
theorem gL_law_X6_determinant : GoodIn wsL_law (wsV RL 172 RX6 yX6_determinant wsX6_determinant) := goodIn_app (goodIn_of _ (by decide +kernel)) ggL_law_X6_determinant
set_option maxRecDepth 20000 in
theorem ggL_law_L_ways : GoodIn wsL_law wsL_ways := goodIn_ca (goodIn_r _ [591, 106, 592, 593, 594, 2, 595, 39, 16, 112, 113, 114, 115, 116, 117, 118, 119, 596, 597, 598, 38, 599, 79, 558, 559, 560, 561, 78, 562, 563, 564, 565, 566, 567, 568, 569, 570, 571, 572, 573, 340, 341, 123, 1006, 1007, 1008, 1009, 1010, 1011, 1012, 1013, 1014, 1015, 1045, 1046, 1041, 1042] (by decide +kernel) (by decide +kernel)) (goodIn_sub (fun _ h => List.mem_append_left _ (List.mem_append_left _ (List.mem_append_right _ h))) (by decide +kernel))
set_option maxRecDepth 20000 in
theorem gL_law_L_ways : GoodIn wsL_law (va_wsS RL 173 yL_ways wsL_ways) := goodIn_app (goodIn_of _ (by decide +kernel)) ggL_law_L_ways
set_option maxRecDepth 20000 in
theorem ggL_law_X6_ways : GoodIn wsL_law wsX6_ways := goodIn_r _ [603, 133, 134, 5, 135, 136, 137, 138, 142, 143, 144, 145, 146, 604, 605, 606, 607, 95, 87, 582, 583, 584, 585, 94, 101, 586, 587, 588, 393, 394, 395, 396, 88, 356, 357, 358, 186, 187, 188, 1016, 1017, 1018, 1019, 1020, 1021, 1022, 1023, 1024, 1025, 1026, 1027, 1028, 1029, 1030, 1031, 1032, 1033, 1034] (by decide +kernel) (by decide +kernel)
set_option maxRecDepth 20000 in
theorem gL_law_X6_ways : GoodIn wsL_law (wsV RL 175 RX6 yX6_ways wsX6_ways) := goodIn_app (goodIn_of _ (by decide +kernel)) ggL_law_X6_ways
set_option maxRecDepth 20000 in
theorem ggL_law_L_solve : GoodIn wsL_law wsL_solve := goodIn_ca (goodIn_ca (goodIn_r _ [610, 106, 325, 611, 612, 613, 2, 614, 330, 331, 16, 19, 31, 615, 307, 308, 309, 112, 113, 114, 115, 116, 117, 118, 119, 616, 617, 618, 123, 619, 620, 621, 28, 622, 69, 70, 64, 623, 201, 168, 202, 624, 625, 626, 627, 628, 346, 347, 629, 630, 631, 632, 444, 167, 169, 340, 341, 1006, 1007, 1008, 1009, 1010, 1011, 1012, 1013, 1014, 1015, 1041, 1042] (by decide +kernel) (by decide +kernel)) (goodIn_sub (fun _ h => List.mem_append_right _ h) (by decide +kernel))) (goodIn_sub (fun _ h => List.mem_append_left _ (List.mem_append_left _ (List.mem_append_right _ h))) (by decide +kernel))
set_option maxRecDepth 20000 in
theorem gL_law_L_solve : GoodIn wsL_law (va_wsS RL 176 yL_solve wsL_solve) := goodIn_app (goodIn_of _ (by decide +kernel)) ggL_law_L_solve
set_option maxRecDepth 20000 in
theorem ggL_law_X6_solve : GoodIn wsL_law wsX6_solve := goodIn_r _ [636, 87, 133, 134, 5, 135, 136, 137, 138, 637, 638, 639, 640, 93, 101, 641, 642, 643, 644, 645, 646, 647, 648, 92, 393, 394, 395, 396, 88, 649, 650, 651, 652, 483, 359, 360, 361, 142, 143, 144, 145, 146, 653, 654, 655, 656, 356, 357, 358, 186, 187, 188, 657, 658, 659, 660, 1016, 1017, 1018, 1019, 1020, 1021, 1022, 1023, 1024, 1025, 1026, 1027, 1028, 1029, 1030, 1031, 1032, 1033, 1034] (by decide +kernel) (by decide +kernel)
set_option maxRecDepth 20000 in
theorem gL_law_X6_solve : GoodIn wsL_law (wsV RL 178 RX6 yX6_solve wsX6_solve) := goodIn_app (goodIn_of _ (by decide +kernel)) ggL_law_X6_solve
set_option maxRecDepth 20000 in
theorem ggL_law_L_project : GoodIn wsL_law wsL_project := goodIn_ca (goodIn_ca (goodIn_r _ [663, 106, 325, 664, 665, 666, 2, 667, 330, 331, 16, 19, 31, 615, 307, 308, 309, 112, 113, 114, 115, 116, 117, 118, 119, 668, 669, 670, 28, 671, 69, 672, 460, 461, 462, 64, 70, 616, 617, 618, 123, 673, 674, 675, 676, 444, 167, 168, 169, 677, 678, 679, 680, 623, 201, 202, 624, 625, 626, 627, 628, 346, 347, 681, 682, 683, 1006, 1007, 1008, 1009, 1010, 1011, 1012, 1013, 1014, 1015, 1041, 1042] (by decide +kernel) (by decide +kernel)) (goodIn_sub (fun _ h => List.mem_append_right _ h) (by decide +kernel))) (goodIn_sub (fun _ h => List.mem_append_left _ (List.mem_append_left _ (List.mem_append_right _ h))) (by decide +kernel))
set_option maxRecDepth 20000 in
theorem gL_law_L_project : GoodIn wsL_law (va_wsS RL 179 yL_project wsL_project) := goodIn_app (goodIn_of _ (by decide +kernel)) ggL_law_L_project
set_option maxRecDepth 20000 in
theorem ggL_law_X6_project : GoodIn wsL_law wsX6_project := goodIn_r _ [687, 87, 93, 133, 134, 5, 135, 136, 137, 138, 688, 689, 690, 691, 101, 641, 642, 643, 644, 645, 646, 647, 648, 92, 393, 394, 395, 396, 88, 186, 187, 188, 649, 650, 651, 652, 483, 359, 360, 361, 142, 143, 144, 145, 146, 657, 658, 659, 660, 1016, 1017, 1018, 1019, 1020, 1021, 1022, 1023, 1024, 1025, 1026, 1027, 1028, 1029, 1030, 1031, 1032, 1033, 1034] (by decide +kernel) (by decide +kernel)
set_option maxRecDepth 20000 in
theorem gL_law_X6_project : GoodIn wsL_law (wsV RL 181 RX6 yX6_project wsX6_project) := goodIn_app (goodIn_of _ (by decide +kernel)) ggL_law_X6_project
set_option maxRecDepth 20000 in
theorem ggL_law_L_tree : GoodIn wsL_law wsL_tree := goodIn_ca (goodIn_r _ [694, 106, 695, 696, 697, 2, 698, 16, 112, 113, 114, 115, 116, 117, 118, 119, 699, 700, 701, 28, 702, 69, 64, 703, 669, 670, 671, 672, 460, 461, 462, 70, 704, 705, 706, 707, 708, 709, 710, 711, 1006, 1007, 1008, 1009, 1010, 1011, 1012, 1013, 1014, 1015, 1041, 1042] (by decide +kernel) (by decide +kernel)) (goodIn_sub (fun _ h => List.mem_append_left _ (List.mem_append_left _ (List.mem_append_right _ h))) (by decide +kernel))
set_option maxRecDepth 20000 in
theorem gL_law_L_tree : GoodIn wsL_law (va_wsS RL 182 yL_tree wsL_tree) := goodIn_app (goodIn_of _ (by decide +kernel)) ggL_law_L_tree
set_option maxRecDepth 20000 in
theorem ggL_law_X6_tree : GoodIn wsL_law wsX6_tree := goodIn_r _ [715, 133, 134, 5, 135, 136, 137, 138, 142, 143, 144, 145, 146, 716, 717, 718, 719, 87, 101, 393, 394, 395, 396, 88, 720, 721, 722, 723, 724, 725, 726, 1016, 1017, 1018, 1019, 1020, 1021, 1022, 1023, 1024, 1025, 1026, 1027, 1028, 1029, 1030, 1031, 1032, 1033, 1034] (by decide +kernel) (by decide +kernel)
set_option maxRecDepth 20000 in
theorem gL_law_X6_tree : GoodIn wsL_law (wsV RL 184 RX6 yX6_tree wsX6_tree) := goodIn_app (goodIn_of _ (by decide +kernel)) ggL_law_X6_tree
set_option maxRecDepth 20000 in
theorem ggL_law_L_edges : GoodIn wsL_law wsL_edges := goodIn_ca (goodIn_ca (goodIn_r _ [729, 106, 107, 730, 731, 732, 2, 733, 127, 128, 23, 115, 116, 117, 118, 119, 124, 125, 126, 1006, 1007, 1008, 1009, 1010, 1011, 1012, 1013, 1014, 1015, 1035, 1036, 1037, 1038, 1039] (by decide +kernel) (by decide +kernel)) (goodIn_sub (fun _ h => List.mem_append_left _ (List.mem_append_right _ h)) (by decide +kernel))) (goodIn_sub (fun _ h => List.mem_append_left _ (List.mem_append_left _ (List.mem_append_right _ h))) (by decide +kernel))
set_option maxRecDepth 20000 in
theorem gL_law_L_edges : GoodIn wsL_law (va_wsS RL 185 yL_edges wsL_edges) := goodIn_app (goodIn_of _ (by decide +kernel)) ggL_law_L_edges
set_option maxRecDepth 20000 in
theorem ggL_law_X6_edges : GoodIn wsL_law wsX6_edges := goodIn_r _ [737, 96, 738, 739, 5, 740, 136, 137, 138, 142, 143, 144, 145, 146, 1016, 1017, 1018, 1019, 1020, 1021, 1022, 1023, 1024, 1025, 1026, 1027, 1028, 1029, 1030, 1031, 1032, 1033, 1034] (by decide +kernel) (by decide +kernel)
set_option maxRecDepth 20000 in
theorem gL_law_X6_edges : GoodIn wsL_law (wsV RL 187 RX6 yX6_edges wsX6_edges) := goodIn_app (goodIn_of _ (by decide +kernel)) ggL_law_X6_edges
set_option maxRecDepth 20000 in
theorem ggL_law_L_chips : GoodIn wsL_law wsL_chips := goodIn_ca (goodIn_ca (goodIn_r _ [743, 106, 107, 744, 745, 746, 2, 747, 23, 115, 116, 117, 118, 119, 124, 125, 126, 127, 128, 1006, 1007, 1008, 1009, 1010, 1011, 1012, 1013, 1014, 1015, 1035, 1036, 1037, 1038, 1039] (by decide +kernel) (by decide +kernel)) (goodIn_sub (fun _ h => List.mem_append_left _ (List.mem_append_left _ (List.mem_append_right _ h))) (by decide +kernel))) (goodIn_sub (fun _ h => List.mem_append_left _ (List.mem_append_right _ h)) (by decide +kernel))
set_option maxRecDepth 20000 in
theorem gL_law_L_chips : GoodIn wsL_law (va_wsS RL 188 yL_chips wsL_chips) := goodIn_app (goodIn_of _ (by decide +kernel)) ggL_law_L_chips
set_option maxRecDepth 20000 in
theorem ggL_law_X6_chips : GoodIn wsL_law wsX6_chips := goodIn_r _ [751, 97, 738, 739, 5, 740, 136, 137, 138, 142, 143, 144, 145, 146, 1016, 1017, 1018, 1019, 1020, 1021, 1022, 1023, 1024, 1025, 1026, 1027, 1028, 1029, 1030, 1031, 1032, 1033, 1034] (by decide +kernel) (by decide +kernel)
set_option maxRecDepth 20000 in
theorem gL_law_X6_chips : GoodIn wsL_law (wsV RL 190 RX6 yX6_chips wsX6_chips) := goodIn_app (goodIn_of _ (by decide +kernel)) ggL_law_X6_chips
set_option maxRecDepth 20000 in
theorem ggL_law_L_chipsAt : GoodIn wsL_law wsL_chipsAt := goodIn_ca (goodIn_r _ [754, 106, 755, 756, 757, 2, 758, 23, 115, 116, 117, 118, 119, 1006, 1007, 1008, 1009, 1010, 1011, 1012, 1013, 1014, 1015, 1035, 1036, 1037, 1038, 1039] (by decide +kernel) (by decide +kernel)) (goodIn_sub (fun _ h => List.mem_append_left _ (List.mem_append_left _ (List.mem_append_right _ h))) (by decide +kernel))
set_option maxRecDepth 20000 in
theorem gL_law_L_chipsAt : GoodIn wsL_law (va_wsS RL 191 yL_chipsAt wsL_chipsAt) := goodIn_app (goodIn_of _ (by decide +kernel)) ggL_law_L_chipsAt
set_option maxRecDepth 20000 in
theorem ggL_law_X6_chipsAt : GoodIn wsL_law wsX6_chipsAt := goodIn_r _ [762, 97, 738, 739, 5, 740, 136, 137, 138, 142, 143, 144, 145, 146, 1016, 1017, 1018, 1019, 1020, 1021, 1022, 1023, 1024, 1025, 1026, 1027, 1028, 1029, 1030, 1031, 1032, 1033, 1034] (by decide +kernel) (by decide +kernel)
set_option maxRecDepth 20000 in
theorem gL_law_X6_chipsAt : GoodIn wsL_law (wsV RL 193 RX6 yX6_chipsAt wsX6_chipsAt) := goodIn_app (goodIn_of _ (by decide +kernel)) ggL_law_X6_chipsAt
set_option maxRecDepth 20000 in
theorem ggL_law_L_fire : GoodIn wsL_law wsL_fire := goodIn_ca (goodIn_ca (goodIn_r _ [765, 106, 325, 766, 767, 768, 2, 769, 330, 331, 23, 615, 307, 308, 309, 115, 116, 117, 118, 119, 770, 771, 772, 22, 773, 45, 47, 774, 775, 776, 777, 778, 779, 780, 781, 782, 783, 784, 785, 786, 787, 788, 789, 790, 44, 791, 792, 793, 794, 346, 347, 123, 1006, 1007, 1008, 1009, 1010, 1011, 1012, 1013, 1014, 1015, 1035, 1036, 1037, 1038, 1039] (by decide +kernel) (by decide +kernel)) (goodIn_sub (fun _ h => List.mem_append_right _ h) (by decide +kernel))) (goodIn_sub (fun _ h => List.mem_append_left _ (List.mem_append_left _ (List.mem_append_right _ h))) (by decide +kernel))
set_option maxRecDepth 20000 in
theorem gL_law_L_fire : GoodIn wsL_law (va_wsS RL 194 yL_fire wsL_fire) := goodIn_app (goodIn_of _ (by decide +kernel)) ggL_law_L_fire
set_option maxRecDepth 20000 in
theorem ggL_law_X6_fire : GoodIn wsL_law wsX6_fire := goodIn_r _ [798, 97, 96, 738, 739, 5, 740, 136, 137, 138, 799, 800, 801, 802, 803, 804, 805, 806, 142, 143, 144, 145, 146, 1016, 1017, 1018, 1019, 1020, 1021, 1022, 1023, 1024, 1025, 1026, 1027, 1028, 1029, 1030, 1031, 1032, 1033, 1034] (by decide +kernel) (by decide +kernel)
set_option maxRecDepth 20000 in
theorem gL_law_X6_fire : GoodIn wsL_law (wsV RL 196 RX6 yX6_fire wsX6_fire) := goodIn_app (goodIn_of _ (by decide +kernel)) ggL_law_X6_fire
set_option maxRecDepth 20000 in
theorem ggL_law_L_reduced : GoodIn wsL_law wsL_reduced := goodIn_ca (goodIn_ca (goodIn_r _ [809, 106, 325, 810, 811, 812, 2, 813, 330, 331, 23, 115, 116, 117, 118, 119, 814, 815, 816, 22, 817, 818, 819, 820, 821, 787, 788, 789, 790, 44, 822, 823, 824, 825, 826, 827, 828, 829, 46, 830, 831, 832, 833, 834, 783, 784, 785, 786, 770, 771, 772, 773, 45, 47, 774, 307, 308, 309, 835, 775, 776, 777, 778, 836, 837, 838, 839, 840, 841, 842, 843, 844, 845, 201, 168, 202, 846, 847, 848, 849, 850, 780, 781, 782, 851, 852, 853, 854, 855, 856, 857, 858, 859, 167, 169, 1006, 1007, 1008, 1009, 1010, 1011, 1012, 1013, 1014, 1015, 1035, 1036, 1037, 1038, 1039] (by decide +kernel) (by decide +kernel)) (goodIn_sub (fun _ h => List.mem_append_right _ h) (by decide +kernel))) (goodIn_sub (fun _ h => List.mem_append_left _ (List.mem_append_left _ (List.mem_append_right _ h))) (by decide +kernel))
set_option maxRecDepth 20000 in
theorem gL_law_L_reduced : GoodIn wsL_law (va_wsS RL 197 yL_reduced wsL_reduced) := goodIn_app (goodIn_of _ (by decide +kernel)) ggL_law_L_reduced
set_option maxRecDepth 20000 in
theorem ggL_law_X6_reduced : GoodIn wsL_law wsX6_reduced := goodIn_r _ [863, 98, 97, 738, 739, 5, 740, 136, 137, 138, 864, 865, 866, 867, 803, 804, 805, 806, 96, 868, 869, 870, 871, 142, 143, 144, 145, 146, 872, 873, 874, 875, 876, 877, 878, 879, 880, 881, 882, 883, 884, 885, 886, 887, 1016, 1017, 1018, 1019, 1020, 1021, 1022, 1023, 1024, 1025, 1026, 1027, 1028, 1029, 1030, 1031, 1032, 1033, 1034] (by decide +kernel) (by decide +kernel)
set_option maxRecDepth 20000 in
theorem gL_law_X6_reduced : GoodIn wsL_law (wsV RL 199 RX6 yX6_reduced wsX6_reduced) := goodIn_app (goodIn_of _ (by decide +kernel)) ggL_law_X6_reduced
set_option maxRecDepth 20000 in
theorem ggL_law_L_rank : GoodIn wsL_law wsL_rank := goodIn_ca (goodIn_r _ [890, 325, 891, 892, 893, 2, 894, 23, 822, 823, 824, 825, 330, 331, 826, 827, 828, 22, 829, 46, 830, 831, 832, 833, 787, 788, 789, 790, 44, 834, 815, 816, 817, 818, 819, 820, 821, 783, 784, 785, 786, 770, 771, 772, 773, 45, 47, 774, 307, 308, 309, 895, 896, 897, 898, 775, 776, 777, 778, 899, 900, 901, 902, 903, 904, 905, 906, 845, 201, 168, 202, 907, 837, 838, 839, 840, 841, 842, 843, 844, 846, 847, 848, 849, 850, 780, 781, 782, 851, 852, 853, 854, 855, 856, 857, 858, 859, 167, 169, 908, 909, 910, 911, 912, 913, 914, 915, 916, 917, 918, 919, 920, 921, 922, 923, 1006, 1007, 1008, 1009, 1010, 1011, 1012, 1013, 1014, 1015, 1035, 1036, 1037, 1038, 1039] (by decide +kernel) (by decide +kernel)) (goodIn_sub (fun _ h => List.mem_append_right _ h) (by decide +kernel))
set_option maxRecDepth 20000 in
theorem gL_law_L_rank : GoodIn wsL_law (va_wsS RL 200 yL_rank wsL_rank) := goodIn_app (goodIn_of _ (by decide +kernel)) ggL_law_L_rank
set_option maxRecDepth 20000 in
theorem ggL_law_X6_rank : GoodIn wsL_law wsX6_rank := goodIn_r _ [927, 928, 929, 930, 5, 931, 932, 933, 934, 935, 99, 97, 864, 865, 866, 867, 803, 804, 805, 806, 96, 868, 869, 870, 871, 936, 937, 938, 939, 142, 143, 144, 145, 146, 940, 941, 942, 943, 98, 872, 873, 874, 875, 876, 877, 878, 879, 880, 881, 882, 883, 884, 885, 886, 887, 944, 945, 946, 947, 948, 949, 950, 951, 1016, 1017, 1018, 1019, 1020, 1021, 1022, 1023, 1024, 1025, 1026, 1027, 1028, 1029, 1030, 1031, 1032, 1033, 1034] (by decide +kernel) (by decide +kernel)
set_option maxRecDepth 20000 in
theorem gL_law_X6_rank : GoodIn wsL_law (wsV RL 203 RX6 yX6_rank wsX6_rank) := goodIn_app (goodIn_of _ (by decide +kernel)) ggL_law_X6_rank
set_option maxRecDepth 20000 in
theorem ggL_law_L_restRank : GoodIn wsL_law wsL_restRank := goodIn_ca (goodIn_r _ [954, 325, 955, 956, 957, 2, 958, 23, 822, 823, 824, 825, 330, 331, 826, 827, 828, 22, 829, 46, 830, 831, 832, 833, 787, 788, 789, 790, 44, 834, 815, 816, 817, 818, 819, 820, 821, 783, 784, 785, 786, 959, 960, 961, 962, 47, 45, 895, 896, 897, 898, 775, 776, 777, 778, 899, 900, 901, 902, 903, 904, 905, 906, 845, 201, 168, 202, 907, 837, 838, 839, 840, 841, 842, 843, 844, 846, 847, 848, 849, 850, 780, 781, 782, 851, 852, 853, 854, 855, 856, 857, 858, 859, 167, 169, 908, 909, 910, 911, 912, 913, 914, 915, 916, 917, 918, 919, 920, 921, 922, 923, 774, 307, 308, 309, 1006, 1007, 1008, 1009, 1010, 1011, 1012, 1013, 1014, 1015, 1035, 1036, 1037, 1038, 1039] (by decide +kernel) (by decide +kernel)) (goodIn_sub (fun _ h => List.mem_append_right _ h) (by decide +kernel))
set_option maxRecDepth 20000 in
theorem gL_law_L_restRank : GoodIn wsL_law (va_wsS RL 204 yL_restRank wsL_restRank) := goodIn_app (goodIn_of _ (by decide +kernel)) ggL_law_L_restRank
set_option maxRecDepth 20000 in
theorem ggL_law_X6_restRank : GoodIn wsL_law wsX6_restRank := goodIn_r _ [966, 928, 929, 930, 5, 931, 932, 933, 934, 935, 99, 97, 864, 865, 866, 867, 803, 804, 805, 806, 96, 868, 869, 870, 871, 936, 937, 938, 939, 142, 143, 144, 145, 146, 940, 941, 942, 943, 98, 872, 873, 874, 875, 876, 877, 878, 879, 880, 881, 882, 883, 884, 885, 886, 887, 944, 945, 946, 947, 948, 949, 950, 951, 1016, 1017, 1018, 1019, 1020, 1021, 1022, 1023, 1024, 1025, 1026, 1027, 1028, 1029, 1030, 1031, 1032, 1033, 1034] (by decide +kernel) (by decide +kernel)
set_option maxRecDepth 20000 in
theorem gL_law_X6_restRank : GoodIn wsL_law (wsV RL 206 RX6 yX6_restRank wsX6_restRank) := goodIn_app (goodIn_of _ (by decide +kernel)) ggL_law_X6_restRank
set_option maxRecDepth 20000 in
theorem ggL_law_L_graph : GoodIn wsL_law wsL_graph := goodIn_ca (goodIn_r _ [969, 107, 970, 971, 972, 2, 973, 23, 124, 125, 126, 127, 128, 974, 918, 919, 22, 920, 834, 815, 816, 817, 818, 819, 820, 821, 787, 788, 789, 790, 44, 975, 914, 915, 916, 976, 910, 911, 912, 913, 917, 826, 827, 828, 829, 46, 830, 831, 832, 833, 783, 784, 785, 786, 770, 771, 772, 773, 45, 47, 774, 307, 308, 309, 775, 776, 777, 778, 899, 900, 901, 902, 977, 978, 979, 980, 48, 981, 982, 983, 984, 985, 845, 201, 168, 202, 986, 987, 988, 989, 1006, 1007, 1008, 1009, 1010, 1011, 1012, 1013, 1014, 1015, 1035, 1036, 1037, 1038, 1039] (by decide +kernel) (by decide +kernel)) (goodIn_sub (fun _ h => List.mem_append_left _ (List.mem_append_right _ h)) (by decide +kernel))
set_option maxRecDepth 20000 in
theorem gL_law_L_graph : GoodIn wsL_law (va_wsS RL 207 yL_graph wsL_graph) := goodIn_app (goodIn_of _ (by decide +kernel)) ggL_law_L_graph
set_option maxRecDepth 20000 in
theorem ggL_law_X6_graph : GoodIn wsL_law wsX6_graph := goodIn_r _ [993, 136, 137, 5, 138, 142, 143, 144, 145, 146, 994, 995, 996, 997, 864, 865, 866, 867, 803, 804, 805, 806, 96, 998, 999, 1000, 1001, 868, 869, 870, 871, 932, 933, 934, 935, 99, 97, 936, 937, 938, 939, 1002, 1003, 1004, 1005, 100, 586, 587, 588, 1016, 1017, 1018, 1019, 1020, 1021, 1022, 1023, 1024, 1025, 1026, 1027, 1028, 1029, 1030, 1031, 1032, 1033, 1034] (by decide +kernel) (by decide +kernel)
set_option maxRecDepth 20000 in
theorem gL_law_X6_graph : GoodIn wsL_law (wsV RL 209 RX6 yX6_graph wsX6_graph) := goodIn_app (goodIn_of _ (by decide +kernel)) ggL_law_X6_graph

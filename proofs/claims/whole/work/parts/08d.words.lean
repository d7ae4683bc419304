set_option maxRecDepth 20000 in
theorem ggL_law_X4_init : GoodIn wsL_law wsX4_init := goodIn_r _ [9, 10, 11, 12, 13, 14, 15, 16, 17, 18, 19, 20, 21, 22, 23, 24, 25, 26, 27, 28, 29, 30, 31, 32, 33, 34, 35, 36, 37, 38, 39, 40, 41, 42, 43, 44, 687, 688, 689, 690, 691, 692, 693, 694, 695, 681, 682, 696, 697, 698, 699, 700, 701, 702, 703, 704, 705, 706, 707, 708, 709, 710, 711, 712, 713, 714, 715, 716, 717, 718, 719, 720, 721, 722, 723] (by decide +kernel) (by decide +kernel)
set_option maxRecDepth 20000 in
theorem gL_law_X4_init : GoodIn wsL_law (wsX4_init) := ggL_law_X4_init
set_option maxRecDepth 20000 in
theorem ggL_law_X6_init : GoodIn wsL_law wsX6_init := goodIn_r _ [47, 48, 11, 12, 22, 49, 50, 51, 52, 53, 54, 55, 56, 57, 58, 59, 60, 61, 62, 63, 64, 65, 66, 67, 68, 69, 70, 71, 72, 73, 74, 683, 684, 685, 686, 724, 725, 726, 727, 728, 729, 730, 731, 732, 733, 734, 735, 736, 737, 738, 739, 740, 741, 742, 743, 744, 745] (by decide +kernel) (by decide +kernel)
set_option maxRecDepth 20000 in
theorem gL_law_X6_init : GoodIn wsL_law (wsX6_init) := ggL_law_X6_init
set_option maxRecDepth 20000 in
theorem ggL_law_L_build : GoodIn wsL_law wsL_build := goodIn_ca (goodIn_ca (goodIn_r _ [78, 79, 80, 81, 82, 83, 2, 84, 85, 86, 87, 88, 16, 89, 90, 91, 92, 93, 94, 95, 15, 96, 97, 25, 98, 99, 100, 101, 102, 103, 104, 105, 31, 106, 107, 108, 681, 682, 687, 688, 689, 690, 691, 692, 693, 694, 695, 696, 697, 698, 699, 700, 701, 702] (by decide +kernel) (by decide +kernel)) (goodIn_sub (fun _ h => List.mem_append_left _ (List.mem_append_left _ (List.mem_append_right _ h))) (by decide +kernel))) (goodIn_sub (fun _ h => List.mem_append_left _ (List.mem_append_right _ h)) (by decide +kernel))
set_option maxRecDepth 20000 in
theorem gL_law_L_build : GoodIn wsL_law (va_wsS RL 65 yL_build wsL_build) := goodIn_app (goodIn_of _ (by decide +kernel)) ggL_law_L_build
set_option maxRecDepth 20000 in
theorem ggL_law_X6_build : GoodIn wsL_law wsX6_build := goodIn_r _ [112, 113, 53, 114, 115, 5, 116, 117, 118, 119, 120, 683, 684, 685, 686, 724, 725, 726, 727, 728, 729, 730, 731, 732, 733, 734, 735, 736, 737, 738, 739, 740, 741, 742, 743, 744, 745] (by decide +kernel) (by decide +kernel)
set_option maxRecDepth 20000 in
theorem gL_law_X6_build : GoodIn wsL_law (wsV RL 70 RX6 yX6_build wsX6_build) := goodIn_app (goodIn_of _ (by decide +kernel)) ggL_law_X6_build
set_option maxRecDepth 20000 in
theorem ggL_law_X6_thrown : GoodIn wsL_law wsX6_thrown := goodIn_r _ [124, 113, 683, 684, 685, 686] (by decide +kernel) (by decide +kernel)
set_option maxRecDepth 20000 in
theorem gL_law_X6_thrown : GoodIn wsL_law (wsV RL 71 RX6 yX6_thrown wsX6_thrown) := goodIn_app (goodIn_of _ (by decide +kernel)) ggL_law_X6_thrown
set_option maxRecDepth 20000 in
theorem ggL_law_L_bring : GoodIn wsL_law wsL_bring := goodIn_ca (goodIn_ca (goodIn_ca (goodIn_r _ [127, 128, 79, 80, 129, 130, 131, 2, 132, 85, 86, 87, 88, 16, 133, 134, 135, 136, 137, 138, 139, 140, 141, 142, 15, 143, 97, 90, 91, 92, 144, 145, 146, 147, 148, 27, 149, 150, 151, 33, 152, 153, 154, 155, 156, 157, 158, 159, 160, 161, 162, 681, 682, 687, 688, 689, 690, 691, 692, 693, 694, 695, 703, 704, 705, 706, 707, 708] (by decide +kernel) (by decide +kernel)) (goodIn_sub (fun _ h => List.mem_append_left _ (List.mem_append_left _ (List.mem_append_right _ h))) (by decide +kernel))) (goodIn_sub (fun _ h => List.mem_append_left _ (List.mem_append_right _ h)) (by decide +kernel))) (goodIn_sub (fun _ h => List.mem_append_right _ h) (by decide +kernel))
set_option maxRecDepth 20000 in
theorem gL_law_L_bring : GoodIn wsL_law (va_wsS RL 75 yL_bring wsL_bring) := goodIn_app (goodIn_of _ (by decide +kernel)) ggL_law_L_bring
set_option maxRecDepth 20000 in
theorem ggL_law_X6_bring : GoodIn wsL_law wsX6_bring := goodIn_r _ [166, 113, 53, 167, 168, 169, 5, 170, 114, 115, 116, 117, 118, 119, 120, 171, 172, 173, 52, 174, 62, 175, 63, 64, 65, 66, 67, 683, 684, 685, 686, 724, 725, 726, 727, 728, 729, 730, 731, 732, 733, 734, 735, 736, 737, 738, 739, 740, 741, 742, 743, 744, 745] (by decide +kernel) (by decide +kernel)
set_option maxRecDepth 20000 in
theorem gL_law_X6_bring : GoodIn wsL_law (wsV RL 77 RX6 yX6_bring wsX6_bring) := goodIn_app (goodIn_of _ (by decide +kernel)) ggL_law_X6_bring
set_option maxRecDepth 20000 in
theorem ggL_law_L_addCitizen : GoodIn wsL_law wsL_addCitizen := goodIn_ca (goodIn_ca (goodIn_ca (goodIn_r _ [178, 128, 79, 80, 179, 180, 181, 2, 182, 85, 86, 87, 88, 16, 183, 134, 135, 136, 137, 138, 139, 140, 141, 142, 15, 143, 97, 184, 185, 186, 90, 91, 92, 187, 188, 189, 190, 191, 29, 192, 193, 194, 195, 196, 197, 198, 25, 98, 199, 200, 201, 202, 203, 204, 205, 206, 207, 208, 209, 35, 210, 211, 212, 213, 214, 215, 216, 217, 681, 682, 687, 688, 689, 690, 691, 692, 693, 694, 695, 709, 710, 711, 712, 713, 714, 715, 716, 717, 718, 719, 720, 721, 722, 723, 696, 697, 698, 699, 700, 701, 702] (by decide +kernel) (by decide +kernel)) (goodIn_sub (fun _ h => List.mem_append_left _ (List.mem_append_left _ (List.mem_append_right _ h))) (by decide +kernel))) (goodIn_sub (fun _ h => List.mem_append_left _ (List.mem_append_right _ h)) (by decide +kernel))) (goodIn_sub (fun _ h => List.mem_append_right _ h) (by decide +kernel))
set_option maxRecDepth 20000 in
theorem gL_law_L_addCitizen : GoodIn wsL_law (va_wsS RL 78 yL_addCitizen wsL_addCitizen) := goodIn_app (goodIn_of _ (by decide +kernel)) ggL_law_L_addCitizen
set_option maxRecDepth 20000 in
theorem ggL_law_X6_addCitizen : GoodIn wsL_law wsX6_addCitizen := goodIn_r _ [221, 113, 53, 22, 222, 223, 224, 225, 167, 168, 169, 5, 170, 114, 115, 116, 117, 118, 119, 120, 683, 684, 685, 686, 724, 725, 726, 727, 728, 729, 730, 731, 732, 733, 734, 735, 736, 737, 738, 739, 740, 741, 742, 743, 744, 745] (by decide +kernel) (by decide +kernel)
set_option maxRecDepth 20000 in
theorem gL_law_X6_addCitizen : GoodIn wsL_law (wsV RL 81 RX6 yX6_addCitizen wsX6_addCitizen) := goodIn_app (goodIn_of _ (by decide +kernel)) ggL_law_X6_addCitizen
set_option maxRecDepth 20000 in
theorem ggL_law_L_setRain : GoodIn wsL_law wsL_setRain := goodIn_ca (goodIn_ca (goodIn_r _ [228, 128, 79, 229, 230, 231, 2, 232, 85, 86, 16, 233, 234, 235, 236, 138, 139, 184, 185, 186, 90, 91, 92, 681, 682, 687, 688, 689, 690, 691, 692, 693, 694, 695] (by decide +kernel) (by decide +kernel)) (goodIn_sub (fun _ h => List.mem_append_left _ (List.mem_append_left _ (List.mem_append_right _ h))) (by decide +kernel))) (goodIn_sub (fun _ h => List.mem_append_right _ h) (by decide +kernel))
set_option maxRecDepth 20000 in
theorem gL_law_L_setRain : GoodIn wsL_law (va_wsS RL 82 yL_setRain wsL_setRain) := goodIn_app (goodIn_of _ (by decide +kernel)) ggL_law_L_setRain
set_option maxRecDepth 20000 in
theorem ggL_law_X6_setRain : GoodIn wsL_law wsX6_setRain := goodIn_r _ [240, 113, 49, 114, 115, 5, 116, 117, 118, 119, 120, 683, 684, 685, 686] (by decide +kernel) (by decide +kernel)
set_option maxRecDepth 20000 in
theorem gL_law_X6_setRain : GoodIn wsL_law (wsV RL 84 RX6 yX6_setRain wsX6_setRain) := goodIn_app (goodIn_of _ (by decide +kernel)) ggL_law_X6_setRain
set_option maxRecDepth 20000 in
theorem ggL_law_L_setDemand : GoodIn wsL_law wsL_setDemand := goodIn_ca (goodIn_ca (goodIn_r _ [243, 128, 79, 244, 245, 246, 2, 247, 85, 86, 16, 248, 249, 134, 135, 136, 137, 138, 139, 140, 141, 142, 15, 143, 97, 90, 91, 92, 681, 682, 687, 688, 689, 690, 691, 692, 693, 694, 695, 696, 697, 698, 699, 700, 701, 702] (by decide +kernel) (by decide +kernel)) (goodIn_sub (fun _ h => List.mem_append_left _ (List.mem_append_left _ (List.mem_append_right _ h))) (by decide +kernel))) (goodIn_sub (fun _ h => List.mem_append_right _ h) (by decide +kernel))
set_option maxRecDepth 20000 in
theorem gL_law_L_setDemand : GoodIn wsL_law (va_wsS RL 85 yL_setDemand wsL_setDemand) := goodIn_app (goodIn_of _ (by decide +kernel)) ggL_law_L_setDemand
set_option maxRecDepth 20000 in
theorem ggL_law_X6_setDemand : GoodIn wsL_law wsX6_setDemand := goodIn_r _ [253, 113, 53, 167, 168, 169, 5, 170, 114, 115, 116, 117, 118, 119, 120, 683, 684, 685, 686, 724, 725, 726, 727, 728, 729, 730, 731, 732, 733, 734, 735, 736, 737, 738, 739, 740, 741, 742, 743, 744, 745] (by decide +kernel) (by decide +kernel)
set_option maxRecDepth 20000 in
theorem gL_law_X6_setDemand : GoodIn wsL_law (wsV RL 87 RX6 yX6_setDemand wsX6_setDemand) := goodIn_app (goodIn_of _ (by decide +kernel)) ggL_law_X6_setDemand
set_option maxRecDepth 20000 in
theorem ggL_law_L_shelter : GoodIn wsL_law wsL_shelter := goodIn_ca (goodIn_r _ [256, 128, 257, 258, 259, 2, 260, 16, 134, 135, 136, 137, 138, 139, 140, 141, 142, 15, 143, 97, 261, 262, 263, 90, 91, 92, 264, 265, 266, 267, 25, 98, 268, 269, 270, 271, 206, 272, 273, 274, 275, 148, 27, 276, 277, 278, 33, 279, 160, 161, 280, 281, 282, 283, 191, 29, 284, 285, 286, 287, 288, 289, 681, 682, 687, 688, 689, 690, 691, 692, 693, 694, 695, 696, 697, 698, 699, 700, 701, 702, 703, 704, 705, 706, 707, 708, 709, 710, 711, 712, 713, 714, 715, 716, 717, 718, 719, 720, 721, 722, 723] (by decide +kernel) (by decide +kernel)) (goodIn_sub (fun _ h => List.mem_append_right _ h) (by decide +kernel))
set_option maxRecDepth 20000 in
theorem gL_law_L_shelter : GoodIn wsL_law (va_wsS RL 88 yL_shelter wsL_shelter) := goodIn_app (goodIn_of _ (by decide +kernel)) ggL_law_L_shelter
set_option maxRecDepth 20000 in
theorem ggL_law_X6_shelter : GoodIn wsL_law wsX6_shelter := goodIn_r _ [293, 113, 167, 168, 169, 5, 170, 53, 114, 115, 116, 294, 295, 296, 297, 22, 298, 299, 300, 52, 301, 175, 62, 63, 302, 303, 304, 305, 64, 117, 118, 119, 120, 683, 684, 685, 686, 724, 725, 726, 727, 728, 729, 730, 731, 732, 733, 734, 735, 736, 737, 738, 739, 740, 741, 742, 743, 744, 745] (by decide +kernel) (by decide +kernel)
set_option maxRecDepth 20000 in
theorem gL_law_X6_shelter : GoodIn wsL_law (wsV RL 90 RX6 yX6_shelter wsX6_shelter) := goodIn_app (goodIn_of _ (by decide +kernel)) ggL_law_X6_shelter
set_option maxRecDepth 20000 in
theorem ggL_law_L_umbrella : GoodIn wsL_law wsL_umbrella := goodIn_ca (goodIn_r _ [308, 128, 309, 310, 311, 2, 312, 16, 313, 314, 315, 316, 317, 138, 139, 318, 319, 320, 15, 321, 148, 261, 262, 263, 90, 91, 92, 322, 323, 324, 33, 325, 160, 161, 153, 162, 154, 155, 681, 682, 687, 688, 689, 690, 691, 692, 693, 694, 695, 703, 704, 705, 706, 707, 708] (by decide +kernel) (by decide +kernel)) (goodIn_sub (fun _ h => List.mem_append_right _ h) (by decide +kernel))
set_option maxRecDepth 20000 in
theorem gL_law_L_umbrella : GoodIn wsL_law (va_wsS RL 91 yL_umbrella wsL_umbrella) := goodIn_app (goodIn_of _ (by decide +kernel)) ggL_law_L_umbrella
set_option maxRecDepth 20000 in
theorem ggL_law_X6_umbrella : GoodIn wsL_law wsX6_umbrella := goodIn_r _ [329, 113, 53, 114, 115, 5, 116, 330, 331, 332, 333, 22, 117, 118, 119, 120, 683, 684, 685, 686, 724, 725, 726, 727, 728, 729, 730, 731, 732, 733, 734, 735, 736, 737, 738, 739, 740, 741, 742, 743, 744, 745] (by decide +kernel) (by decide +kernel)
set_option maxRecDepth 20000 in
theorem gL_law_X6_umbrella : GoodIn wsL_law (wsV RL 93 RX6 yX6_umbrella wsX6_umbrella) := goodIn_app (goodIn_of _ (by decide +kernel)) ggL_law_X6_umbrella
set_option maxRecDepth 20000 in
theorem ggL_law_L_citizen : GoodIn wsL_law wsL_citizen := goodIn_ca (goodIn_r _ [336, 128, 337, 338, 339, 2, 340, 16, 341, 342, 343, 344, 345, 138, 139, 346, 347, 348, 15, 349, 191, 261, 262, 263, 90, 91, 92, 350, 351, 352, 35, 353, 211, 212, 214, 354, 216, 217, 355, 356, 357, 358, 681, 682, 687, 688, 689, 690, 691, 692, 693, 694, 695, 709, 710, 711, 712, 713, 714, 715, 716, 717, 718, 719, 720, 721, 722, 723] (by decide +kernel) (by decide +kernel)) (goodIn_sub (fun _ h => List.mem_append_right _ h) (by decide +kernel))
set_option maxRecDepth 20000 in
theorem gL_law_L_citizen : GoodIn wsL_law (va_wsS RL 94 yL_citizen wsL_citizen) := goodIn_app (goodIn_of _ (by decide +kernel)) ggL_law_L_citizen
set_option maxRecDepth 20000 in
theorem ggL_law_X6_citizen : GoodIn wsL_law wsX6_citizen := goodIn_r _ [362, 113, 363, 364, 365, 5, 366, 53, 114, 115, 116, 367, 368, 369, 370, 22, 117, 118, 119, 120, 683, 684, 685, 686, 724, 725, 726, 727, 728, 729, 730, 731, 732, 733, 734, 735, 736, 737, 738, 739, 740, 741, 742, 743, 744, 745] (by decide +kernel) (by decide +kernel)
set_option maxRecDepth 20000 in
theorem gL_law_X6_citizen : GoodIn wsL_law (wsV RL 96 RX6 yX6_citizen wsX6_citizen) := goodIn_app (goodIn_of _ (by decide +kernel)) ggL_law_X6_citizen
set_option maxRecDepth 20000 in
theorem ggL_law_L_count : GoodIn wsL_law wsL_count := goodIn_ca (goodIn_r _ [373, 128, 374, 375, 376, 2, 377, 16, 261, 262, 263, 138, 139, 90, 91, 92, 378, 379, 380, 15, 381, 382, 97, 148, 191, 383, 384, 385, 386, 387, 27, 388, 280, 281, 282, 283, 29, 284, 389, 390, 391, 392, 393, 681, 682, 687, 688, 689, 690, 691, 692, 693, 694, 695, 703, 704, 705, 706, 707, 708, 709, 710, 711, 712, 713, 714, 715, 716, 717, 718, 719, 720, 721, 722, 723] (by decide +kernel) (by decide +kernel)) (goodIn_sub (fun _ h => List.mem_append_right _ h) (by decide +kernel))
set_option maxRecDepth 20000 in
theorem gL_law_L_count : GoodIn wsL_law (va_wsS RL 97 yL_count wsL_count) := goodIn_app (goodIn_of _ (by decide +kernel)) ggL_law_L_count
set_option maxRecDepth 20000 in
theorem ggL_law_X6_count : GoodIn wsL_law wsX6_count := goodIn_r _ [397, 113, 114, 115, 5, 116, 398, 399, 400, 401, 22, 53, 402, 403, 404, 52, 405, 175, 62, 406, 407, 408, 409, 410, 74, 73, 69, 117, 118, 119, 120, 683, 684, 685, 686, 724, 725, 726, 727, 728, 729, 730, 731, 732, 733, 734, 735, 736, 737, 738, 739, 740, 741, 742, 743, 744, 745] (by decide +kernel) (by decide +kernel)
set_option maxRecDepth 20000 in
theorem gL_law_X6_count : GoodIn wsL_law (wsV RL 100 RX6 yX6_count wsX6_count) := goodIn_app (goodIn_of _ (by decide +kernel)) ggL_law_X6_count
set_option maxRecDepth 20000 in
theorem ggL_law_L_pass : GoodIn wsL_law wsL_pass := goodIn_ca (goodIn_r _ [413, 79, 414, 415, 416, 2, 417, 16, 418, 419, 420, 85, 86, 90, 91, 92, 421, 422, 423, 15, 424, 382, 23, 425, 426, 427, 428, 429, 430, 431, 432, 148, 27, 433, 434, 435, 33, 436, 162, 160, 153, 155, 156, 157, 158, 159, 161, 437, 438, 439, 440, 191, 29, 441, 442, 443, 35, 444, 214, 211, 445, 212, 446, 447, 448, 449, 450, 284, 25, 451, 268, 452, 453, 454, 269, 206, 141, 142, 143, 97, 285, 286, 287, 288, 289, 276, 277, 278, 279, 455, 319, 320, 321, 456, 457, 458, 31, 459, 460, 461, 462, 463, 464, 465, 154, 466, 467, 468, 469, 215, 213, 354, 470, 471, 472, 473, 474, 475, 476, 477, 478, 393, 479, 480, 481, 482, 483, 484, 485, 486, 487, 488, 489, 490, 491, 492, 493, 356, 494, 495, 496, 497, 498, 217, 499, 500, 201, 501, 502, 503, 504, 505, 357, 506, 204, 205, 507, 508, 509, 510, 511, 512, 513, 514, 515, 516, 383, 272, 273, 274, 275, 517, 518, 519, 520, 521, 522, 523, 524, 108, 525, 526, 681, 682, 687, 688, 689, 690, 691, 692, 693, 694, 695, 703, 704, 705, 706, 707, 708, 709, 710, 711, 712, 713, 714, 715, 716, 717, 718, 719, 720, 721, 722, 723, 696, 697, 698, 699, 700, 701, 702] (by decide +kernel) (by decide +kernel)) (goodIn_sub (fun _ h => List.mem_append_left _ (List.mem_append_left _ (List.mem_append_right _ h))) (by decide +kernel))
set_option maxRecDepth 20000 in
theorem gL_law_L_pass : GoodIn wsL_law (va_wsS RL 101 yL_pass wsL_pass) := goodIn_app (goodIn_of _ (by decide +kernel)) ggL_law_L_pass
set_option maxRecDepth 20000 in
theorem ggL_law_X6_pass_ : GoodIn wsL_law wsX6_pass_ := goodIn_r _ [530, 113, 53, 114, 115, 5, 116, 531, 532, 533, 534, 535, 536, 52, 537, 538, 175, 65, 410, 69, 68, 57, 539, 540, 541, 542, 63, 62, 67, 64, 543, 544, 545, 546, 66, 72, 74, 61, 70, 71, 59, 547, 200, 201, 202, 548, 204, 205, 549, 550, 551, 552, 73, 60, 553, 303, 304, 305, 554, 555, 556, 557, 558, 559, 560, 561, 562, 500, 501, 563, 564, 565, 566, 567, 568, 569, 299, 300, 301, 570, 571, 572, 573, 117, 118, 119, 120, 683, 684, 685, 686, 724, 725, 726, 727, 728, 729, 730, 731, 732, 733, 734, 735, 736, 737, 738, 739, 740, 741, 742, 743, 744, 745] (by decide +kernel) (by decide +kernel)
set_option maxRecDepth 20000 in
theorem gL_law_X6_pass_ : GoodIn wsL_law (wsV RL 103 RX6 yX6_pass_ wsX6_pass_) := goodIn_app (goodIn_of _ (by decide +kernel)) ggL_law_X6_pass_
set_option maxRecDepth 20000 in
theorem ggL_law_L_foresee : GoodIn wsL_law wsL_foresee := goodIn_ca (goodIn_ca (goodIn_r _ [576, 79, 128, 577, 578, 579, 2, 580, 17, 16, 418, 419, 420, 85, 86, 90, 91, 92, 261, 262, 263, 138, 139, 581, 582, 583, 15, 584, 23, 585, 223, 224, 225, 382, 97, 148, 191, 383, 25, 27, 29, 586, 587, 588, 31, 589, 107, 108, 590, 511, 460, 512, 461, 591, 592, 593, 33, 594, 160, 161, 153, 162, 154, 155, 595, 596, 597, 35, 598, 211, 212, 445, 446, 493, 213, 214, 215, 354, 216, 217, 355, 356, 357, 358, 421, 422, 423, 424, 425, 426, 427, 428, 429, 430, 431, 432, 433, 434, 435, 436, 156, 157, 158, 159, 437, 438, 439, 440, 441, 442, 443, 444, 447, 448, 449, 450, 284, 451, 268, 452, 453, 454, 269, 206, 141, 142, 143, 285, 286, 287, 288, 289, 276, 277, 278, 279, 455, 319, 320, 321, 456, 457, 458, 459, 462, 463, 464, 465, 466, 467, 468, 469, 470, 471, 472, 473, 474, 475, 476, 477, 478, 393, 479, 480, 481, 482, 483, 484, 485, 486, 487, 488, 489, 490, 491, 492, 494, 495, 496, 497, 498, 499, 500, 201, 501, 502, 503, 504, 505, 506, 204, 205, 507, 508, 509, 510, 513, 514, 515, 516, 272, 273, 274, 275, 517, 518, 519, 520, 521, 522, 523, 524, 525, 526, 599, 390, 391, 392, 600, 385, 386, 387, 388, 601, 602, 603, 604, 681, 682, 687, 688, 689, 690, 691, 692, 693, 694, 695, 696, 697, 698, 699, 700, 701, 702, 703, 704, 705, 706, 707, 708, 709, 710, 711, 712, 713, 714, 715, 716, 717, 718, 719, 720, 721, 722, 723] (by decide +kernel) (by decide +kernel)) (goodIn_sub (fun _ h => List.mem_append_left _ (List.mem_append_left _ (List.mem_append_right _ h))) (by decide +kernel))) (goodIn_sub (fun _ h => List.mem_append_right _ h) (by decide +kernel))
set_option maxRecDepth 20000 in
theorem gL_law_L_foresee : GoodIn wsL_law (va_wsS RL 104 yL_foresee wsL_foresee) := goodIn_app (goodIn_of _ (by decide +kernel)) ggL_law_L_foresee
set_option maxRecDepth 20000 in
theorem ggL_law_X6_foresee : GoodIn wsL_law wsX6_foresee := goodIn_r _ [608, 113, 54, 53, 114, 115, 5, 116, 117, 118, 119, 120, 609, 610, 611, 52, 612, 538, 567, 175, 410, 568, 59, 60, 61, 62, 63, 64, 65, 66, 67, 68, 69, 70, 71, 72, 73, 74, 613, 614, 615, 616, 617, 223, 224, 225, 531, 532, 533, 534, 535, 536, 537, 57, 539, 540, 541, 542, 543, 544, 545, 546, 547, 200, 201, 202, 548, 204, 205, 549, 550, 551, 552, 553, 303, 304, 305, 554, 555, 556, 557, 558, 559, 560, 561, 562, 500, 501, 563, 564, 565, 566, 569, 299, 300, 301, 570, 571, 572, 573, 406, 407, 408, 409, 402, 403, 404, 405, 683, 684, 685, 686, 724, 725, 726, 727, 728, 729, 730, 731, 732, 733, 734, 735, 736, 737, 738, 739, 740, 741, 742, 743, 744, 745] (by decide +kernel) (by decide +kernel)
set_option maxRecDepth 20000 in
theorem gL_law_X6_foresee : GoodIn wsL_law (wsV RL 106 RX6 yX6_foresee wsX6_foresee) := goodIn_app (goodIn_of _ (by decide +kernel)) ggL_law_X6_foresee
set_option maxRecDepth 20000 in
theorem ggL_law_L_advise : GoodIn wsL_law wsL_advise := goodIn_ca (goodIn_ca (goodIn_r _ [620, 79, 80, 621, 622, 623, 2, 624, 87, 88, 16, 133, 89, 418, 419, 420, 85, 86, 90, 91, 92, 625, 626, 627, 628, 17, 581, 582, 583, 15, 584, 23, 585, 223, 224, 225, 382, 97, 148, 191, 383, 25, 27, 29, 586, 587, 588, 31, 589, 107, 108, 590, 511, 460, 512, 461, 591, 592, 593, 33, 594, 160, 161, 153, 162, 154, 155, 595, 596, 597, 35, 598, 211, 212, 445, 446, 493, 213, 214, 215, 354, 216, 217, 355, 356, 357, 358, 144, 145, 146, 147, 149, 150, 151, 152, 156, 157, 158, 159, 421, 422, 423, 424, 425, 426, 427, 428, 429, 430, 431, 432, 433, 434, 435, 436, 437, 438, 439, 440, 441, 442, 443, 444, 447, 448, 449, 450, 284, 451, 268, 452, 453, 454, 269, 206, 141, 142, 143, 285, 286, 287, 288, 289, 276, 277, 278, 279, 455, 319, 320, 321, 456, 457, 458, 459, 462, 463, 464, 465, 466, 467, 468, 469, 470, 471, 472, 473, 474, 475, 476, 477, 478, 393, 479, 480, 481, 482, 483, 484, 485, 486, 487, 488, 489, 490, 491, 492, 494, 495, 496, 497, 498, 499, 500, 201, 501, 502, 503, 504, 505, 506, 204, 205, 507, 508, 509, 510, 513, 514, 515, 516, 272, 273, 274, 275, 517, 518, 519, 520, 521, 522, 523, 524, 525, 526, 599, 390, 391, 392, 681, 682, 687, 688, 689, 690, 691, 692, 693, 694, 695, 696, 697, 698, 699, 700, 701, 702, 703, 704, 705, 706, 707, 708, 709, 710, 711, 712, 713, 714, 715, 716, 717, 718, 719, 720, 721, 722, 723] (by decide +kernel) (by decide +kernel)) (goodIn_sub (fun _ h => List.mem_append_left _ (List.mem_append_right _ h)) (by decide +kernel))) (goodIn_sub (fun _ h => List.mem_append_left _ (List.mem_append_left _ (List.mem_append_right _ h))) (by decide +kernel))
set_option maxRecDepth 20000 in
theorem gL_law_L_advise : GoodIn wsL_law (va_wsS RL 107 yL_advise wsL_advise) := goodIn_app (goodIn_of _ (by decide +kernel)) ggL_law_L_advise
set_option maxRecDepth 20000 in
theorem ggL_law_X6_advise : GoodIn wsL_law wsX6_advise := goodIn_r _ [632, 113, 53, 54, 114, 115, 5, 116, 117, 118, 119, 120, 609, 610, 611, 52, 612, 538, 567, 175, 410, 568, 59, 60, 61, 62, 63, 64, 65, 66, 67, 68, 69, 70, 71, 72, 73, 74, 613, 614, 615, 616, 617, 223, 224, 225, 531, 532, 533, 534, 535, 536, 537, 57, 539, 540, 541, 542, 543, 544, 545, 546, 547, 200, 201, 202, 548, 204, 205, 549, 550, 551, 552, 553, 303, 304, 305, 554, 555, 556, 557, 558, 559, 560, 561, 562, 500, 501, 563, 564, 565, 566, 569, 299, 300, 301, 570, 571, 572, 573, 406, 407, 408, 409, 171, 172, 173, 174, 683, 684, 685, 686, 724, 725, 726, 727, 728, 729, 730, 731, 732, 733, 734, 735, 736, 737, 738, 739, 740, 741, 742, 743, 744, 745] (by decide +kernel) (by decide +kernel)
set_option maxRecDepth 20000 in
theorem gL_law_X6_advise : GoodIn wsL_law (wsV RL 109 RX6 yX6_advise wsX6_advise) := goodIn_app (goodIn_of _ (by decide +kernel)) ggL_law_X6_advise
set_option maxRecDepth 20000 in
theorem ggL_law_L_wouldGet : GoodIn wsL_law wsL_wouldGet := goodIn_ca (goodIn_r _ [635, 128, 636, 637, 638, 2, 639, 16, 341, 640, 248, 249, 342, 343, 344, 345, 138, 139, 346, 347, 348, 15, 349, 191, 134, 135, 136, 137, 140, 141, 142, 143, 97, 641, 286, 287, 288, 148, 27, 289, 276, 277, 278, 33, 279, 160, 161, 681, 682, 687, 688, 689, 690, 691, 692, 693, 694, 695, 709, 710, 711, 712, 713, 714, 715, 716, 717, 718, 719, 720, 721, 722, 723, 696, 697, 698, 699, 700, 701, 702, 703, 704, 705, 706, 707, 708] (by decide +kernel) (by decide +kernel)) (goodIn_sub (fun _ h => List.mem_append_right _ h) (by decide +kernel))
set_option maxRecDepth 20000 in
theorem gL_law_L_wouldGet : GoodIn wsL_law (va_wsS RL 110 yL_wouldGet wsL_wouldGet) := goodIn_app (goodIn_of _ (by decide +kernel)) ggL_law_L_wouldGet
set_option maxRecDepth 20000 in
theorem ggL_law_X6_wouldGet : GoodIn wsL_law wsX6_wouldGet := goodIn_r _ [645, 113, 53, 363, 364, 365, 5, 366, 114, 115, 116, 167, 168, 169, 170, 646, 550, 551, 52, 552, 73, 60, 553, 303, 304, 305, 175, 62, 63, 64, 683, 684, 685, 686, 724, 725, 726, 727, 728, 729, 730, 731, 732, 733, 734, 735, 736, 737, 738, 739, 740, 741, 742, 743, 744, 745] (by decide +kernel) (by decide +kernel)
set_option maxRecDepth 20000 in
theorem gL_law_X6_wouldGet : GoodIn wsL_law (wsV RL 112 RX6 yX6_wouldGet wsX6_wouldGet) := goodIn_app (goodIn_of _ (by decide +kernel)) ggL_law_X6_wouldGet
set_option maxRecDepth 20000 in
theorem ggL_law_L_lasts : GoodIn wsL_law wsL_lasts := goodIn_ca (goodIn_r _ [649, 128, 650, 651, 652, 2, 653, 16, 313, 654, 655, 233, 314, 315, 316, 317, 138, 139, 318, 319, 320, 15, 321, 148, 234, 235, 236, 184, 185, 186, 90, 91, 92, 656, 426, 427, 428, 681, 682, 687, 688, 689, 690, 691, 692, 693, 694, 695, 703, 704, 705, 706, 707, 708] (by decide +kernel) (by decide +kernel)) (goodIn_sub (fun _ h => List.mem_append_right _ h) (by decide +kernel))
set_option maxRecDepth 20000 in
theorem gL_law_L_lasts : GoodIn wsL_law (va_wsS RL 113 yL_lasts wsL_lasts) := goodIn_app (goodIn_of _ (by decide +kernel)) ggL_law_L_lasts
set_option maxRecDepth 20000 in
theorem ggL_law_X6_lasts : GoodIn wsL_law wsX6_lasts := goodIn_r _ [660, 113, 53, 49, 114, 115, 5, 116, 117, 118, 119, 120, 683, 684, 685, 686, 724, 725, 726, 727, 728, 729, 730, 731, 732, 733, 734, 735, 736, 737, 738, 739, 740, 741, 742, 743, 744, 745] (by decide +kernel) (by decide +kernel)
set_option maxRecDepth 20000 in
theorem gL_law_X6_lasts : GoodIn wsL_law (wsV RL 115 RX6 yX6_lasts wsX6_lasts) := goodIn_app (goodIn_of _ (by decide +kernel)) ggL_law_X6_lasts
set_option maxRecDepth 20000 in
theorem ggL_law_X4_trust : GoodIn wsL_law wsX4_trust := goodIn_r _ [664, 16, 183, 601, 602, 603, 15, 604, 191, 29, 451, 681, 682, 687, 688, 689, 690, 691, 692, 693, 694, 695, 709, 710, 711, 712, 713, 714, 715, 716, 717, 718, 719, 720, 721, 722, 723] (by decide +kernel) (by decide +kernel)
set_option maxRecDepth 20000 in
theorem gL_law_X4_trust : GoodIn wsL_law (wsV RL 116 RX4 yX4_trust wsX4_trust) := goodIn_app (goodIn_of _ (by decide +kernel)) ggL_law_X4_trust
set_option maxRecDepth 20000 in
theorem ggL_law_X6_trust : GoodIn wsL_law wsX6_trust := goodIn_r _ [668, 113, 53, 406, 407, 408, 52, 409, 410, 74, 73, 69, 683, 684, 685, 686, 724, 725, 726, 727, 728, 729, 730, 731, 732, 733, 734, 735, 736, 737, 738, 739, 740, 741, 742, 743, 744, 745] (by decide +kernel) (by decide +kernel)
set_option maxRecDepth 20000 in
theorem gL_law_X6_trust : GoodIn wsL_law (wsV RL 120 RX6 yX6_trust wsX6_trust) := goodIn_app (goodIn_of _ (by decide +kernel)) ggL_law_X6_trust
set_option maxRecDepth 20000 in
theorem ggL_law_X4_digest : GoodIn wsL_law wsX4_digest := goodIn_r _ [672, 673, 674, 16, 233, 89, 133, 313, 183, 341, 378, 379, 380, 15, 381, 382, 97, 148, 191, 383, 384, 385, 386, 387, 27, 388, 280, 281, 282, 283, 29, 284, 389, 390, 391, 392, 393, 264, 265, 266, 267, 25, 98, 268, 269, 270, 271, 206, 141, 142, 143, 272, 273, 274, 275, 276, 277, 278, 33, 279, 160, 161, 285, 286, 287, 288, 289, 322, 323, 324, 325, 153, 162, 154, 155, 350, 351, 352, 35, 353, 211, 212, 214, 354, 216, 217, 355, 356, 357, 358, 681, 682, 687, 688, 689, 690, 691, 692, 693, 694, 695, 703, 704, 705, 706, 707, 708, 709, 710, 711, 712, 713, 714, 715, 716, 717, 718, 719, 720, 721, 722, 723, 696, 697, 698, 699, 700, 701, 702] (by decide +kernel) (by decide +kernel)
set_option maxRecDepth 20000 in
theorem gL_law_X4_digest : GoodIn wsL_law (wsV RL 121 RX4 yX4_digest wsX4_digest) := goodIn_app (goodIn_of _ (by decide +kernel)) ggL_law_X4_digest
set_option maxRecDepth 20000 in
theorem ggL_law_X6_digest : GoodIn wsL_law wsX6_digest := goodIn_r _ [678, 113, 679, 680, 49, 53, 398, 399, 400, 5, 401, 22, 402, 403, 404, 52, 405, 175, 62, 406, 407, 408, 409, 410, 74, 73, 69, 294, 295, 296, 297, 298, 299, 300, 301, 63, 302, 303, 304, 305, 64, 330, 331, 332, 333, 367, 368, 369, 370, 683, 684, 685, 686, 724, 725, 726, 727, 728, 729, 730, 731, 732, 733, 734, 735, 736, 737, 738, 739, 740, 741, 742, 743, 744, 745] (by decide +kernel) (by decide +kernel)
set_option maxRecDepth 20000 in
theorem gL_law_X6_digest : GoodIn wsL_law (wsV RL 125 RX6 yX6_digest wsX6_digest) := goodIn_app (goodIn_of _ (by decide +kernel)) ggL_law_X6_digest

set_option maxRecDepth 20000 in
theorem ggL_law_X7_init : GoodIn wsL_law wsX7_init := goodIn_r _ [9, 10, 11, 12, 13, 14, 15, 16, 17, 18, 19, 20, 21, 22, 23, 24, 25, 26, 27, 28, 29, 30, 31, 32, 33, 34, 35, 36, 37, 38, 39, 40, 41, 42, 43, 44, 45, 46, 47, 48, 49, 50, 51, 52, 53, 54, 55, 56, 57, 58, 59, 60, 61, 62, 63, 64, 65, 66, 67, 68, 69, 70, 71, 72, 73, 74, 689, 690, 691, 692, 656, 657, 658, 659, 660, 661, 662, 663, 693, 694, 695, 696, 697, 698, 699, 700, 701, 702, 703, 704, 705, 706, 707, 708, 709, 710, 711, 712, 713] rfl (by decide +kernel)
set_option maxRecDepth 20000 in
theorem gL_law_X7_init : GoodIn wsL_law (wsX7_init) := ggL_law_X7_init
set_option maxRecDepth 20000 in
theorem ggL_law_X8_init : GoodIn wsL_law wsX8_init := goodIn_r _ [77, 78, 11, 12, 79, 42, 80, 44, 81, 82, 83, 84, 85, 86, 87, 88, 89, 90, 91, 92, 93, 94, 95, 96, 97, 98, 99, 664, 665, 666, 667, 668, 669, 670, 671, 672, 673, 674, 675, 676, 677, 678, 679, 680, 681, 682, 683, 684, 685, 686, 687, 688] rfl (by decide +kernel)
set_option maxRecDepth 20000 in
theorem gL_law_X8_init : GoodIn wsL_law (wsX8_init) := ggL_law_X8_init
set_option maxRecDepth 20000 in
theorem ggL_law_X7_states : GoodIn wsL_law wsX7_states := goodIn_r _ [103, 16, 104, 105, 25, 106, 107, 108, 23, 109, 110, 55, 111, 112, 113, 2, 114, 24, 115, 656, 657, 658, 659, 660, 661, 662, 663, 689, 690, 691, 692, 697, 698] rfl (by decide +kernel)
set_option maxRecDepth 20000 in
theorem gL_law_X7_states : GoodIn wsL_law (wsV RL 13 RX7 yX7_states wsX7_states) := goodIn_app (goodIn_of _ (by decide +kernel)) ggL_law_X7_states
set_option maxRecDepth 20000 in
theorem ggL_law_X8_states : GoodIn wsL_law wsX8_states := goodIn_r _ [119, 79, 120, 121, 122, 5, 123, 124, 125, 126, 127, 88, 89, 664, 665, 666, 667, 668, 669, 670, 671, 672, 673, 674, 675, 676, 677, 678, 679, 680, 681, 682, 683, 684, 685, 686, 687, 688] rfl (by decide +kernel)
set_option maxRecDepth 20000 in
theorem gL_law_X8_states : GoodIn wsL_law (wsV RL 17 RX8 yX8_states wsX8_states) := goodIn_app (goodIn_of _ (by decide +kernel)) ggL_law_X8_states
set_option maxRecDepth 20000 in
theorem ggL_law_X7_bag : GoodIn wsL_law wsX7_bag := goodIn_r _ [131, 16, 132, 25, 133, 134, 2, 135, 106, 107, 108, 23, 109, 110, 55, 111, 112, 113, 114, 24, 115, 656, 657, 658, 659, 660, 661, 662, 663, 689, 690, 691, 692, 697, 698] rfl (by decide +kernel)
set_option maxRecDepth 20000 in
theorem gL_law_X7_bag : GoodIn wsL_law (wsV RL 18 RX7 yX7_bag wsX7_bag) := goodIn_app (goodIn_of _ (by decide +kernel)) ggL_law_X7_bag
set_option maxRecDepth 20000 in
theorem ggL_law_X8_bag : GoodIn wsL_law wsX8_bag := goodIn_r _ [139, 80, 121, 122, 5, 123, 124, 125, 126, 127, 88, 89, 664, 665, 666, 667, 668, 669, 670, 671, 672, 673, 674, 675, 676, 677, 678, 679, 680, 681, 682, 683, 684, 685, 686, 687, 688] rfl (by decide +kernel)
set_option maxRecDepth 20000 in
theorem gL_law_X8_bag : GoodIn wsL_law (wsV RL 22 RX8 yX8_bag wsX8_bag) := goodIn_app (goodIn_of _ (by decide +kernel)) ggL_law_X8_bag
set_option maxRecDepth 20000 in
theorem ggL_law_X7_arc : GoodIn wsL_law wsX7_arc := goodIn_r _ [143, 16, 105, 144, 145, 146, 15, 147, 41, 134, 2, 135, 148, 149, 150, 151, 152, 45, 111, 112, 113, 114, 24, 115, 106, 107, 108, 23, 109, 110, 55, 656, 657, 658, 659, 660, 661, 662, 663, 689, 690, 691, 692, 697, 698] rfl (by decide +kernel)
set_option maxRecDepth 20000 in
theorem gL_law_X7_arc : GoodIn wsL_law (wsV RL 23 RX7 yX7_arc wsX7_arc) := goodIn_app (goodIn_of _ (by decide +kernel)) ggL_law_X7_arc
set_option maxRecDepth 20000 in
theorem ggL_law_X8_arc : GoodIn wsL_law wsX8_arc := goodIn_r _ [156, 120, 157, 158, 159, 5, 160, 161, 162, 163, 164, 79, 121, 122, 123, 165, 166, 167, 168, 81, 82, 83, 84, 85, 124, 125, 126, 127, 88, 89, 664, 665, 666, 667, 668, 669, 670, 671, 672, 673, 674, 675, 676, 677, 678, 679, 680, 681, 682, 683, 684, 685, 686, 687, 688] rfl (by decide +kernel)
set_option maxRecDepth 20000 in
theorem gL_law_X8_arc : GoodIn wsL_law (wsV RL 27 RX8 yX8_arc wsX8_arc) := goodIn_app (goodIn_of _ (by decide +kernel)) ggL_law_X8_arc
set_option maxRecDepth 20000 in
theorem ggL_law_X7_unarc : GoodIn wsL_law wsX7_unarc := goodIn_r _ [172, 16, 105, 111, 112, 113, 2, 114, 24, 115, 106, 107, 108, 23, 109, 110, 55, 656, 657, 658, 659, 660, 661, 662, 663, 689, 690, 691, 692, 697, 698] rfl (by decide +kernel)
set_option maxRecDepth 20000 in
theorem gL_law_X7_unarc : GoodIn wsL_law (wsV RL 28 RX7 yX7_unarc wsX7_unarc) := goodIn_app (goodIn_of _ (by decide +kernel)) ggL_law_X7_unarc
set_option maxRecDepth 20000 in
theorem ggL_law_X8_unarc : GoodIn wsL_law wsX8_unarc := goodIn_r _ [176, 120, 124, 125, 126, 5, 127, 88, 89, 664, 665, 666, 667, 668, 669, 670, 671, 672, 673, 674, 675, 676, 677, 678, 679, 680, 681, 682, 683, 684, 685, 686, 687, 688] rfl (by decide +kernel)
set_option maxRecDepth 20000 in
theorem gL_law_X8_unarc : GoodIn wsL_law (wsV RL 32 RX8 yX8_unarc wsX8_unarc) := goodIn_app (goodIn_of _ (by decide +kernel)) ggL_law_X8_unarc
set_option maxRecDepth 20000 in
theorem ggL_law_X7_told : GoodIn wsL_law wsX7_told := goodIn_r _ [180, 16, 105, 133, 134, 2, 135, 181, 182, 183, 15, 184, 45, 656, 657, 658, 659, 660, 661, 662, 663, 689, 690, 691, 692] rfl (by decide +kernel)
set_option maxRecDepth 20000 in
theorem gL_law_X7_told : GoodIn wsL_law (wsV RL 33 RX7 yX7_told wsX7_told) := goodIn_app (goodIn_of _ (by decide +kernel)) ggL_law_X7_told
set_option maxRecDepth 20000 in
theorem ggL_law_X8_told : GoodIn wsL_law wsX8_told := goodIn_r _ [188, 81, 82, 83, 84, 85, 189, 190, 191, 5, 192, 120, 121, 122, 123, 664, 665, 666, 667, 668, 669, 670, 671, 672, 673, 674, 675, 676, 677, 678, 679, 680, 681, 682, 683, 684, 685, 686, 687, 688] rfl (by decide +kernel)
set_option maxRecDepth 20000 in
theorem gL_law_X8_told : GoodIn wsL_law (wsV RL 37 RX8 yX8_told wsX8_told) := goodIn_app (goodIn_of _ (by decide +kernel)) ggL_law_X8_told
set_option maxRecDepth 20000 in
theorem ggL_law_X7_type : GoodIn wsL_law wsX7_type := goodIn_r _ [196, 20, 197, 198, 199, 19, 200, 201, 202, 203, 204, 205, 206, 207, 51, 208, 656, 657, 658, 659, 660, 661, 662, 663, 693, 694, 695, 696] rfl (by decide +kernel)
set_option maxRecDepth 20000 in
theorem gL_law_X7_type : GoodIn wsL_law (wsV RL 40 RX7 yX7_type wsX7_type) := goodIn_app (goodIn_of _ (by decide +kernel)) ggL_law_X7_type
set_option maxRecDepth 20000 in
theorem ggL_law_X8_type : GoodIn wsL_law wsX8_type := goodIn_r _ [212, 213, 214, 86, 121, 122, 5, 123, 664, 665, 666, 667, 668, 669, 670, 671, 672, 673, 674, 675, 676, 677, 678, 679, 680, 681, 682, 683, 684, 685, 686, 687, 688] rfl (by decide +kernel)
set_option maxRecDepth 20000 in
theorem gL_law_X8_type : GoodIn wsL_law (wsV RL 44 RX8 yX8_type wsX8_type) := goodIn_app (goodIn_of _ (by decide +kernel)) ggL_law_X8_type
set_option maxRecDepth 20000 in
theorem ggL_law_X7_read : GoodIn wsL_law wsX7_read := goodIn_r _ [218, 20, 16, 104, 197, 219, 220, 221, 222, 19, 223, 224, 208, 51, 225, 226, 227, 228, 49, 229, 230, 231, 232, 233, 234, 235, 236, 134, 2, 135, 237, 238, 239, 240, 241, 242, 243, 244, 245, 246, 247, 15, 248, 152, 249, 250, 251, 252, 253, 149, 150, 151, 45, 111, 112, 113, 114, 24, 115, 106, 107, 108, 23, 109, 110, 55, 656, 657, 658, 659, 660, 661, 662, 663, 689, 690, 691, 692, 693, 694, 695, 696, 697, 698] rfl (by decide +kernel)
set_option maxRecDepth 20000 in
theorem gL_law_X7_read : GoodIn wsL_law (wsV RL 45 RX7 yX7_read wsX7_read) := goodIn_app (goodIn_of _ (by decide +kernel)) ggL_law_X7_read
set_option maxRecDepth 20000 in
theorem ggL_law_X8_read : GoodIn wsL_law wsX8_read := goodIn_r _ [257, 258, 259, 87, 79, 214, 120, 260, 261, 262, 5, 263, 264, 265, 266, 267, 86, 121, 122, 123, 268, 269, 270, 271, 165, 166, 167, 168, 81, 82, 83, 84, 85, 124, 125, 126, 127, 88, 89, 664, 665, 666, 667, 668, 669, 670, 671, 672, 673, 674, 675, 676, 677, 678, 679, 680, 681, 682, 683, 684, 685, 686, 687, 688] rfl (by decide +kernel)
set_option maxRecDepth 20000 in
theorem gL_law_X8_read : GoodIn wsL_law (wsV RL 48 RX8 yX8_read wsX8_read) := goodIn_app (goodIn_of _ (by decide +kernel)) ggL_law_X8_read
set_option maxRecDepth 20000 in
theorem ggL_law_X7_arcs : GoodIn wsL_law wsX7_arcs := goodIn_r _ [275, 37, 276, 16, 277, 105, 133, 134, 2, 135, 278, 279, 280, 36, 281, 282, 283, 284, 285, 286, 15, 287, 288, 145, 146, 147, 41, 289, 250, 251, 252, 253, 149, 150, 151, 152, 45, 111, 112, 113, 114, 24, 115, 106, 107, 108, 23, 109, 110, 55, 656, 657, 658, 659, 660, 661, 662, 663, 710, 711, 712, 713, 689, 690, 691, 692, 697, 698] rfl (by decide +kernel)
set_option maxRecDepth 20000 in
theorem gL_law_X7_arcs : GoodIn wsL_law (wsV RL 49 RX7 yX7_arcs wsX7_arcs) := goodIn_app (goodIn_of _ (by decide +kernel)) ggL_law_X7_arcs
set_option maxRecDepth 20000 in
theorem ggL_law_X8_arcs : GoodIn wsL_law wsX8_arcs := goodIn_r _ [293, 97, 98, 99, 120, 294, 295, 5, 296, 121, 122, 123, 157, 158, 159, 160, 161, 162, 163, 164, 79, 165, 166, 167, 168, 81, 82, 83, 84, 85, 124, 125, 126, 127, 88, 89, 664, 665, 666, 667, 668, 669, 670, 671, 672, 673, 674, 675, 676, 677, 678, 679, 680, 681, 682, 683, 684, 685, 686, 687, 688] rfl (by decide +kernel)
set_option maxRecDepth 20000 in
theorem gL_law_X8_arcs : GoodIn wsL_law (wsV RL 53 RX8 yX8_arcs wsX8_arcs) := goodIn_app (goodIn_of _ (by decide +kernel)) ggL_law_X8_arcs
set_option maxRecDepth 20000 in
theorem ggL_law_X7_go : GoodIn wsL_law wsX7_go := goodIn_r _ [300, 16, 105, 24, 301, 302, 133, 134, 2, 135, 181, 182, 183, 15, 184, 45, 303, 304, 305, 306, 43, 307, 308, 309, 310, 311, 312, 313, 314, 315, 316, 317, 318, 319, 320, 321, 322, 323, 324, 325, 326, 327, 328, 329, 330, 656, 657, 658, 659, 660, 661, 662, 663, 689, 690, 691, 692, 697, 698] rfl (by decide +kernel)
set_option maxRecDepth 20000 in
theorem gL_law_X7_go : GoodIn wsL_law (wsV RL 54 RX7 yX7_go wsX7_go) := goodIn_app (goodIn_of _ (by decide +kernel)) ggL_law_X7_go
set_option maxRecDepth 20000 in
theorem ggL_law_X8_go : GoodIn wsL_law wsX8_go := goodIn_r _ [334, 83, 84, 81, 88, 82, 80, 89, 85, 189, 190, 191, 5, 192, 120, 121, 122, 123, 335, 336, 337, 338, 90, 339, 340, 341, 342, 343, 344, 345, 346, 347, 348, 349, 350, 351, 352, 353, 664, 665, 666, 667, 668, 669, 670, 671, 672, 673, 674, 675, 676, 677, 678, 679, 680, 681, 682, 683, 684, 685, 686, 687, 688] rfl (by decide +kernel)
set_option maxRecDepth 20000 in
theorem gL_law_X8_go : GoodIn wsL_law (wsV RL 57 RX8 yX8_go wsX8_go) := goodIn_app (goodIn_of _ (by decide +kernel)) ggL_law_X8_go
set_option maxRecDepth 20000 in
theorem ggL_law_X7_lose : GoodIn wsL_law wsX7_lose := goodIn_r _ [357, 24, 302, 133, 134, 2, 135, 358, 317, 314, 318, 359, 360, 361, 362, 326, 327, 656, 657, 658, 659, 660, 661, 662, 663, 697, 698] rfl (by decide +kernel)
set_option maxRecDepth 20000 in
theorem gL_law_X7_lose : GoodIn wsL_law (wsV RL 58 RX7 yX7_lose wsX7_lose) := goodIn_app (goodIn_of _ (by decide +kernel)) ggL_law_X7_lose
set_option maxRecDepth 20000 in
theorem ggL_law_X8_lose : GoodIn wsL_law wsX8_lose := goodIn_r _ [366, 89, 90, 121, 122, 5, 123, 339, 340, 341, 342, 343, 344, 345, 664, 665, 666, 667, 668, 669, 670, 671, 672, 673, 674, 675, 676, 677, 678, 679, 680, 681, 682, 683, 684, 685, 686, 687, 688] rfl (by decide +kernel)
set_option maxRecDepth 20000 in
theorem gL_law_X8_lose : GoodIn wsL_law (wsV RL 61 RX8 yX8_lose wsX8_lose) := goodIn_app (goodIn_of _ (by decide +kernel)) ggL_law_X8_lose
set_option maxRecDepth 20000 in
theorem ggL_law_X7_now : GoodIn wsL_law wsX7_now := goodIn_r _ [370, 24, 301, 302, 133, 134, 2, 135, 358, 317, 314, 318, 359, 360, 361, 656, 657, 658, 659, 660, 661, 662, 663, 697, 698] rfl (by decide +kernel)
set_option maxRecDepth 20000 in
theorem gL_law_X7_now : GoodIn wsL_law (wsV RL 62 RX7 yX7_now wsX7_now) := goodIn_app (goodIn_of _ (by decide +kernel)) ggL_law_X7_now
set_option maxRecDepth 20000 in
theorem ggL_law_X8_now : GoodIn wsL_law wsX8_now := goodIn_r _ [374, 88, 89, 90, 121, 122, 5, 123, 339, 340, 341, 664, 665, 666, 667, 668, 669, 670, 671, 672, 673, 674, 675, 676, 677, 678, 679, 680, 681, 682, 683, 684, 685, 686, 687, 688] rfl (by decide +kernel)
set_option maxRecDepth 20000 in
theorem gL_law_X8_now : GoodIn wsL_law (wsV RL 65 RX8 yX8_now wsX8_now) := goodIn_app (goodIn_of _ (by decide +kernel)) ggL_law_X8_now
set_option maxRecDepth 20000 in
theorem ggL_law_X7_reset : GoodIn wsL_law wsX7_reset := goodIn_r _ [378, 24, 106, 107, 108, 23, 109, 110, 55, 656, 657, 658, 659, 660, 661, 662, 663, 697, 698] rfl (by decide +kernel)
set_option maxRecDepth 20000 in
theorem gL_law_X7_reset : GoodIn wsL_law (wsV RL 66 RX7 yX7_reset wsX7_reset) := goodIn_app (goodIn_of _ (by decide +kernel)) ggL_law_X7_reset
set_option maxRecDepth 20000 in
theorem ggL_law_X8_reset : GoodIn wsL_law wsX8_reset := goodIn_r _ [382, 124, 125, 126, 5, 127, 88, 89, 664, 665, 666, 667, 668, 669, 670, 671, 672, 673, 674, 675, 676, 677, 678, 679, 680, 681, 682, 683, 684, 685, 686, 687, 688] rfl (by decide +kernel)
set_option maxRecDepth 20000 in
theorem gL_law_X8_reset : GoodIn wsL_law (wsV RL 69 RX8 yX8_reset wsX8_reset) := goodIn_app (goodIn_of _ (by decide +kernel)) ggL_law_X8_reset
set_option maxRecDepth 20000 in
theorem ggL_law_X7_aim : GoodIn wsL_law wsX7_aim := goodIn_r _ [386, 16, 104, 25, 115, 133, 134, 2, 135, 106, 107, 108, 23, 109, 110, 55, 656, 657, 658, 659, 660, 661, 662, 663, 689, 690, 691, 692, 697, 698] rfl (by decide +kernel)
set_option maxRecDepth 20000 in
theorem gL_law_X7_aim : GoodIn wsL_law (wsV RL 70 RX7 yX7_aim wsX7_aim) := goodIn_app (goodIn_of _ (by decide +kernel)) ggL_law_X7_aim
set_option maxRecDepth 20000 in
theorem ggL_law_X8_aim : GoodIn wsL_law wsX8_aim := goodIn_r _ [390, 161, 162, 163, 5, 164, 79, 121, 122, 123, 124, 125, 126, 127, 88, 89, 664, 665, 666, 667, 668, 669, 670, 671, 672, 673, 674, 675, 676, 677, 678, 679, 680, 681, 682, 683, 684, 685, 686, 687, 688] rfl (by decide +kernel)
set_option maxRecDepth 20000 in
theorem gL_law_X8_aim : GoodIn wsL_law (wsV RL 73 RX8 yX8_aim wsX8_aim) := goodIn_app (goodIn_of _ (by decide +kernel)) ggL_law_X8_aim
set_option maxRecDepth 20000 in
theorem ggL_law_X7_want : GoodIn wsL_law wsX7_want := goodIn_r _ [394, 25, 302, 16, 115, 133, 134, 2, 135, 358, 317, 314, 318, 395, 309, 310, 15, 311, 43, 312, 313, 315, 316, 319, 320, 321, 656, 657, 658, 659, 660, 661, 662, 663, 697, 698, 689, 690, 691, 692] rfl (by decide +kernel)
set_option maxRecDepth 20000 in
theorem gL_law_X7_want : GoodIn wsL_law (wsV RL 74 RX7 yX7_want wsX7_want) := goodIn_app (goodIn_of _ (by decide +kernel)) ggL_law_X7_want
set_option maxRecDepth 20000 in
theorem ggL_law_X8_want : GoodIn wsL_law wsX8_want := goodIn_r _ [399, 89, 80, 121, 122, 5, 123, 346, 347, 348, 349, 90, 339, 340, 341, 350, 351, 352, 353, 664, 665, 666, 667, 668, 669, 670, 671, 672, 673, 674, 675, 676, 677, 678, 679, 680, 681, 682, 683, 684, 685, 686, 687, 688] rfl (by decide +kernel)
set_option maxRecDepth 20000 in
theorem gL_law_X8_want : GoodIn wsL_law (wsV RL 77 RX8 yX8_want wsX8_want) := goodIn_app (goodIn_of _ (by decide +kernel)) ggL_law_X8_want
set_option maxRecDepth 20000 in
theorem ggL_law_X7_found : GoodIn wsL_law wsX7_found := goodIn_r _ [403, 29, 404, 405, 406, 407, 408, 2, 409, 115, 16, 25, 410, 411, 412, 28, 413, 414, 415, 416, 417, 418, 60, 419, 420, 421, 422, 61, 62, 63, 64, 59, 423, 182, 183, 15, 184, 45, 424, 425, 426, 427, 428, 429, 430, 431, 43, 307, 322, 323, 314, 324, 316, 317, 318, 432, 360, 361, 325, 326, 327, 308, 309, 310, 311, 312, 313, 315, 319, 320, 321, 433, 434, 435, 436, 437, 438, 439, 440, 441, 442, 443, 444, 329, 330, 656, 657, 658, 659, 660, 661, 662, 663, 699, 700, 701, 702, 703, 704, 705, 706, 697, 698, 689, 690, 691, 692] rfl (by decide +kernel)
set_option maxRecDepth 20000 in
theorem gL_law_X7_found : GoodIn wsL_law (wsV RL 78 RX7 yX7_found wsX7_found) := goodIn_app (goodIn_of _ (by decide +kernel)) ggL_law_X7_found
set_option maxRecDepth 20000 in
theorem ggL_law_X8_found : GoodIn wsL_law wsX8_found := goodIn_r _ [448, 449, 450, 451, 452, 5, 453, 120, 85, 88, 89, 91, 454, 455, 456, 457, 90, 339, 340, 341, 458, 459, 460, 461, 92, 93, 462, 463, 464, 465, 81, 83, 84, 82, 80, 346, 347, 348, 349, 350, 351, 352, 353, 335, 336, 337, 338, 342, 343, 344, 345, 466, 467, 468, 469, 470, 471, 472, 473, 664, 665, 666, 667, 668, 669, 670, 671, 672, 673, 674, 675, 676, 677, 678, 679, 680, 681, 682, 683, 684, 685, 686, 687, 688] rfl (by decide +kernel)
set_option maxRecDepth 20000 in
theorem gL_law_X8_found : GoodIn wsL_law (wsV RL 81 RX8 yX8_found wsX8_found) := goodIn_app (goodIn_of _ (by decide +kernel)) ggL_law_X8_found
set_option maxRecDepth 20000 in
theorem ggL_law_X7_about : GoodIn wsL_law wsX7_about := goodIn_r _ [477, 29, 404, 405, 406, 407, 408, 2, 409, 115, 16, 25, 410, 411, 412, 28, 413, 414, 415, 416, 417, 418, 60, 419, 420, 421, 422, 61, 62, 63, 64, 59, 423, 182, 183, 15, 184, 45, 424, 425, 426, 427, 428, 429, 430, 431, 43, 307, 322, 323, 314, 324, 316, 317, 318, 432, 360, 361, 325, 326, 327, 308, 309, 310, 311, 312, 313, 315, 319, 320, 321, 433, 434, 435, 436, 437, 438, 439, 440, 441, 442, 443, 444, 329, 330, 478, 479, 480, 481, 482, 483, 484, 485, 486, 656, 657, 658, 659, 660, 661, 662, 663, 699, 700, 701, 702, 703, 704, 705, 706, 697, 698, 689, 690, 691, 692] rfl (by decide +kernel)
set_option maxRecDepth 20000 in
theorem gL_law_X7_about : GoodIn wsL_law (wsV RL 82 RX7 yX7_about wsX7_about) := goodIn_app (goodIn_of _ (by decide +kernel)) ggL_law_X7_about
set_option maxRecDepth 20000 in
theorem ggL_law_X8_about : GoodIn wsL_law wsX8_about := goodIn_r _ [490, 449, 88, 91, 89, 92, 93, 121, 122, 5, 123, 450, 451, 452, 453, 120, 85, 454, 455, 456, 457, 90, 339, 340, 341, 458, 459, 460, 461, 462, 463, 464, 465, 81, 83, 84, 82, 80, 346, 347, 348, 349, 350, 351, 352, 353, 335, 336, 337, 338, 342, 343, 344, 345, 466, 467, 468, 469, 470, 471, 472, 473, 491, 492, 493, 494, 664, 665, 666, 667, 668, 669, 670, 671, 672, 673, 674, 675, 676, 677, 678, 679, 680, 681, 682, 683, 684, 685, 686, 687, 688] rfl (by decide +kernel)
set_option maxRecDepth 20000 in
theorem gL_law_X8_about : GoodIn wsL_law (wsV RL 85 RX8 yX8_about wsX8_about) := goodIn_app (goodIn_of _ (by decide +kernel)) ggL_law_X8_about
set_option maxRecDepth 20000 in
theorem ggL_law_X7_letter : GoodIn wsL_law wsX7_letter := goodIn_r _ [498, 29, 404, 405, 133, 134, 2, 135, 406, 407, 408, 409, 115, 16, 25, 410, 411, 412, 28, 413, 414, 415, 416, 417, 418, 60, 419, 420, 421, 422, 61, 62, 63, 64, 59, 423, 182, 183, 15, 184, 45, 424, 425, 426, 427, 428, 429, 430, 431, 43, 307, 322, 323, 314, 324, 316, 317, 318, 432, 360, 361, 325, 326, 327, 308, 309, 310, 311, 312, 313, 315, 319, 320, 321, 433, 434, 435, 436, 437, 438, 439, 440, 441, 442, 443, 444, 329, 330, 499, 500, 501, 502, 358, 359, 656, 657, 658, 659, 660, 661, 662, 663, 699, 700, 701, 702, 703, 704, 705, 706, 697, 698, 689, 690, 691, 692] rfl (by decide +kernel)
set_option maxRecDepth 20000 in
theorem gL_law_X7_letter : GoodIn wsL_law (wsV RL 86 RX7 yX7_letter wsX7_letter) := goodIn_app (goodIn_of _ (by decide +kernel)) ggL_law_X7_letter
set_option maxRecDepth 20000 in
theorem ggL_law_X8_letter : GoodIn wsL_law wsX8_letter := goodIn_r _ [506, 449, 89, 90, 121, 122, 5, 123, 450, 451, 452, 453, 120, 85, 88, 91, 454, 455, 456, 457, 339, 340, 341, 458, 459, 460, 461, 92, 93, 462, 463, 464, 465, 81, 83, 84, 82, 80, 346, 347, 348, 349, 350, 351, 352, 353, 335, 336, 337, 338, 342, 343, 344, 345, 466, 467, 468, 469, 470, 471, 472, 473, 664, 665, 666, 667, 668, 669, 670, 671, 672, 673, 674, 675, 676, 677, 678, 679, 680, 681, 682, 683, 684, 685, 686, 687, 688] rfl (by decide +kernel)
set_option maxRecDepth 20000 in
theorem gL_law_X8_letter : GoodIn wsL_law (wsV RL 90 RX8 yX8_letter wsX8_letter) := goodIn_app (goodIn_of _ (by decide +kernel)) ggL_law_X8_letter
set_option maxRecDepth 20000 in
theorem ggL_law_X7_least : GoodIn wsL_law wsX7_least := goodIn_r _ [510, 29, 404, 406, 407, 408, 2, 409, 115, 16, 25, 410, 411, 412, 28, 413, 414, 415, 416, 417, 418, 60, 419, 420, 421, 422, 61, 62, 63, 64, 59, 423, 182, 183, 15, 184, 45, 424, 425, 426, 427, 428, 429, 430, 431, 43, 307, 322, 323, 314, 324, 316, 317, 318, 432, 360, 361, 325, 326, 327, 308, 309, 310, 311, 312, 313, 315, 319, 320, 321, 433, 434, 435, 436, 437, 438, 439, 440, 441, 442, 443, 444, 329, 330, 511, 512, 513, 514, 483, 484, 485, 486, 656, 657, 658, 659, 660, 661, 662, 663, 699, 700, 701, 702, 703, 704, 705, 706, 697, 698, 689, 690, 691, 692] rfl (by decide +kernel)
set_option maxRecDepth 20000 in
theorem gL_law_X7_least : GoodIn wsL_law (wsV RL 91 RX7 yX7_least wsX7_least) := goodIn_app (goodIn_of _ (by decide +kernel)) ggL_law_X7_least
set_option maxRecDepth 20000 in
theorem ggL_law_X8_least : GoodIn wsL_law wsX8_least := goodIn_r _ [518, 449, 450, 451, 452, 5, 453, 120, 85, 88, 89, 91, 454, 455, 456, 457, 90, 339, 340, 341, 458, 459, 460, 461, 92, 93, 462, 463, 464, 465, 81, 83, 84, 82, 80, 346, 347, 348, 349, 350, 351, 352, 353, 335, 336, 337, 338, 342, 343, 344, 345, 466, 467, 468, 469, 470, 471, 472, 473, 491, 492, 493, 494, 664, 665, 666, 667, 668, 669, 670, 671, 672, 673, 674, 675, 676, 677, 678, 679, 680, 681, 682, 683, 684, 685, 686, 687, 688] rfl (by decide +kernel)

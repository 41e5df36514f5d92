set_option maxRecDepth 20000 in
theorem ggL_law_X2_init : GoodIn wsL_law wsX2_init := goodIn_r _ [9, 10, 11, 12, 13, 14, 15, 16, 17, 18, 19, 20, 21, 22, 23, 24, 25, 26, 27, 28, 29, 30, 31, 32, 33, 34, 35, 36, 37, 38, 39, 40, 41, 42, 43, 44, 45, 46, 47, 48, 49, 50, 51, 52, 53, 54, 55, 56, 57, 58, 59, 60, 61, 62, 63, 64, 65, 649, 650, 651, 652, 653, 654, 655, 656, 657, 658, 659, 660, 661, 662, 663, 664, 665, 666, 628, 629, 630, 631, 632, 633, 634, 635, 667, 668, 669, 670, 671, 672, 673, 674] (by decide +kernel) (by decide +kernel)
set_option maxRecDepth 20000 in
theorem gL_law_X2_init : GoodIn wsL_law (wsX2_init) := ggL_law_X2_init
set_option maxRecDepth 20000 in
theorem ggL_law_X3_init : GoodIn wsL_law wsX3_init := goodIn_r _ [68, 69, 11, 12, 31, 70, 71, 72, 73, 74, 75, 636, 637, 638, 639, 640, 641, 642, 643, 644, 645, 646, 647, 648] (by decide +kernel) (by decide +kernel)
set_option maxRecDepth 20000 in
theorem gL_law_X3_init : GoodIn wsL_law (wsX3_init) := ggL_law_X3_init
set_option maxRecDepth 20000 in
theorem ggL_law_X2_set : GoodIn wsL_law wsX2_set := goodIn_r _ [79, 16, 17, 80, 81, 2, 82, 83, 51, 52, 53, 84, 15, 85, 86, 32, 87, 88, 89, 90, 20, 19, 91, 92, 93, 94, 628, 629, 630, 631, 632, 633, 634, 635, 649, 650, 651, 652, 653, 654, 655, 656, 657, 658, 659, 660, 661, 662, 663, 664, 665, 666] (by decide +kernel) (by decide +kernel)
set_option maxRecDepth 20000 in
theorem gL_law_X2_set : GoodIn wsL_law (wsV RL 13 RX2 yX2_set wsX2_set) := goodIn_app (goodIn_of _ (by decide +kernel)) ggL_law_X2_set
set_option maxRecDepth 20000 in
theorem ggL_law_X3_set : GoodIn wsL_law wsX3_set := goodIn_r _ [98, 70, 99, 100, 5, 101, 102, 103, 104, 105, 106, 107, 108, 109, 72, 110, 111, 112, 636, 637, 638, 639, 640, 641, 642, 643, 644, 645, 646, 647, 648] (by decide +kernel) (by decide +kernel)
set_option maxRecDepth 20000 in
theorem gL_law_X3_set : GoodIn wsL_law (wsV RL 17 RX3 yX3_set wsX3_set) := goodIn_app (goodIn_of _ (by decide +kernel)) ggL_law_X3_set
set_option maxRecDepth 20000 in
theorem ggL_law_X2_rain : GoodIn wsL_law wsX2_rain := goodIn_r _ [116, 16, 17, 80, 81, 2, 82, 83, 51, 52, 53, 117, 15, 118, 119, 120, 46, 87, 88, 89, 90, 20, 19, 91, 92, 93, 94, 628, 629, 630, 631, 632, 633, 634, 635, 649, 650, 651, 652, 653, 654, 655, 656, 657, 658, 659, 660, 661, 662, 663, 664, 665, 666] (by decide +kernel) (by decide +kernel)
set_option maxRecDepth 20000 in
theorem gL_law_X2_rain : GoodIn wsL_law (wsV RL 18 RX2 yX2_rain wsX2_rain) := goodIn_app (goodIn_of _ (by decide +kernel)) ggL_law_X2_rain
set_option maxRecDepth 20000 in
theorem ggL_law_X3_rain : GoodIn wsL_law wsX3_rain := goodIn_r _ [124, 125, 70, 102, 103, 5, 104, 105, 106, 107, 108, 109, 72, 110, 111, 112, 636, 637, 638, 639, 640, 641, 642, 643, 644, 645, 646, 647, 648] (by decide +kernel) (by decide +kernel)
set_option maxRecDepth 20000 in
theorem gL_law_X3_rain : GoodIn wsL_law (wsV RL 22 RX3 yX3_rain wsX3_rain) := goodIn_app (goodIn_of _ (by decide +kernel)) ggL_law_X3_rain
set_option maxRecDepth 20000 in
theorem ggL_law_X2_piano : GoodIn wsL_law wsX2_piano := goodIn_r _ [129, 16, 17, 80, 81, 2, 82, 83, 51, 52, 53, 130, 15, 131, 132, 33, 34, 36, 37, 38, 39, 133, 134, 135, 136, 137, 138, 139, 140, 141, 142, 143, 87, 88, 89, 90, 20, 19, 91, 92, 93, 94, 628, 629, 630, 631, 632, 633, 634, 635, 649, 650, 651, 652, 653, 654, 655, 656, 657, 658, 659, 660, 661, 662, 663, 664, 665, 666] (by decide +kernel) (by decide +kernel)
set_option maxRecDepth 20000 in
theorem gL_law_X2_piano : GoodIn wsL_law (wsV RL 23 RX2 yX2_piano wsX2_piano) := goodIn_app (goodIn_of _ (by decide +kernel)) ggL_law_X2_piano
set_option maxRecDepth 20000 in
theorem ggL_law_X3_piano : GoodIn wsL_law wsX3_piano := goodIn_r _ [147, 148, 149, 150, 5, 151, 152, 153, 154, 102, 103, 104, 155, 156, 157, 158, 159, 160, 161, 162, 70, 105, 106, 107, 108, 109, 72, 110, 111, 112, 163, 164, 165, 166, 167, 168, 169, 170, 171, 172, 173, 174, 636, 637, 638, 639, 640, 641, 642, 643, 644, 645, 646, 647, 648] (by decide +kernel) (by decide +kernel)
set_option maxRecDepth 20000 in
theorem gL_law_X3_piano : GoodIn wsL_law (wsV RL 26 RX3 yX3_piano wsX3_piano) := goodIn_app (goodIn_of _ (by decide +kernel)) ggL_law_X3_piano
set_option maxRecDepth 20000 in
theorem ggL_law_X2_take : GoodIn wsL_law wsX2_take := goodIn_r _ [178, 16, 17, 80, 81, 2, 82, 83, 51, 52, 53, 179, 15, 180, 181, 33, 34, 35, 135, 136, 137, 138, 139, 140, 141, 142, 143, 87, 88, 89, 90, 20, 19, 91, 92, 93, 94, 628, 629, 630, 631, 632, 633, 634, 635, 649, 650, 651, 652, 653, 654, 655, 656, 657, 658, 659, 660, 661, 662, 663, 664, 665, 666] (by decide +kernel) (by decide +kernel)
set_option maxRecDepth 20000 in
theorem gL_law_X2_take : GoodIn wsL_law (wsV RL 27 RX2 yX2_take wsX2_take) := goodIn_app (goodIn_of _ (by decide +kernel)) ggL_law_X2_take
set_option maxRecDepth 20000 in
theorem ggL_law_X3_take : GoodIn wsL_law wsX3_take := goodIn_r _ [185, 155, 156, 157, 5, 158, 152, 153, 154, 102, 103, 104, 159, 160, 161, 162, 70, 105, 106, 107, 108, 109, 72, 110, 111, 112, 167, 168, 169, 170, 171, 172, 173, 174, 636, 637, 638, 639, 640, 641, 642, 643, 644, 645, 646, 647, 648] (by decide +kernel) (by decide +kernel)
set_option maxRecDepth 20000 in
theorem gL_law_X3_take : GoodIn wsL_law (wsV RL 30 RX3 yX3_take wsX3_take) := goodIn_app (goodIn_of _ (by decide +kernel)) ggL_law_X3_take
set_option maxRecDepth 20000 in
theorem ggL_law_X2_keeper : GoodIn wsL_law wsX2_keeper := goodIn_r _ [189, 16, 17, 80, 81, 2, 82, 83, 51, 52, 53, 190, 15, 191, 192, 40, 133, 134, 193, 194, 195, 196, 41, 42, 43, 44, 45, 87, 88, 89, 90, 20, 19, 91, 92, 93, 94, 628, 629, 630, 631, 632, 633, 634, 635, 649, 650, 651, 652, 653, 654, 655, 656, 657, 658, 659, 660, 661, 662, 663, 664, 665, 666] (by decide +kernel) (by decide +kernel)
set_option maxRecDepth 20000 in
theorem gL_law_X2_keeper : GoodIn wsL_law (wsV RL 31 RX2 yX2_keeper wsX2_keeper) := goodIn_app (goodIn_of _ (by decide +kernel)) ggL_law_X2_keeper
set_option maxRecDepth 20000 in
theorem ggL_law_X3_keeper : GoodIn wsL_law wsX3_keeper := goodIn_r _ [200, 201, 202, 203, 5, 204, 70, 152, 153, 154, 102, 103, 104, 105, 106, 107, 108, 109, 72, 110, 111, 112, 205, 206, 207, 208, 636, 637, 638, 639, 640, 641, 642, 643, 644, 645, 646, 647, 648] (by decide +kernel) (by decide +kernel)
set_option maxRecDepth 20000 in
theorem gL_law_X3_keeper : GoodIn wsL_law (wsV RL 34 RX3 yX3_keeper wsX3_keeper) := goodIn_app (goodIn_of _ (by decide +kernel)) ggL_law_X3_keeper
set_option maxRecDepth 20000 in
theorem ggL_law_X2_cover : GoodIn wsL_law wsX2_cover := goodIn_r _ [212, 16, 17, 80, 81, 2, 82, 83, 51, 52, 53, 213, 15, 214, 215, 33, 34, 35, 135, 136, 137, 138, 139, 140, 141, 142, 143, 87, 88, 89, 90, 20, 19, 91, 92, 93, 94, 628, 629, 630, 631, 632, 633, 634, 635, 649, 650, 651, 652, 653, 654, 655, 656, 657, 658, 659, 660, 661, 662, 663, 664, 665, 666] (by decide +kernel) (by decide +kernel)
set_option maxRecDepth 20000 in
theorem gL_law_X2_cover : GoodIn wsL_law (wsV RL 35 RX2 yX2_cover wsX2_cover) := goodIn_app (goodIn_of _ (by decide +kernel)) ggL_law_X2_cover
set_option maxRecDepth 20000 in
theorem ggL_law_X3_cover : GoodIn wsL_law wsX3_cover := goodIn_r _ [219, 220, 221, 222, 5, 223, 155, 156, 157, 158, 152, 153, 154, 102, 103, 104, 159, 160, 161, 162, 70, 105, 106, 107, 108, 109, 72, 110, 111, 112, 167, 168, 169, 170, 224, 225, 226, 227, 636, 637, 638, 639, 640, 641, 642, 643, 644, 645, 646, 647, 648] (by decide +kernel) (by decide +kernel)
set_option maxRecDepth 20000 in
theorem gL_law_X3_cover : GoodIn wsL_law (wsV RL 38 RX3 yX3_cover wsX3_cover) := goodIn_app (goodIn_of _ (by decide +kernel)) ggL_law_X3_cover
set_option maxRecDepth 20000 in
theorem ggL_law_X2_pass : GoodIn wsL_law wsX2_pass := goodIn_r _ [231, 16, 17, 80, 81, 2, 82, 83, 51, 52, 53, 232, 15, 233, 234, 47, 235, 236, 237, 238, 48, 239, 240, 241, 242, 40, 34, 35, 41, 243, 244, 245, 246, 32, 247, 248, 249, 250, 46, 251, 252, 253, 135, 136, 254, 255, 256, 257, 36, 258, 259, 260, 261, 33, 262, 263, 264, 265, 45, 266, 267, 268, 269, 270, 271, 272, 273, 44, 274, 275, 276, 277, 42, 278, 279, 280, 281, 43, 282, 283, 284, 285, 37, 286, 287, 288, 39, 289, 290, 291, 292, 293, 294, 295, 296, 38, 297, 298, 299, 300, 49, 301, 302, 303, 304, 87, 88, 89, 90, 20, 19, 91, 92, 93, 94, 628, 629, 630, 631, 632, 633, 634, 635, 649, 650, 651, 652, 653, 654, 655, 656, 657, 658, 659, 660, 661, 662, 663, 664, 665, 666] (by decide +kernel) (by decide +kernel)
set_option maxRecDepth 20000 in
theorem gL_law_X2_pass : GoodIn wsL_law (wsV RL 39 RX2 yX2_pass wsX2_pass) := goodIn_app (goodIn_of _ (by decide +kernel)) ggL_law_X2_pass
set_option maxRecDepth 20000 in
theorem ggL_law_X3_pass : GoodIn wsL_law wsX3_pass := goodIn_r _ [308, 309, 310, 311, 5, 312, 70, 102, 103, 104, 105, 106, 107, 108, 109, 72, 110, 111, 112, 313, 314, 315, 316, 317, 318, 319, 320, 321, 322, 323, 324, 325, 326, 327, 328, 329, 330, 331, 332, 333, 334, 335, 336, 337, 338, 339, 340, 341, 342, 343, 344, 345, 155, 156, 157, 158, 152, 153, 154, 159, 160, 161, 162, 346, 347, 348, 349, 350, 351, 352, 353, 354, 355, 356, 357, 358, 359, 360, 361, 362, 363, 364, 167, 168, 169, 170, 365, 366, 367, 368, 369, 370, 371, 372, 373, 374, 375, 376, 377, 378, 379, 380, 381, 382, 383, 636, 637, 638, 639, 640, 641, 642, 643, 644, 645, 646, 647, 648] (by decide +kernel) (by decide +kernel)

set_option maxRecDepth 20000 in
theorem gL_law_X3_pass : GoodIn wsL_law (wsV RL 42 RX3 yX3_pass wsX3_pass) := goodIn_app (goodIn_of _ (by decide +kernel)) ggL_law_X3_pass
set_option maxRecDepth 20000 in
theorem ggL_law_X2_of : GoodIn wsL_law wsX2_of := goodIn_r _ [387, 16, 388, 135, 2, 136, 389, 15, 390, 391, 35, 34, 302, 303, 304, 40, 41, 628, 629, 630, 631, 632, 633, 634, 635, 649, 650, 651, 652, 653, 654, 655, 656, 657, 658, 659, 660, 661, 662, 663, 664, 665, 666] (by decide +kernel) (by decide +kernel)
set_option maxRecDepth 20000 in
theorem gL_law_X2_of : GoodIn wsL_law (wsV RL 43 RX2 yX2_of wsX2_of) := goodIn_app (goodIn_of _ (by decide +kernel)) ggL_law_X2_of
set_option maxRecDepth 20000 in
theorem ggL_law_X3_of : GoodIn wsL_law wsX3_of := goodIn_r _ [395, 155, 156, 157, 5, 158, 152, 153, 154, 102, 103, 104, 159, 160, 161, 162, 70, 380, 381, 382, 383, 350, 351, 352, 353, 636, 637, 638, 639, 640, 641, 642, 643, 644, 645, 646, 647, 648] (by decide +kernel) (by decide +kernel)
set_option maxRecDepth 20000 in
theorem gL_law_X3_of : GoodIn wsL_law (wsV RL 46 RX3 yX3_of wsX3_of) := goodIn_app (goodIn_of _ (by decide +kernel)) ggL_law_X3_of
set_option maxRecDepth 20000 in
theorem ggL_law_X2_ofKeeper : GoodIn wsL_law wsX2_ofKeeper := goodIn_r _ [399, 16, 628, 629, 630, 631, 632, 633, 634, 635, 649, 650, 651, 652, 653, 654, 655, 656, 657, 658, 659, 660, 661, 662, 663, 664, 665, 666] (by decide +kernel) (by decide +kernel)
set_option maxRecDepth 20000 in
theorem gL_law_X2_ofKeeper : GoodIn wsL_law (wsV RL 47 RX2 yX2_ofKeeper wsX2_ofKeeper) := goodIn_app (goodIn_of _ (by decide +kernel)) ggL_law_X2_ofKeeper
set_option maxRecDepth 20000 in
theorem ggL_law_X3_ofKeeper : GoodIn wsL_law wsX3_ofKeeper := goodIn_r _ [403, 70, 102, 103, 5, 104, 350, 351, 352, 353, 636, 637, 638, 639, 640, 641, 642, 643, 644, 645, 646, 647, 648] (by decide +kernel) (by decide +kernel)
set_option maxRecDepth 20000 in
theorem gL_law_X3_ofKeeper : GoodIn wsL_law (wsV RL 50 RX3 yX3_ofKeeper wsX3_ofKeeper) := goodIn_app (goodIn_of _ (by decide +kernel)) ggL_law_X3_ofKeeper
set_option maxRecDepth 20000 in
theorem ggL_law_X2_count : GoodIn wsL_law wsX2_count := goodIn_r _ [407, 16, 27, 20, 244, 15, 245, 246, 32, 247, 248, 249, 250, 46, 47, 628, 629, 630, 631, 632, 633, 634, 635, 649, 650, 651, 652, 653, 654, 655, 656, 657, 658, 659, 660, 661, 662, 663, 664, 665, 666, 667, 668, 669, 670, 671, 672, 673, 674] (by decide +kernel) (by decide +kernel)
set_option maxRecDepth 20000 in
theorem gL_law_X2_count : GoodIn wsL_law (wsV RL 51 RX2 yX2_count wsX2_count) := goodIn_app (goodIn_of _ (by decide +kernel)) ggL_law_X2_count
set_option maxRecDepth 20000 in
theorem ggL_law_X3_count : GoodIn wsL_law wsX3_count := goodIn_r _ [411, 70, 412, 109, 102, 103, 5, 104, 413, 414, 415, 416, 155, 156, 157, 158, 152, 153, 154, 159, 160, 161, 162, 330, 331, 332, 333, 321, 322, 323, 324, 636, 637, 638, 639, 640, 641, 642, 643, 644, 645, 646, 647, 648] (by decide +kernel) (by decide +kernel)
set_option maxRecDepth 20000 in
theorem gL_law_X3_count : GoodIn wsL_law (wsV RL 54 RX3 yX3_count wsX3_count) := goodIn_app (goodIn_of _ (by decide +kernel)) ggL_law_X3_count
set_option maxRecDepth 20000 in
theorem ggL_law_X2_worst : GoodIn wsL_law wsX2_worst := goodIn_r _ [420, 16, 388, 135, 2, 136, 628, 629, 630, 631, 632, 633, 634, 635, 649, 650, 651, 652, 653, 654, 655, 656, 657, 658, 659, 660, 661, 662, 663, 664, 665, 666] (by decide +kernel) (by decide +kernel)
set_option maxRecDepth 20000 in
theorem gL_law_X2_worst : GoodIn wsL_law (wsV RL 55 RX2 yX2_worst wsX2_worst) := goodIn_app (goodIn_of _ (by decide +kernel)) ggL_law_X2_worst
set_option maxRecDepth 20000 in
theorem ggL_law_X3_worst : GoodIn wsL_law wsX3_worst := goodIn_r _ [424, 155, 156, 157, 5, 158, 152, 153, 154, 102, 103, 104, 159, 160, 161, 162, 70, 425, 426, 427, 428, 636, 637, 638, 639, 640, 641, 642, 643, 644, 645, 646, 647, 648] (by decide +kernel) (by decide +kernel)
set_option maxRecDepth 20000 in
theorem gL_law_X3_worst : GoodIn wsL_law (wsV RL 59 RX3 yX3_worst wsX3_worst) := goodIn_app (goodIn_of _ (by decide +kernel)) ggL_law_X3_worst
set_option maxRecDepth 20000 in
theorem ggL_law_X2_why : GoodIn wsL_law wsX2_why := goodIn_r _ [432, 16, 388, 135, 2, 136, 244, 15, 245, 246, 32, 247, 248, 249, 250, 46, 47, 302, 303, 304, 40, 41, 628, 629, 630, 631, 632, 633, 634, 635, 649, 650, 651, 652, 653, 654, 655, 656, 657, 658, 659, 660, 661, 662, 663, 664, 665, 666] (by decide +kernel) (by decide +kernel)
set_option maxRecDepth 20000 in
theorem gL_law_X2_why : GoodIn wsL_law (wsV RL 60 RX2 yX2_why wsX2_why) := goodIn_app (goodIn_of _ (by decide +kernel)) ggL_law_X2_why
set_option maxRecDepth 20000 in
theorem ggL_law_X3_why : GoodIn wsL_law wsX3_why := goodIn_r _ [436, 70, 155, 156, 157, 5, 158, 152, 153, 154, 102, 103, 104, 159, 160, 161, 162, 330, 331, 332, 333, 321, 322, 323, 324, 380, 381, 382, 383, 350, 351, 352, 353, 636, 637, 638, 639, 640, 641, 642, 643, 644, 645, 646, 647, 648] (by decide +kernel) (by decide +kernel)
set_option maxRecDepth 20000 in
theorem gL_law_X3_why : GoodIn wsL_law (wsV RL 63 RX3 yX3_why wsX3_why) := goodIn_app (goodIn_of _ (by decide +kernel)) ggL_law_X3_why
set_option maxRecDepth 20000 in
theorem ggL_law_X2_rainIn : GoodIn wsL_law wsX2_rainIn := goodIn_r _ [440, 16, 441, 15, 442, 443, 247, 248, 249, 250, 46, 47, 628, 629, 630, 631, 632, 633, 634, 635, 649, 650, 651, 652, 653, 654, 655, 656, 657, 658, 659, 660, 661, 662, 663, 664, 665, 666] (by decide +kernel) (by decide +kernel)
set_option maxRecDepth 20000 in
theorem gL_law_X2_rainIn : GoodIn wsL_law (wsV RL 64 RX2 yX2_rainIn wsX2_rainIn) := goodIn_app (goodIn_of _ (by decide +kernel)) ggL_law_X2_rainIn
set_option maxRecDepth 20000 in
theorem ggL_law_X3_rainIn : GoodIn wsL_law wsX3_rainIn := goodIn_r _ [447, 321, 322, 323, 5, 324, 70, 636, 637, 638, 639, 640, 641, 642, 643, 644, 645, 646, 647, 648] (by decide +kernel) (by decide +kernel)
set_option maxRecDepth 20000 in
theorem gL_law_X3_rainIn : GoodIn wsL_law (wsV RL 67 RX3 yX3_rainIn wsX3_rainIn) := goodIn_app (goodIn_of _ (by decide +kernel)) ggL_law_X3_rainIn
set_option maxRecDepth 20000 in
theorem ggL_law_X2_coveredIn : GoodIn wsL_law wsX2_coveredIn := goodIn_r _ [451, 16, 18, 388, 135, 2, 136, 80, 81, 82, 83, 51, 52, 53, 236, 15, 237, 238, 48, 47, 239, 240, 241, 242, 40, 34, 35, 41, 243, 244, 245, 246, 32, 247, 248, 249, 250, 46, 251, 252, 253, 254, 255, 256, 257, 36, 258, 259, 260, 261, 33, 262, 263, 264, 265, 45, 266, 267, 268, 269, 270, 271, 272, 273, 44, 274, 275, 276, 277, 42, 278, 279, 280, 281, 43, 282, 283, 284, 285, 37, 286, 287, 288, 39, 289, 290, 291, 292, 293, 294, 295, 296, 38, 297, 298, 299, 300, 49, 301, 302, 303, 304, 628, 629, 630, 631, 632, 633, 634, 635, 649, 650, 651, 652, 653, 654, 655, 656, 657, 658, 659, 660, 661, 662, 663, 664, 665, 666] (by decide +kernel) (by decide +kernel)
set_option maxRecDepth 20000 in
theorem gL_law_X2_coveredIn : GoodIn wsL_law (wsV RL 68 RX2 yX2_coveredIn wsX2_coveredIn) := goodIn_app (goodIn_of _ (by decide +kernel)) ggL_law_X2_coveredIn
set_option maxRecDepth 20000 in
theorem ggL_law_X3_coveredIn : GoodIn wsL_law wsX3_coveredIn := goodIn_r _ [455, 70, 71, 155, 156, 157, 5, 158, 152, 153, 154, 102, 103, 104, 159, 160, 161, 162, 110, 111, 112, 317, 318, 319, 320, 321, 322, 323, 324, 325, 326, 327, 328, 329, 330, 331, 332, 333, 334, 335, 336, 337, 338, 339, 340, 341, 342, 343, 344, 345, 346, 347, 348, 349, 350, 351, 352, 353, 354, 355, 356, 357, 358, 359, 360, 361, 362, 363, 364, 167, 168, 169, 170, 365, 366, 367, 368, 369, 370, 371, 372, 373, 374, 375, 376, 377, 378, 379, 380, 381, 382, 383, 636, 637, 638, 639, 640, 641, 642, 643, 644, 645, 646, 647, 648] (by decide +kernel) (by decide +kernel)
set_option maxRecDepth 20000 in
theorem gL_law_X3_coveredIn : GoodIn wsL_law (wsV RL 71 RX3 yX3_coveredIn wsX3_coveredIn) := goodIn_app (goodIn_of _ (by decide +kernel)) ggL_law_X3_coveredIn
set_option maxRecDepth 20000 in
theorem ggL_law_X2_willBeWet : GoodIn wsL_law wsX2_willBeWet := goodIn_r _ [459, 16, 18, 80, 81, 2, 82, 83, 51, 52, 53, 236, 15, 237, 238, 48, 47, 239, 240, 241, 242, 40, 34, 35, 41, 243, 244, 245, 246, 32, 247, 248, 249, 250, 46, 251, 252, 253, 135, 136, 254, 255, 256, 257, 36, 258, 259, 260, 261, 33, 262, 263, 264, 265, 45, 266, 267, 268, 269, 270, 271, 272, 273, 44, 274, 275, 276, 277, 42, 278, 279, 280, 281, 43, 282, 283, 284, 285, 37, 286, 287, 288, 39, 289, 290, 291, 292, 293, 294, 295, 296, 38, 297, 298, 299, 300, 49, 301, 302, 303, 304, 628, 629, 630, 631, 632, 633, 634, 635, 649, 650, 651, 652, 653, 654, 655, 656, 657, 658, 659, 660, 661, 662, 663, 664, 665, 666] (by decide +kernel) (by decide +kernel)
set_option maxRecDepth 20000 in
theorem gL_law_X2_willBeWet : GoodIn wsL_law (wsV RL 72 RX2 yX2_willBeWet wsX2_willBeWet) := goodIn_app (goodIn_of _ (by decide +kernel)) ggL_law_X2_willBeWet
set_option maxRecDepth 20000 in
theorem ggL_law_X3_willBeWet : GoodIn wsL_law wsX3_willBeWet := goodIn_r _ [463, 70, 71, 102, 103, 5, 104, 110, 111, 112, 313, 314, 315, 316, 317, 318, 319, 320, 321, 322, 323, 324, 325, 326, 327, 328, 329, 330, 331, 332, 333, 334, 335, 336, 337, 338, 339, 340, 341, 342, 343, 344, 345, 155, 156, 157, 158, 152, 153, 154, 159, 160, 161, 162, 346, 347, 348, 349, 350, 351, 352, 353, 354, 355, 356, 357, 358, 359, 360, 361, 362, 363, 364, 167, 168, 169, 170, 365, 366, 367, 368, 369, 370, 371, 372, 373, 374, 375, 376, 377, 378, 379, 380, 381, 382, 383, 636, 637, 638, 639, 640, 641, 642, 643, 644, 645, 646, 647, 648] (by decide +kernel) (by decide +kernel)

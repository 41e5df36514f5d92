set_option maxRecDepth 20000 in
theorem gL_law_X3_willBeWet : GoodIn wsL_law (wsV RL 75 RX3 yX3_willBeWet wsX3_willBeWet) := goodIn_app (goodIn_of _ (by decide +kernel)) ggL_law_X3_willBeWet
set_option maxRecDepth 20000 in
theorem ggL_law_X2_bestPlace : GoodIn wsL_law wsX2_bestPlace := goodIn_r _ [467, 468, 469, 470, 2, 471, 16, 18, 80, 81, 82, 83, 51, 52, 53, 194, 15, 195, 196, 40, 41, 42, 43, 44, 45, 236, 237, 238, 48, 47, 239, 240, 241, 242, 34, 35, 243, 244, 245, 246, 32, 247, 248, 249, 250, 46, 251, 252, 253, 135, 136, 254, 255, 256, 257, 36, 258, 259, 260, 261, 33, 262, 263, 264, 265, 266, 267, 268, 269, 270, 271, 272, 273, 274, 275, 276, 277, 278, 279, 280, 281, 282, 283, 284, 285, 37, 286, 287, 288, 39, 289, 290, 291, 292, 293, 294, 295, 296, 38, 297, 298, 299, 300, 49, 301, 302, 303, 304, 628, 629, 630, 631, 632, 633, 634, 635, 649, 650, 651, 652, 653, 654, 655, 656, 657, 658, 659, 660, 661, 662, 663, 664, 665, 666] (by decide +kernel) (by decide +kernel)
set_option maxRecDepth 20000 in
theorem gL_law_X2_bestPlace : GoodIn wsL_law (wsV RL 76 RX2 yX2_bestPlace wsX2_bestPlace) := goodIn_app (goodIn_of _ (by decide +kernel)) ggL_law_X2_bestPlace
set_option maxRecDepth 20000 in
theorem ggL_law_X3_bestPlace : GoodIn wsL_law wsX3_bestPlace := goodIn_r _ [475, 70, 71, 102, 103, 5, 104, 110, 111, 112, 205, 206, 207, 208, 313, 314, 315, 316, 317, 318, 319, 320, 321, 322, 323, 324, 325, 326, 327, 328, 329, 330, 331, 332, 333, 334, 335, 336, 337, 338, 339, 340, 341, 342, 343, 344, 345, 155, 156, 157, 158, 152, 153, 154, 159, 160, 161, 162, 346, 347, 348, 349, 350, 351, 352, 353, 354, 355, 356, 357, 358, 359, 360, 361, 362, 363, 364, 167, 168, 169, 170, 365, 366, 367, 368, 369, 370, 371, 372, 373, 374, 375, 376, 377, 378, 379, 380, 381, 382, 383, 636, 637, 638, 639, 640, 641, 642, 643, 644, 645, 646, 647, 648] (by decide +kernel) (by decide +kernel)
set_option maxRecDepth 20000 in
theorem gL_law_X3_bestPlace : GoodIn wsL_law (wsV RL 79 RX3 yX3_bestPlace wsX3_bestPlace) := goodIn_app (goodIn_of _ (by decide +kernel)) ggL_law_X3_bestPlace
set_option maxRecDepth 20000 in
theorem ggL_law_X2_put : GoodIn wsL_law wsX2_put := goodIn_r _ [479, 27, 480, 481, 482, 2, 483, 484, 485, 486, 26, 487, 488, 59, 58, 628, 629, 630, 631, 632, 633, 634, 635, 667, 668, 669, 670, 671, 672, 673, 674] (by decide +kernel) (by decide +kernel)
set_option maxRecDepth 20000 in
theorem gL_law_X2_put : GoodIn wsL_law (wsV RL 82 RX2 yX2_put wsX2_put) := goodIn_app (goodIn_of _ (by decide +kernel)) ggL_law_X2_put
set_option maxRecDepth 20000 in
theorem ggL_law_X3_put : GoodIn wsL_law wsX3_put := goodIn_r _ [492, 493, 412, 75, 102, 103, 5, 104, 636, 637, 638, 639, 640, 641, 642, 643, 644, 645, 646, 647, 648] (by decide +kernel) (by decide +kernel)
set_option maxRecDepth 20000 in
theorem gL_law_X3_put : GoodIn wsL_law (wsV RL 86 RX3 yX3_put wsX3_put) := goodIn_app (goodIn_of _ (by decide +kernel)) ggL_law_X3_put
set_option maxRecDepth 20000 in
theorem ggL_law_X2_wipe : GoodIn wsL_law wsX2_wipe := goodIn_r _ [497, 27, 498, 26, 499, 500, 59, 628, 629, 630, 631, 632, 633, 634, 635, 667, 668, 669, 670, 671, 672, 673, 674] (by decide +kernel) (by decide +kernel)
set_option maxRecDepth 20000 in
theorem gL_law_X2_wipe : GoodIn wsL_law (wsV RL 87 RX2 yX2_wipe wsX2_wipe) := goodIn_app (goodIn_of _ (by decide +kernel)) ggL_law_X2_wipe
set_option maxRecDepth 20000 in
theorem ggL_law_X3_wipe : GoodIn wsL_law wsX3_wipe := goodIn_r _ [504, 412, 636, 637, 638, 639, 640, 641, 642, 643, 644, 645, 646, 647, 648] (by decide +kernel) (by decide +kernel)
set_option maxRecDepth 20000 in
theorem gL_law_X3_wipe : GoodIn wsL_law (wsV RL 90 RX3 yX3_wipe wsX3_wipe) := goodIn_app (goodIn_of _ (by decide +kernel)) ggL_law_X3_wipe
set_option maxRecDepth 20000 in
theorem ggL_law_X2_fault : GoodIn wsL_law wsX2_fault := goodIn_r _ [508, 27, 509, 26, 510, 511, 65, 60, 512, 513, 514, 515, 516, 517, 518, 519, 62, 63, 64, 61, 59, 520, 521, 522, 523, 58, 524, 525, 526, 527, 528, 529, 530, 531, 532, 533, 534, 535, 536, 537, 538, 539, 540, 541, 542, 628, 629, 630, 631, 632, 633, 634, 635, 667, 668, 669, 670, 671, 672, 673, 674] (by decide +kernel) (by decide +kernel)
set_option maxRecDepth 20000 in
theorem gL_law_X2_fault : GoodIn wsL_law (wsV RL 91 RX2 yX2_fault wsX2_fault) := goodIn_app (goodIn_of _ (by decide +kernel)) ggL_law_X2_fault
set_option maxRecDepth 20000 in
theorem ggL_law_X3_fault : GoodIn wsL_law wsX3_fault := goodIn_r _ [546, 547, 548, 549, 5, 550, 551, 412, 552, 553, 554, 555, 556, 557, 558, 559, 560, 561, 75, 562, 563, 564, 565, 566, 567, 568, 569, 570, 571, 572, 573, 574, 102, 103, 104, 575, 576, 577, 578, 579, 580, 581, 582, 636, 637, 638, 639, 640, 641, 642, 643, 644, 645, 646, 647, 648] (by decide +kernel) (by decide +kernel)
set_option maxRecDepth 20000 in
theorem gL_law_X3_fault : GoodIn wsL_law (wsV RL 94 RX3 yX3_fault wsX3_fault) := goodIn_app (goodIn_of _ (by decide +kernel)) ggL_law_X3_fault
set_option maxRecDepth 20000 in
theorem ggL_law_X2_carryOut : GoodIn wsL_law wsX2_carryOut := goodIn_r _ [586, 27, 16, 17, 509, 26, 510, 511, 65, 60, 512, 513, 514, 515, 516, 517, 518, 519, 62, 63, 64, 61, 59, 520, 521, 522, 523, 58, 524, 525, 526, 527, 528, 529, 530, 531, 532, 533, 534, 535, 536, 537, 538, 539, 540, 541, 542, 80, 81, 2, 82, 83, 51, 52, 53, 587, 588, 589, 590, 130, 15, 131, 132, 33, 34, 36, 37, 38, 39, 133, 134, 135, 136, 137, 138, 139, 140, 141, 142, 143, 190, 191, 192, 40, 193, 194, 195, 196, 41, 42, 43, 44, 45, 213, 214, 215, 35, 117, 118, 119, 120, 46, 232, 233, 234, 47, 235, 236, 237, 238, 48, 239, 240, 241, 242, 243, 244, 245, 246, 32, 247, 248, 249, 250, 251, 252, 253, 254, 255, 256, 257, 258, 259, 260, 261, 262, 263, 264, 265, 266, 267, 268, 269, 270, 271, 272, 273, 274, 275, 276, 277, 278, 279, 280, 281, 282, 283, 284, 285, 286, 287, 288, 289, 290, 291, 292, 293, 294, 295, 296, 297, 298, 299, 300, 49, 301, 302, 303, 304, 498, 499, 500, 87, 88, 89, 90, 20, 19, 91, 92, 93, 94, 628, 629, 630, 631, 632, 633, 634, 635, 667, 668, 669, 670, 671, 672, 673, 674, 649, 650, 651, 652, 653, 654, 655, 656, 657, 658, 659, 660, 661, 662, 663, 664, 665, 666] (by decide +kernel) (by decide +kernel)
set_option maxRecDepth 20000 in
theorem gL_law_X2_carryOut : GoodIn wsL_law (wsV RL 95 RX2 yX2_carryOut wsX2_carryOut) := goodIn_app (goodIn_of _ (by decide +kernel)) ggL_law_X2_carryOut
set_option maxRecDepth 20000 in
theorem ggL_law_X3_carryOut : GoodIn wsL_law wsX3_carryOut := goodIn_r _ [594, 551, 412, 547, 548, 549, 5, 550, 552, 553, 554, 555, 556, 557, 558, 559, 560, 561, 75, 562, 563, 564, 565, 566, 567, 568, 569, 570, 571, 572, 573, 574, 102, 103, 104, 575, 576, 577, 578, 579, 580, 581, 582, 105, 106, 107, 108, 109, 72, 70, 110, 111, 112, 595, 596, 597, 598, 148, 149, 150, 151, 152, 153, 154, 155, 156, 157, 158, 159, 160, 161, 162, 201, 202, 203, 204, 220, 221, 222, 223, 309, 310, 311, 312, 599, 600, 601, 602, 163, 164, 165, 166, 167, 168, 169, 170, 205, 206, 207, 208, 313, 314, 315, 316, 317, 318, 319, 320, 321, 322, 323, 324, 325, 326, 327, 328, 329, 330, 331, 332, 333, 334, 335, 336, 337, 338, 339, 340, 341, 342, 343, 344, 345, 346, 347, 348, 349, 350, 351, 352, 353, 354, 355, 356, 357, 358, 359, 360, 361, 362, 363, 364, 365, 366, 367, 368, 369, 370, 371, 372, 373, 374, 375, 376, 377, 378, 379, 380, 381, 382, 383, 636, 637, 638, 639, 640, 641, 642, 643, 644, 645, 646, 647, 648] (by decide +kernel) (by decide +kernel)
set_option maxRecDepth 20000 in
theorem gL_law_X3_carryOut : GoodIn wsL_law (wsV RL 98 RX3 yX3_carryOut wsX3_carryOut) := goodIn_app (goodIn_of _ (by decide +kernel)) ggL_law_X3_carryOut
set_option maxRecDepth 20000 in
theorem ggL_law_X2_undo : GoodIn wsL_law wsX2_undo := goodIn_r _ [606, 20, 19, 16, 80, 81, 2, 82, 83, 51, 52, 53, 628, 629, 630, 631, 632, 633, 634, 635, 649, 650, 651, 652, 653, 654, 655, 656, 657, 658, 659, 660, 661, 662, 663, 664, 665, 666] (by decide +kernel) (by decide +kernel)
set_option maxRecDepth 20000 in
theorem gL_law_X2_undo : GoodIn wsL_law (wsV RL 99 RX2 yX2_undo wsX2_undo) := goodIn_app (goodIn_of _ (by decide +kernel)) ggL_law_X2_undo
set_option maxRecDepth 20000 in
theorem ggL_law_X3_undo : GoodIn wsL_law wsX3_undo := goodIn_r _ [610, 109, 72, 70, 110, 111, 5, 112, 636, 637, 638, 639, 640, 641, 642, 643, 644, 645, 646, 647, 648] (by decide +kernel) (by decide +kernel)
set_option maxRecDepth 20000 in
theorem gL_law_X3_undo : GoodIn wsL_law (wsV RL 102 RX3 yX3_undo wsX3_undo) := goodIn_app (goodIn_of _ (by decide +kernel)) ggL_law_X3_undo
set_option maxRecDepth 20000 in
theorem ggL_law_X2_save : GoodIn wsL_law wsX2_save := goodIn_r _ [614, 16, 21, 23, 80, 81, 2, 82, 83, 51, 52, 53, 615, 138, 139, 140, 141, 142, 143, 628, 629, 630, 631, 632, 633, 634, 635, 649, 650, 651, 652, 653, 654, 655, 656, 657, 658, 659, 660, 661, 662, 663, 664, 665, 666] (by decide +kernel) (by decide +kernel)
set_option maxRecDepth 20000 in
theorem gL_law_X2_save : GoodIn wsL_law (wsV RL 103 RX2 yX2_save wsX2_save) := goodIn_app (goodIn_of _ (by decide +kernel)) ggL_law_X2_save
set_option maxRecDepth 20000 in
theorem ggL_law_X3_save : GoodIn wsL_law wsX3_save := goodIn_r _ [619, 70, 73, 74, 102, 103, 5, 104, 110, 111, 112, 171, 172, 173, 174, 159, 160, 161, 162, 636, 637, 638, 639, 640, 641, 642, 643, 644, 645, 646, 647, 648] (by decide +kernel) (by decide +kernel)

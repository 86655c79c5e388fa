set_option maxRecDepth 20000 in
theorem ggL_law_X5_init : GoodIn wsL_law wsX5_init := goodIn_r _ [9, 10, 11, 12, 13, 14, 15, 16, 17, 18, 19, 20, 21, 22, 23, 24, 25, 26, 27, 28, 29, 30, 31, 32, 33, 34, 35, 36, 37, 38, 39, 40, 41, 42, 43, 44, 45, 46, 47, 48, 49, 50, 51, 52, 53, 54, 55, 56, 57, 58, 59, 60, 61, 62, 63, 64, 65, 66, 67, 68, 69, 70, 71, 72, 73, 74, 75, 76, 77, 78, 79, 80, 81, 82, 83, 84, 85, 86, 87, 569, 540, 541, 542, 543, 544, 545, 570, 571, 572, 573, 574, 575, 576, 577, 578, 579, 580, 581, 582, 583, 584, 585, 586, 587, 588, 589, 590, 591, 592, 593, 594, 595, 596, 597, 598, 599, 600, 601] (by decide +kernel) (by decide +kernel)
set_option maxRecDepth 20000 in
theorem gL_law_X5_init : GoodIn wsL_law (wsX5_init) := ggL_law_X5_init
set_option maxRecDepth 20000 in
theorem ggL_law_X6_init : GoodIn wsL_law wsX6_init := goodIn_r _ [90, 91, 11, 12, 38, 92, 93, 94, 95, 96, 97, 98, 99, 70, 100, 101, 102, 103, 104, 105, 106, 107, 108, 109, 110, 111, 546, 547, 548, 549, 550, 551, 552, 553, 554, 555, 556, 557, 558, 559, 560, 561, 562, 563, 564, 565, 566, 567, 568] (by decide +kernel) (by decide +kernel)
set_option maxRecDepth 20000 in
theorem gL_law_X6_init : GoodIn wsL_law (wsX6_init) := ggL_law_X6_init
set_option maxRecDepth 20000 in
theorem ggL_law_X5_value : GoodIn wsL_law wsX5_value := goodIn_r _ [115, 28, 16, 116, 117, 2, 118, 119, 120, 121, 122, 123, 124, 125, 27, 126, 73, 127, 128, 129, 15, 130, 39, 540, 541, 542, 543, 544, 545, 581, 582, 583, 584, 585, 586, 587, 588, 589, 590, 569] (by decide +kernel) (by decide +kernel)
set_option maxRecDepth 20000 in
theorem gL_law_X5_value : GoodIn wsL_law (wsV RL 13 RX5 yX5_value wsX5_value) := goodIn_app (goodIn_of _ (by decide +kernel)) ggL_law_X5_value
set_option maxRecDepth 20000 in
theorem ggL_law_X6_value : GoodIn wsL_law wsX6_value := goodIn_r _ [134, 135, 136, 137, 138, 92, 139, 140, 5, 141, 142, 143, 144, 546, 547, 548, 549, 550, 551, 552, 553, 554, 555, 556, 557, 558, 559, 560, 561, 562, 563, 564, 565, 566, 567, 568] (by decide +kernel) (by decide +kernel)
set_option maxRecDepth 20000 in
theorem gL_law_X6_value : GoodIn wsL_law (wsV RL 17 RX6 yX6_value wsX6_value) := goodIn_app (goodIn_of _ (by decide +kernel)) ggL_law_X6_value
set_option maxRecDepth 20000 in
theorem ggL_law_X5_worth : GoodIn wsL_law wsX5_worth := goodIn_r _ [148, 33, 149, 16, 150, 151, 2, 152, 116, 117, 118, 153, 154, 155, 15, 156, 39, 157, 158, 159, 160, 161, 540, 541, 542, 543, 544, 545, 569] (by decide +kernel) (by decide +kernel)
set_option maxRecDepth 20000 in
theorem gL_law_X5_worth : GoodIn wsL_law (wsV RL 18 RX5 yX5_worth wsX5_worth) := goodIn_app (goodIn_of _ (by decide +kernel)) ggL_law_X5_worth
set_option maxRecDepth 20000 in
theorem ggL_law_X6_worth : GoodIn wsL_law wsX6_worth := goodIn_r _ [165, 135, 166, 167, 168, 169, 170, 171, 5, 172, 173, 136, 139, 140, 141, 174, 175, 176, 177, 92, 178, 179, 180, 137, 138, 181, 182, 183, 184, 185, 546, 547, 548, 549, 550, 551, 552, 553, 554, 555, 556, 557, 558, 559, 560, 561, 562, 563, 564, 565, 566, 567, 568] (by decide +kernel) (by decide +kernel)
set_option maxRecDepth 20000 in
theorem gL_law_X6_worth : GoodIn wsL_law (wsV RL 22 RX6 yX6_worth wsX6_worth) := goodIn_app (goodIn_of _ (by decide +kernel)) ggL_law_X6_worth
set_option maxRecDepth 20000 in
theorem ggL_law_X5_type : GoodIn wsL_law wsX5_type := goodIn_r _ [189, 20, 190, 191, 192, 2, 193, 194, 195, 196, 197, 157, 158, 159, 160, 161, 198, 199, 200, 19, 201, 47, 202, 203, 204, 205, 206, 207, 48, 49, 540, 541, 542, 543, 544, 545, 570, 571, 572, 573, 574] (by decide +kernel) (by decide +kernel)
set_option maxRecDepth 20000 in
theorem gL_law_X5_type : GoodIn wsL_law (wsV RL 25 RX5 yX5_type wsX5_type) := goodIn_app (goodIn_of _ (by decide +kernel)) ggL_law_X5_type
set_option maxRecDepth 20000 in
theorem ggL_law_X6_type : GoodIn wsL_law wsX6_type := goodIn_r _ [211, 135, 212, 166, 213, 93, 139, 140, 5, 141, 178, 179, 180, 137, 138, 181, 182, 183, 184, 185, 546, 547, 548, 549, 550, 551, 552, 553, 554, 555, 556, 557, 558, 559, 560, 561, 562, 563, 564, 565, 566, 567, 568] (by decide +kernel) (by decide +kernel)
set_option maxRecDepth 20000 in
theorem gL_law_X6_type : GoodIn wsL_law (wsV RL 29 RX6 yX6_type wsX6_type) := goodIn_app (goodIn_of _ (by decide +kernel)) ggL_law_X6_type
set_option maxRecDepth 20000 in
theorem ggL_law_X5_clear : GoodIn wsL_law wsX5_clear := goodIn_r _ [217, 20, 190, 218, 219, 220, 19, 221, 202, 207, 540, 541, 542, 543, 544, 545, 570, 571, 572, 573, 574] (by decide +kernel) (by decide +kernel)
set_option maxRecDepth 20000 in
theorem gL_law_X5_clear : GoodIn wsL_law (wsV RL 30 RX5 yX5_clear wsX5_clear) := goodIn_app (goodIn_of _ (by decide +kernel)) ggL_law_X5_clear
set_option maxRecDepth 20000 in
theorem ggL_law_X6_clear : GoodIn wsL_law wsX6_clear := goodIn_r _ [225, 135, 213, 546, 547, 548, 549, 550, 551, 552, 553, 554, 555, 556, 557, 558, 559, 560, 561, 562, 563, 564, 565, 566, 567, 568] (by decide +kernel) (by decide +kernel)
set_option maxRecDepth 20000 in
theorem gL_law_X6_clear : GoodIn wsL_law (wsV RL 34 RX6 yX6_clear wsX6_clear) := goodIn_app (goodIn_of _ (by decide +kernel)) ggL_law_X6_clear
set_option maxRecDepth 20000 in
theorem ggL_law_X5_sum : GoodIn wsL_law wsX5_sum := goodIn_r _ [229, 150, 151, 2, 152, 116, 117, 118, 230, 231, 232, 233, 16, 20, 234, 190, 235, 236, 237, 15, 238, 239, 154, 155, 156, 39, 157, 158, 159, 160, 161, 540, 541, 542, 543, 544, 545, 570, 571, 572, 573, 574, 569] (by decide +kernel) (by decide +kernel)
set_option maxRecDepth 20000 in
theorem gL_law_X5_sum : GoodIn wsL_law (wsV RL 35 RX5 yX5_sum wsX5_sum) := goodIn_app (goodIn_of _ (by decide +kernel)) ggL_law_X5_sum
set_option maxRecDepth 20000 in
theorem ggL_law_X6_sum : GoodIn wsL_law wsX6_sum := goodIn_r _ [243, 135, 170, 171, 5, 172, 173, 136, 139, 140, 141, 244, 245, 246, 247, 213, 93, 174, 175, 176, 177, 92, 178, 179, 180, 137, 138, 181, 182, 183, 184, 185, 546, 547, 548, 549, 550, 551, 552, 553, 554, 555, 556, 557, 558, 559, 560, 561, 562, 563, 564, 565, 566, 567, 568] (by decide +kernel) (by decide +kernel)
set_option maxRecDepth 20000 in
theorem gL_law_X6_sum : GoodIn wsL_law (wsV RL 39 RX6 yX6_sum wsX6_sum) := goodIn_app (goodIn_of _ (by decide +kernel)) ggL_law_X6_sum
set_option maxRecDepth 20000 in
theorem ggL_law_X5_vocable : GoodIn wsL_law wsX5_vocable := goodIn_r _ [251, 20, 24, 252, 28, 116, 117, 2, 118, 253, 254, 255, 19, 256, 202, 47, 157, 158, 159, 160, 161, 257, 258, 259, 23, 260, 261, 54, 262, 263, 264, 41, 42, 43, 55, 56, 57, 218, 219, 220, 221, 207, 123, 124, 125, 27, 126, 73, 540, 541, 542, 543, 544, 545, 575, 576, 577, 578, 579, 580, 570, 571, 572, 573, 574, 581, 582, 583, 584, 585, 586, 587, 588, 589, 590] (by decide +kernel) (by decide +kernel)
set_option maxRecDepth 20000 in
theorem gL_law_X5_vocable : GoodIn wsL_law (wsV RL 40 RX5 yX5_vocable wsX5_vocable) := goodIn_app (goodIn_of _ (by decide +kernel)) ggL_law_X5_vocable
set_option maxRecDepth 20000 in
theorem ggL_law_X6_vocable : GoodIn wsL_law wsX6_vocable := goodIn_r _ [268, 135, 136, 173, 213, 212, 93, 269, 94, 95, 96, 97, 139, 140, 5, 141, 178, 179, 180, 137, 138, 181, 182, 183, 184, 185, 546, 547, 548, 549, 550, 551, 552, 553, 554, 555, 556, 557, 558, 559, 560, 561, 562, 563, 564, 565, 566, 567, 568] (by decide +kernel) (by decide +kernel)
set_option maxRecDepth 20000 in
theorem gL_law_X6_vocable : GoodIn wsL_law (wsV RL 43 RX6 yX6_vocable wsX6_vocable) := goodIn_app (goodIn_of _ (by decide +kernel)) ggL_law_X6_vocable
set_option maxRecDepth 20000 in
theorem ggL_law_X5_about : GoodIn wsL_law wsX5_about := goodIn_r _ [273, 24, 252, 274, 275, 276, 277, 116, 117, 2, 118, 540, 541, 542, 543, 544, 545, 575, 576, 577, 578, 579, 580] (by decide +kernel) (by decide +kernel)
set_option maxRecDepth 20000 in
theorem gL_law_X5_about : GoodIn wsL_law (wsV RL 44 RX5 yX5_about wsX5_about) := goodIn_app (goodIn_of _ (by decide +kernel)) ggL_law_X5_about
set_option maxRecDepth 20000 in
theorem ggL_law_X6_about : GoodIn wsL_law wsX6_about := goodIn_r _ [281, 135, 269, 136, 95, 96, 97, 94, 139, 140, 5, 141, 546, 547, 548, 549, 550, 551, 552, 553, 554, 555, 556, 557, 558, 559, 560, 561, 562, 563, 564, 565, 566, 567, 568] (by decide +kernel) (by decide +kernel)
set_option maxRecDepth 20000 in
theorem gL_law_X6_about : GoodIn wsL_law (wsV RL 47 RX6 yX6_about wsX6_about) := goodIn_app (goodIn_of _ (by decide +kernel)) ggL_law_X6_about
set_option maxRecDepth 20000 in
theorem ggL_law_X5_order : GoodIn wsL_law wsX5_order := goodIn_r _ [285, 24, 286, 28, 116, 117, 2, 118, 123, 124, 125, 27, 126, 73, 540, 541, 542, 543, 544, 545, 575, 576, 577, 578, 579, 580, 581, 582, 583, 584, 585, 586, 587, 588, 589, 590] (by decide +kernel) (by decide +kernel)
set_option maxRecDepth 20000 in
theorem gL_law_X5_order : GoodIn wsL_law (wsV RL 48 RX5 yX5_order wsX5_order) := goodIn_app (goodIn_of _ (by decide +kernel)) ggL_law_X5_order
set_option maxRecDepth 20000 in
theorem ggL_law_X6_order : GoodIn wsL_law wsX6_order := goodIn_r _ [290, 135, 136, 291, 98, 139, 140, 5, 141, 546, 547, 548, 549, 550, 551, 552, 553, 554, 555, 556, 557, 558, 559, 560, 561, 562, 563, 564, 565, 566, 567, 568] (by decide +kernel) (by decide +kernel)
set_option maxRecDepth 20000 in
theorem gL_law_X6_order : GoodIn wsL_law (wsV RL 51 RX6 yX6_order wsX6_order) := goodIn_app (goodIn_of _ (by decide +kernel)) ggL_law_X6_order
set_option maxRecDepth 20000 in
theorem ggL_law_X5_many : GoodIn wsL_law wsX5_many := goodIn_r _ [295, 296, 28, 297, 298, 299, 27, 300, 71, 301, 302, 303, 304, 74, 305, 306, 307, 308, 309, 310, 23, 311, 58, 57, 540, 541, 542, 543, 544, 545, 581, 582, 583, 584, 585, 586, 587, 588, 589, 590, 575, 576, 577, 578, 579, 580] (by decide +kernel) (by decide +kernel)
set_option maxRecDepth 20000 in
theorem gL_law_X5_many : GoodIn wsL_law (wsV RL 52 RX5 yX5_many wsX5_many) := goodIn_app (goodIn_of _ (by decide +kernel)) ggL_law_X5_many

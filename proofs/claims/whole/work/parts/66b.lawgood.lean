set_option maxRecDepth 20000 in
theorem ggL_law_X6_many : GoodIn wsL_law wsX6_many := goodIn_r _ [315, 135, 212, 316, 269, 96, 101, 97, 139, 140, 5, 141, 317, 318, 319, 320, 98, 546, 547, 548, 549, 550, 551, 552, 553, 554, 555, 556, 557, 558, 559, 560, 561, 562, 563, 564, 565, 566, 567, 568] (by decide +kernel) (by decide +kernel)
set_option maxRecDepth 20000 in
theorem gL_law_X6_many : GoodIn wsL_law (wsV RL 56 RX6 yX6_many wsX6_many) := goodIn_app (goodIn_of _ (by decide +kernel)) ggL_law_X6_many
set_option maxRecDepth 20000 in
theorem ggL_law_X5_lines : GoodIn wsL_law wsX5_lines := goodIn_r _ [324, 296, 28, 325, 326, 2, 327, 116, 117, 118, 150, 151, 152, 328, 329, 330, 27, 331, 332, 333, 334, 335, 73, 336, 337, 74, 67, 75, 72, 338, 339, 340, 23, 341, 262, 54, 55, 342, 236, 237, 15, 238, 239, 154, 155, 156, 39, 157, 158, 159, 160, 161, 343, 344, 61, 345, 346, 347, 348, 349, 350, 351, 352, 353, 354, 355, 356, 357, 305, 358, 359, 360, 361, 306, 307, 308, 309, 310, 311, 58, 57, 540, 541, 542, 543, 544, 545, 581, 582, 583, 584, 585, 586, 587, 588, 589, 590, 575, 576, 577, 578, 579, 580, 569] (by decide +kernel) (by decide +kernel)
set_option maxRecDepth 20000 in
theorem gL_law_X5_lines : GoodIn wsL_law (wsV RL 57 RX5 yX5_lines wsX5_lines) := goodIn_app (goodIn_of _ (by decide +kernel)) ggL_law_X5_lines
set_option maxRecDepth 20000 in
theorem ggL_law_X6_lines : GoodIn wsL_law wsX6_lines := goodIn_r _ [365, 135, 316, 100, 366, 367, 5, 368, 212, 369, 139, 140, 141, 170, 171, 172, 173, 136, 370, 371, 372, 373, 102, 269, 96, 97, 374, 375, 376, 377, 95, 94, 174, 175, 176, 177, 92, 178, 179, 180, 137, 138, 181, 182, 183, 184, 185, 317, 318, 319, 320, 98, 378, 379, 380, 546, 547, 548, 549, 550, 551, 552, 553, 554, 555, 556, 557, 558, 559, 560, 561, 562, 563, 564, 565, 566, 567, 568] (by decide +kernel) (by decide +kernel)
set_option maxRecDepth 20000 in
theorem gL_law_X6_lines : GoodIn wsL_law (wsV RL 61 RX6 yX6_lines wsX6_lines) := goodIn_app (goodIn_of _ (by decide +kernel)) ggL_law_X6_lines
set_option maxRecDepth 20000 in
theorem ggL_law_X5_line : GoodIn wsL_law wsX5_line := goodIn_r _ [384, 28, 325, 326, 2, 327, 116, 117, 118, 150, 151, 152, 328, 329, 330, 27, 331, 332, 333, 334, 335, 73, 336, 337, 74, 67, 75, 72, 338, 339, 340, 23, 341, 262, 54, 55, 342, 236, 237, 15, 238, 239, 154, 155, 156, 39, 157, 158, 159, 160, 161, 343, 344, 61, 345, 346, 347, 348, 349, 350, 351, 352, 353, 354, 355, 356, 357, 305, 358, 359, 360, 361, 306, 307, 308, 309, 310, 311, 58, 57, 385, 386, 387, 388, 540, 541, 542, 543, 544, 545, 581, 582, 583, 584, 585, 586, 587, 588, 589, 590, 575, 576, 577, 578, 579, 580, 569] (by decide +kernel) (by decide +kernel)
set_option maxRecDepth 20000 in
theorem gL_law_X5_line : GoodIn wsL_law (wsV RL 62 RX5 yX5_line wsX5_line) := goodIn_app (goodIn_of _ (by decide +kernel)) ggL_law_X5_line
set_option maxRecDepth 20000 in
theorem ggL_law_X6_line : GoodIn wsL_law wsX6_line := goodIn_r _ [392, 135, 100, 96, 102, 97, 366, 367, 5, 368, 212, 369, 139, 140, 141, 170, 171, 172, 173, 136, 370, 371, 372, 373, 269, 374, 375, 376, 377, 95, 94, 174, 175, 176, 177, 92, 178, 179, 180, 137, 138, 181, 182, 183, 184, 185, 317, 318, 319, 320, 98, 378, 379, 380, 546, 547, 548, 549, 550, 551, 552, 553, 554, 555, 556, 557, 558, 559, 560, 561, 562, 563, 564, 565, 566, 567, 568] (by decide +kernel) (by decide +kernel)
set_option maxRecDepth 20000 in
theorem gL_law_X6_line : GoodIn wsL_law (wsV RL 66 RX6 yX6_line wsX6_line) := goodIn_app (goodIn_of _ (by decide +kernel)) ggL_law_X6_line
set_option maxRecDepth 20000 in
theorem ggL_law_X5_doubles : GoodIn wsL_law wsX5_doubles := goodIn_r _ [396, 296, 28, 325, 326, 2, 327, 116, 117, 118, 150, 151, 152, 397, 398, 399, 27, 400, 74, 68, 75, 69, 338, 339, 340, 23, 341, 262, 54, 55, 342, 236, 237, 15, 238, 239, 154, 155, 156, 39, 157, 158, 159, 160, 161, 401, 402, 403, 404, 305, 307, 306, 308, 309, 310, 311, 58, 57, 540, 541, 542, 543, 544, 545, 581, 582, 583, 584, 585, 586, 587, 588, 589, 590, 575, 576, 577, 578, 579, 580, 569] (by decide +kernel) (by decide +kernel)
set_option maxRecDepth 20000 in
theorem gL_law_X5_doubles : GoodIn wsL_law (wsV RL 67 RX5 yX5_doubles wsX5_doubles) := goodIn_app (goodIn_of _ (by decide +kernel)) ggL_law_X5_doubles
set_option maxRecDepth 20000 in
theorem ggL_law_X6_doubles : GoodIn wsL_law wsX6_doubles := goodIn_r _ [408, 135, 409, 369, 136, 316, 102, 103, 104, 269, 96, 97, 139, 140, 5, 141, 170, 171, 172, 173, 374, 375, 376, 377, 95, 94, 174, 175, 176, 177, 92, 178, 179, 180, 137, 138, 181, 182, 183, 184, 185, 317, 318, 319, 320, 98, 546, 547, 548, 549, 550, 551, 552, 553, 554, 555, 556, 557, 558, 559, 560, 561, 562, 563, 564, 565, 566, 567, 568] (by decide +kernel) (by decide +kernel)
set_option maxRecDepth 20000 in
theorem gL_law_X6_doubles : GoodIn wsL_law (wsV RL 71 RX6 yX6_doubles wsX6_doubles) := goodIn_app (goodIn_of _ (by decide +kernel)) ggL_law_X6_doubles
set_option maxRecDepth 20000 in
theorem ggL_law_X5_fit : GoodIn wsL_law wsX5_fit := goodIn_r _ [413, 20, 414, 32, 116, 117, 2, 118, 415, 416, 417, 31, 418, 86, 419, 85, 420, 421, 422, 23, 423, 424, 425, 55, 261, 54, 540, 541, 542, 543, 544, 545, 570, 571, 572, 573, 574, 591, 592, 593, 594, 595, 596, 597, 598, 599, 600, 601, 575, 576, 577, 578, 579, 580] (by decide +kernel) (by decide +kernel)
set_option maxRecDepth 20000 in
theorem gL_law_X5_fit : GoodIn wsL_law (wsV RL 72 RX5 yX5_fit wsX5_fit) := goodIn_app (goodIn_of _ (by decide +kernel)) ggL_law_X5_fit
set_option maxRecDepth 20000 in
theorem ggL_law_X6_fit : GoodIn wsL_law wsX6_fit := goodIn_r _ [429, 135, 430, 269, 431, 432, 433, 5, 434, 213, 93, 105, 106, 139, 140, 141, 435, 436, 437, 438, 95, 94, 546, 547, 548, 549, 550, 551, 552, 553, 554, 555, 556, 557, 558, 559, 560, 561, 562, 563, 564, 565, 566, 567, 568] (by decide +kernel) (by decide +kernel)
set_option maxRecDepth 20000 in
theorem gL_law_X6_fit : GoodIn wsL_law (wsV RL 76 RX6 yX6_fit wsX6_fit) := goodIn_app (goodIn_of _ (by decide +kernel)) ggL_law_X6_fit
set_option maxRecDepth 20000 in
theorem ggL_law_X5_readings : GoodIn wsL_law wsX5_readings := goodIn_r _ [442, 20, 414, 32, 443, 444, 445, 31, 446, 81, 85, 447, 448, 449, 450, 451, 452, 453, 344, 61, 345, 454, 455, 456, 457, 82, 86, 419, 458, 420, 421, 422, 23, 423, 424, 425, 55, 261, 54, 459, 460, 461, 462, 463, 309, 310, 311, 58, 57, 540, 541, 542, 543, 544, 545, 570, 571, 572, 573, 574, 591, 592, 593, 594, 595, 596, 597, 598, 599, 600, 601, 575, 576, 577, 578, 579, 580] (by decide +kernel) (by decide +kernel)
set_option maxRecDepth 20000 in
theorem gL_law_X5_readings : GoodIn wsL_law (wsV RL 77 RX5 yX5_readings wsX5_readings) := goodIn_app (goodIn_of _ (by decide +kernel)) ggL_law_X5_readings
set_option maxRecDepth 20000 in
theorem ggL_law_X6_readings : GoodIn wsL_law wsX6_readings := goodIn_r _ [467, 135, 430, 110, 111, 269, 97, 468, 469, 431, 432, 433, 5, 434, 213, 93, 105, 106, 435, 436, 437, 438, 95, 94, 317, 318, 319, 320, 98, 546, 547, 548, 549, 550, 551, 552, 553, 554, 555, 556, 557, 558, 559, 560, 561, 562, 563, 564, 565, 566, 567, 568] (by decide +kernel) (by decide +kernel)
set_option maxRecDepth 20000 in
theorem gL_law_X6_readings : GoodIn wsL_law (wsV RL 80 RX6 yX6_readings wsX6_readings) := goodIn_app (goodIn_of _ (by decide +kernel)) ggL_law_X6_readings
set_option maxRecDepth 20000 in
theorem ggL_law_X5_years : GoodIn wsL_law wsX5_years := goodIn_r _ [473, 20, 414, 32, 474, 475, 476, 150, 151, 2, 152, 116, 117, 118, 477, 478, 479, 31, 480, 86, 80, 87, 83, 85, 447, 481, 482, 483, 484, 339, 340, 23, 341, 262, 54, 55, 342, 236, 237, 15, 238, 239, 154, 155, 156, 39, 157, 158, 159, 160, 161, 453, 344, 61, 345, 485, 486, 487, 488, 84, 419, 489, 41, 42, 43, 420, 421, 422, 423, 424, 425, 261, 490, 491, 492, 493, 458, 463, 309, 310, 311, 58, 57, 494, 495, 496, 497, 498, 499, 500, 501, 540, 541, 542, 543, 544, 545, 570, 571, 572, 573, 574, 591, 592, 593, 594, 595, 596, 597, 598, 599, 600, 601, 575, 576, 577, 578, 579, 580, 569] (by decide +kernel) (by decide +kernel)
set_option maxRecDepth 20000 in
theorem gL_law_X5_years : GoodIn wsL_law (wsV RL 81 RX5 yX5_years wsX5_years) := goodIn_app (goodIn_of _ (by decide +kernel)) ggL_law_X5_years
set_option maxRecDepth 20000 in
theorem ggL_law_X6_years : GoodIn wsL_law wsX6_years := goodIn_r _ [505, 135, 136, 430, 108, 170, 171, 5, 172, 173, 139, 140, 141, 431, 432, 433, 434, 213, 93, 105, 106, 506, 507, 508, 509, 102, 109, 269, 97, 374, 375, 376, 377, 95, 94, 174, 175, 176, 177, 92, 178, 179, 180, 137, 138, 181, 182, 183, 184, 185, 435, 436, 437, 438, 317, 318, 319, 320, 98, 546, 547, 548, 549, 550, 551, 552, 553, 554, 555, 556, 557, 558, 559, 560, 561, 562, 563, 564, 565, 566, 567, 568] (by decide +kernel) (by decide +kernel)
set_option maxRecDepth 20000 in
theorem gL_law_X6_years : GoodIn wsL_law (wsV RL 84 RX6 yX6_years wsX6_years) := goodIn_app (goodIn_of _ (by decide +kernel)) ggL_law_X6_years
set_option maxRecDepth 20000 in
theorem ggL_law_X5_borne : GoodIn wsL_law wsX5_borne := goodIn_r _ [513, 514, 230, 231, 232, 2, 233, 16, 20, 234, 190, 235, 236, 237, 15, 238, 239, 154, 155, 156, 39, 157, 158, 159, 160, 161, 540, 541, 542, 543, 544, 545, 570, 571, 572, 573, 574, 569] (by decide +kernel) (by decide +kernel)
set_option maxRecDepth 20000 in
theorem gL_law_X5_borne : GoodIn wsL_law (wsV RL 85 RX5 yX5_borne wsX5_borne) := goodIn_app (goodIn_of _ (by decide +kernel)) ggL_law_X5_borne
set_option maxRecDepth 20000 in
theorem ggL_law_X6_borne : GoodIn wsL_law wsX6_borne := goodIn_r _ [518, 135, 519, 139, 140, 5, 141, 244, 245, 246, 247, 213, 93, 174, 175, 176, 177, 92, 178, 179, 180, 137, 138, 181, 182, 183, 184, 185, 546, 547, 548, 549, 550, 551, 552, 553, 554, 555, 556, 557, 558, 559, 560, 561, 562, 563, 564, 565, 566, 567, 568] (by decide +kernel) (by decide +kernel)
set_option maxRecDepth 20000 in
theorem gL_law_X6_borne : GoodIn wsL_law (wsV RL 88 RX6 yX6_borne wsX6_borne) := goodIn_app (goodIn_of _ (by decide +kernel)) ggL_law_X6_borne
set_option maxRecDepth 20000 in
theorem ggL_law_X5_count : GoodIn wsL_law wsX5_count := goodIn_r _ [523, 24, 252, 20, 190, 414, 524, 525, 526, 19, 527, 202, 47, 540, 541, 542, 543, 544, 545, 575, 576, 577, 578, 579, 580, 570, 571, 572, 573, 574] (by decide +kernel) (by decide +kernel)
set_option maxRecDepth 20000 in
theorem gL_law_X5_count : GoodIn wsL_law (wsV RL 89 RX5 yX5_count wsX5_count) := goodIn_app (goodIn_of _ (by decide +kernel)) ggL_law_X5_count
set_option maxRecDepth 20000 in
theorem ggL_law_X6_count : GoodIn wsL_law wsX6_count := goodIn_r _ [531, 135, 213, 93, 269, 430, 431, 432, 433, 5, 434, 105, 106, 546, 547, 548, 549, 550, 551, 552, 553, 554, 555, 556, 557, 558, 559, 560, 561, 562, 563, 564, 565, 566, 567, 568] (by decide +kernel) (by decide +kernel)
set_option maxRecDepth 20000 in
theorem gL_law_X6_count : GoodIn wsL_law (wsV RL 92 RX6 yX6_count wsX6_count) := goodIn_app (goodIn_of _ (by decide +kernel)) ggL_law_X6_count
set_option maxRecDepth 20000 in
theorem ggL_law_X5_trace : GoodIn wsL_law wsX5_trace := goodIn_r _ [535, 33, 540, 541, 542, 543, 544, 545] (by decide +kernel) (by decide +kernel)
set_option maxRecDepth 20000 in
theorem gL_law_X5_trace : GoodIn wsL_law (wsV RL 93 RX5 yX5_trace wsX5_trace) := goodIn_app (goodIn_of _ (by decide +kernel)) ggL_law_X5_trace
set_option maxRecDepth 20000 in
theorem ggL_law_X6_trace : GoodIn wsL_law wsX6_trace := goodIn_r _ [539, 135, 167, 546, 547, 548, 549, 550, 551, 552, 553, 554, 555, 556, 557, 558, 559, 560, 561, 562, 563, 564, 565, 566, 567, 568] (by decide +kernel) (by decide +kernel)
set_option maxRecDepth 20000 in
theorem gL_law_X6_trace : GoodIn wsL_law (wsV RL 97 RX6 yX6_trace wsX6_trace) := goodIn_app (goodIn_of _ (by decide +kernel)) ggL_law_X6_trace

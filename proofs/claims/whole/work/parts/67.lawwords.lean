set_option maxRecDepth 20000 in
theorem gL_law_L_cell : GoodIn lw_tbl (va_wsS RL 21 yL_cell wsL_cell) := goodIn_r _ [398, 399, 32, 400] (by decide +kernel) (by decide +kernel)
set_option maxRecDepth 20000 in
theorem gL_law_X7_region : GoodIn lw_tbl (wsV RL 34 RX7 yX7_region wsX7_region) := goodIn_r _ [204, 205, 206, 33, 207, 176, 208, 177, 173, 174, 33, 175, 211, 34, 0, 212, 71, 68, 66, 215, 1, 216, 70, 185, 187, 189, 191, 193, 195, 197, 199, 201, 73, 75, 77, 79] (by decide +kernel) (by decide +kernel)
set_option maxRecDepth 20000 in
theorem gL_law_X8_region : GoodIn lw_tbl (wsV RL 37 RX8 yX8_region wsX8_region) := goodIn_r _ [602, 603, 604, 39, 605, 520, 521, 525, 523, 522, 524, 545, 547, 549, 551, 553, 555, 557, 559, 561, 563, 565, 567, 569, 571, 573, 575, 577, 579, 581, 583, 585, 587, 589, 591, 593] (by decide +kernel) (by decide +kernel)
set_option maxRecDepth 20000 in
theorem gL_law_L_section : GoodIn lw_tbl (va_wsS RL 38 yL_section wsL_section) := goodIn_r _ [401, 402, 32, 403, 404, 405, 406, 407, 33, 408, 409, 43, 172, 208, 178, 173, 174, 175, 477, 35, 23, 478, 97, 89, 91, 93, 479, 481, 24, 482, 95, 185, 187, 189, 191, 193, 195, 197, 199, 201, 99, 101, 103, 105, 107, 40, 431, 440, 443, 446, 448, 432, 433, 58, 59, 434, 439, 444, 464, 421, 465, 423, 466, 425, 435, 437, 427, 460, 461, 463, 427, 451, 452, 453, 454, 454, 455, 456, 457, 457, 458, 459, 460, 450, 410, 418, 419, 420, 422, 424, 426, 430, 429, 428] (by decide +kernel) (by decide +kernel)
set_option maxRecDepth 20000 in
theorem gL_law_X8_section : GoodIn lw_tbl (wsV RL 41 RX8 yX8_section wsX8_section) := goodIn_r _ [606, 607, 608, 39, 609, 520, 519, 529, 526, 527, 528, 545, 547, 549, 551, 553, 555, 557, 559, 561, 563, 565, 567, 569, 571, 573, 575, 577, 579, 581, 583, 585, 587, 589, 591, 593] (by decide +kernel) (by decide +kernel)
set_option maxRecDepth 20000 in
theorem gL_law_X8_thrown : GoodIn lw_tbl (wsV RL 42 RX8 yX8_thrown wsX8_thrown) := goodIn_r _ [598, 599, 600, 39, 601, 520, 545, 547, 549, 551, 553, 555, 557, 559, 561, 563, 565, 567, 569, 571, 573, 575, 577, 579, 581, 583, 585, 587, 589, 591, 593] (by decide +kernel) (by decide +kernel)
set_option maxRecDepth 20000 in
theorem gL_law_X7_place : GoodIn lw_tbl (wsV RL 46 RX7 yX7_place wsX7_place) := goodIn_r _ [217, 218, 219, 33, 220, 179, 178, 180, 181, 223, 36, 2, 224, 118, 225, 227, 3, 33, 228, 177, 231, 34, 4, 232, 70, 235, 5, 236, 116, 117, 237, 238, 239, 242, 6, 243, 246, 37, 7, 247, 134, 248, 250, 249, 44, 136, 140, 138, 139, 185, 187, 189, 191, 193, 195, 197, 199, 201, 99, 101, 103, 105, 107, 119, 121, 123, 73, 75, 77, 79, 142, 144, 146, 148, 150] (by decide +kernel) (by decide +kernel)
set_option maxRecDepth 20000 in
theorem gL_law_X8_place : GoodIn lw_tbl (wsV RL 49 RX8 yX8_place wsX8_place) := goodIn_r _ [610, 611, 612, 39, 613, 520, 521, 530, 533, 526, 529, 534, 535, 531, 532, 536, 537, 614, 616, 25, 39, 617, 618, 620, 26, 621, 622, 624, 27, 625, 525, 524, 528, 626, 628, 28, 629, 522, 527, 523, 630, 631, 632, 545, 547, 549, 551, 553, 555, 557, 559, 561, 563, 565, 567, 569, 571, 573, 575, 577, 579, 581, 583, 585, 587, 589, 591, 593] (by decide +kernel) (by decide +kernel)
set_option maxRecDepth 20000 in
theorem gL_law_X7_at : GoodIn lw_tbl (wsV RL 50 RX7 yX7_at wsX7_at) := goodIn_r _ [251, 252, 253, 33, 254, 178, 255, 181, 256, 173, 174, 33, 175, 185, 187, 189, 191, 193, 195, 197, 199, 201, 99, 101, 103, 105, 107, 142, 144, 146, 148, 150] (by decide +kernel) (by decide +kernel)
set_option maxRecDepth 20000 in
theorem gL_law_X8_at : GoodIn lw_tbl (wsV RL 54 RX8 yX8_at wsX8_at) := goodIn_r _ [633, 634, 635, 39, 636, 520, 529, 637, 535, 534, 638, 532, 545, 547, 549, 551, 553, 555, 557, 559, 561, 563, 565, 567, 569, 571, 573, 575, 577, 579, 581, 583, 585, 587, 589, 591, 593] (by decide +kernel) (by decide +kernel)
set_option maxRecDepth 20000 in
theorem gL_law_X7_call : GoodIn lw_tbl (wsV RL 55 RX7 yX7_call wsX7_call) := goodIn_r _ [257, 258, 259, 33, 260, 261, 262, 182, 173, 174, 33, 175, 265, 38, 8, 266, 161, 269, 9, 270, 271, 272, 45, 273, 274, 275, 276, 185, 187, 189, 191, 193, 195, 197, 199, 201, 163, 165, 167] (by decide +kernel) (by decide +kernel)
set_option maxRecDepth 20000 in
theorem gL_law_X8_call : GoodIn lw_tbl (wsV RL 59 RX8 yX8_call wsX8_call) := goodIn_r _ [647, 648, 649, 39, 650, 520, 651, 538, 539, 545, 547, 549, 551, 553, 555, 557, 559, 561, 563, 565, 567, 569, 571, 573, 575, 577, 579, 581, 583, 585, 587, 589, 591, 593] (by decide +kernel) (by decide +kernel)
set_option maxRecDepth 20000 in
theorem gL_law_X7_depth : GoodIn lw_tbl (wsV RL 60 RX7 yX7_depth wsX7_depth) := goodIn_r _ [277, 278, 279, 33, 280, 261, 281, 182, 173, 174, 33, 175, 284, 38, 10, 285, 162, 286, 287, 288, 289, 291, 11, 292, 161, 159, 293, 295, 12, 296, 297, 298, 46, 299, 185, 187, 189, 191, 193, 195, 197, 199, 201, 163, 165, 167] (by decide +kernel) (by decide +kernel)
set_option maxRecDepth 20000 in
theorem gL_law_X8_depth : GoodIn lw_tbl (wsV RL 63 RX8 yX8_depth wsX8_depth) := goodIn_r _ [652, 653, 654, 39, 655, 520, 656, 540, 637, 657, 659, 29, 39, 660, 539, 538, 545, 547, 549, 551, 553, 555, 557, 559, 561, 563, 565, 567, 569, 571, 573, 575, 577, 579, 581, 583, 585, 587, 589, 591, 593] (by decide +kernel) (by decide +kernel)
set_option maxRecDepth 20000 in
theorem gL_law_X7_block : GoodIn lw_tbl (wsV RL 64 RX7 yX7_block wsX7_block) := goodIn_r _ [300, 301, 302, 33, 303, 304, 184, 183, 170, 305, 47, 173, 174, 33, 175, 307, 308, 309, 58, 59, 328, 310, 311, 48, 329, 331, 313, 314, 315, 327, 320, 321, 316, 317, 318, 319, 185, 187, 189, 191, 193, 195, 197, 199, 201, 333, 335, 337, 322, 324] (by decide +kernel) (by decide +kernel)
set_option maxRecDepth 20000 in
theorem gL_law_X8_block : GoodIn lw_tbl (wsV RL 68 RX8 yX8_block wsX8_block) := goodIn_r _ [661, 662, 663, 39, 664, 520, 665, 544, 541, 543, 666, 668, 30, 39, 669, 542, 673, 670, 671, 672, 545, 547, 549, 551, 553, 555, 557, 559, 561, 563, 565, 567, 569, 571, 573, 575, 577, 579, 581, 583, 585, 587, 589, 591, 593] (by decide +kernel) (by decide +kernel)
set_option maxRecDepth 20000 in
theorem gL_law_X7_write : GoodIn lw_tbl (wsV RL 69 RX7 yX7_write wsX7_write) := goodIn_r _ [340, 341, 342, 33, 343, 344, 346, 13, 33, 347, 184, 183, 173, 174, 175, 350, 47, 14, 351, 328, 355, 48, 15, 356, 320, 321, 316, 317, 318, 319, 333, 335, 337, 185, 187, 189, 191, 193, 195, 197, 199, 201, 322, 324] (by decide +kernel) (by decide +kernel)
set_option maxRecDepth 20000 in
theorem gL_law_X8_write : GoodIn lw_tbl (wsV RL 73 RX8 yX8_write wsX8_write) := goodIn_r _ [674, 675, 676, 39, 677, 520, 541, 542, 543, 678, 680, 31, 39, 681, 544, 670, 671, 672, 666, 668, 30, 669, 673, 545, 547, 549, 551, 553, 555, 557, 559, 561, 563, 565, 567, 569, 571, 573, 575, 577, 579, 581, 583, 585, 587, 589, 591, 593] (by decide +kernel) (by decide +kernel)
set_option maxRecDepth 20000 in
theorem gL_law_X7_poke : GoodIn lw_tbl (wsV RL 74 RX7 yX7_poke wsX7_poke) := goodIn_r _ [357, 358, 359, 33, 360, 361, 344, 346, 13, 33, 347, 184, 183, 173, 174, 175, 350, 47, 14, 351, 328, 364, 48, 16, 365, 320, 333, 335, 337, 185, 187, 189, 191, 193, 195, 197, 199, 201, 322, 324] (by decide +kernel) (by decide +kernel)
set_option maxRecDepth 20000 in
theorem gL_law_X8_poke : GoodIn lw_tbl (wsV RL 78 RX8 yX8_poke wsX8_poke) := goodIn_r _ [682, 683, 684, 39, 685, 520, 541, 542, 678, 680, 31, 39, 681, 544, 670, 671, 672, 545, 547, 549, 551, 553, 555, 557, 559, 561, 563, 565, 567, 569, 571, 573, 575, 577, 579, 581, 583, 585, 587, 589, 591, 593] (by decide +kernel) (by decide +kernel)
set_option maxRecDepth 20000 in
theorem gL_law_X7_read : GoodIn lw_tbl (wsV RL 79 RX7 yX7_read wsX7_read) := goodIn_r _ [366, 367, 368, 33, 369, 344, 346, 13, 33, 347, 184, 183, 173, 174, 175, 372, 47, 17, 373, 329, 331, 376, 48, 18, 377, 321, 320, 316, 317, 318, 319, 380, 19, 381, 382, 250, 249, 44, 385, 20, 386, 387, 388, 49, 389, 185, 187, 189, 191, 193, 195, 197, 199, 201, 333, 335, 337, 322, 324] (by decide +kernel) (by decide +kernel)
set_option maxRecDepth 20000 in
theorem gL_law_X8_read : GoodIn lw_tbl (wsV RL 83 RX8 yX8_read wsX8_read) := goodIn_r _ [686, 687, 688, 39, 689, 520, 543, 541, 542, 678, 680, 31, 39, 681, 544, 666, 668, 30, 669, 673, 670, 671, 672, 545, 547, 549, 551, 553, 555, 557, 559, 561, 563, 565, 567, 569, 571, 573, 575, 577, 579, 581, 583, 585, 587, 589, 591, 593] (by decide +kernel) (by decide +kernel)
set_option maxRecDepth 20000 in
theorem gL_law_L_cell_ : GoodIn lw_tbl (va_wsS RL 84 yL_cell_ wsL_cellX) := goodIn_r _ [483, 484, 32, 485, 486, 487, 488, 489, 33, 490, 176, 491, 51, 181, 178, 185, 187, 189, 191, 193, 195, 197, 199, 201, 142, 144, 146, 148, 150, 99, 101, 103, 105, 107, 40, 431, 440, 443, 446, 448, 432, 433, 58, 59, 434, 439, 444, 464, 421, 465, 423, 466, 425, 435, 437, 427, 460, 461, 463, 427, 504, 505, 506, 507, 507, 508, 509, 454, 454, 455, 456, 457, 457, 458, 459, 460, 503, 492, 496, 442, 497, 498, 499, 500, 430, 429, 501] (by decide +kernel) (by decide +kernel)
set_option maxRecDepth 20000 in
theorem gL_law_X8_cell : GoodIn lw_tbl (wsV RL 87 RX8 yX8_cell wsX8_cell) := goodIn_r _ [639, 640, 641, 39, 642, 521, 520, 531, 545, 547, 549, 551, 553, 555, 557, 559, 561, 563, 565, 567, 569, 571, 573, 575, 577, 579, 581, 583, 585, 587, 589, 591, 593] (by decide +kernel) (by decide +kernel)
set_option maxRecDepth 20000 in
theorem gL_law_X7_moved : GoodIn lw_tbl (wsV RL 88 RX7 yX7_moved wsX7_moved) := goodIn_r _ [390, 391, 392, 33, 393, 181, 173, 174, 33, 175, 396, 37, 21, 397, 139, 138, 134, 185, 187, 189, 191, 193, 195, 197, 199, 201, 142, 144, 146, 148, 150] (by decide +kernel) (by decide +kernel)
set_option maxRecDepth 20000 in
theorem gL_law_X8_moved : GoodIn lw_tbl (wsV RL 91 RX8 yX8_moved wsX8_moved) := goodIn_r _ [643, 644, 645, 39, 646, 520, 535, 537, 536, 532, 545, 547, 549, 551, 553, 555, 557, 559, 561, 563, 565, 567, 569, 571, 573, 575, 577, 579, 581, 583, 585, 587, 589, 591, 593] (by decide +kernel) (by decide +kernel)
set_option maxRecDepth 20000 in
theorem gL_law_X7_init : GoodIn lw_tbl (wsX7_init) := goodIn_r _ [56, 57, 58, 59, 60, 61, 34, 177, 83, 84, 35, 178, 110, 111, 36, 179, 82, 180, 126, 127, 37, 181, 153, 154, 38, 182, 170, 183, 172, 176, 63, 64, 65, 66, 68, 70, 86, 87, 88, 89, 91, 93, 95, 113, 114, 115, 116, 117, 129, 130, 131, 134, 132, 138, 139, 156, 157, 158, 159, 161, 162, 173, 174, 33, 175, 73, 75, 77, 79, 185, 187, 189, 191, 193, 195, 197, 199, 201, 99, 101, 103, 105, 107, 119, 121, 123, 142, 144, 146, 148, 150, 163, 165, 167] (by decide +kernel) (by decide +kernel)
set_option maxRecDepth 20000 in
theorem gL_law_X8_init : GoodIn lw_tbl (wsX8_init) := goodIn_r _ [516, 517, 58, 59, 82, 522, 523, 524, 526, 527, 528, 518, 327, 530, 531, 532, 533, 536, 537, 596, 538, 597, 539, 540, 541, 542, 543, 519, 521, 545, 547, 549, 551, 553, 555, 557, 559, 561, 563, 565, 567, 569, 571, 573, 575, 577, 579, 581, 583, 585, 587, 589, 591, 593] (by decide +kernel) (by decide +kernel)
set_option maxRecDepth 20000 in
theorem inX0 : ∀ w ∈ wsX00, w ∈ lw_tbl := fun w h => (goodIn_r (big := lw_tbl) wsX00 [333, 335, 337] (by decide +kernel) (by decide +kernel) w h).1
set_option maxRecDepth 20000 in
theorem inX1 : ∀ w ∈ wsX10, w ∈ lw_tbl := fun w h => (goodIn_r (big := lw_tbl) wsX10 [322, 324] (by decide +kernel) (by decide +kernel) w h).1
set_option maxRecDepth 20000 in
theorem inX2 : ∀ w ∈ wsX20, w ∈ lw_tbl := fun w h => (goodIn_r (big := lw_tbl) wsX20 [163, 165, 167] (by decide +kernel) (by decide +kernel) w h).1
set_option maxRecDepth 20000 in
theorem inX3 : ∀ w ∈ wsX30, w ∈ lw_tbl := fun w h => (goodIn_r (big := lw_tbl) wsX30 [142, 144, 146, 148, 150] (by decide +kernel) (by decide +kernel) w h).1
set_option maxRecDepth 20000 in
theorem inX4 : ∀ w ∈ wsX40, w ∈ lw_tbl := fun w h => (goodIn_r (big := lw_tbl) wsX40 [73, 75, 77, 79] (by decide +kernel) (by decide +kernel) w h).1
set_option maxRecDepth 20000 in
theorem inX5 : ∀ w ∈ wsX50, w ∈ lw_tbl := fun w h => (goodIn_r (big := lw_tbl) wsX50 [99, 101, 103, 105, 107] (by decide +kernel) (by decide +kernel) w h).1
set_option maxRecDepth 20000 in
theorem inX6 : ∀ w ∈ wsX60, w ∈ lw_tbl := fun w h => (goodIn_r (big := lw_tbl) wsX60 [119, 121, 123] (by decide +kernel) (by decide +kernel) w h).1
set_option maxRecDepth 20000 in
theorem inX7 : ∀ w ∈ wsX70, w ∈ lw_tbl := fun w h => (goodIn_r (big := lw_tbl) wsX70 [185, 187, 189, 191, 193, 195, 197, 199, 201] (by decide +kernel) (by decide +kernel) w h).1
set_option maxRecDepth 20000 in
theorem inX8 : ∀ w ∈ wsX80, w ∈ lw_tbl := fun w h => (goodIn_r (big := lw_tbl) wsX80 [545, 547, 549, 551, 553, 555, 557, 559, 561, 563, 565, 567, 569, 571, 573, 575, 577, 579, 581, 583, 585, 587, 589, 591, 593] (by decide +kernel) (by decide +kernel) w h).1
set_option maxRecDepth 20000 in
theorem inJx00060 : ∀ w ∈ wsJx000600, w ∈ lw_tbl := fun w h => (goodIn_r (big := lw_tbl) wsJx000600 [497, 498, 499, 500, 501, 510] (by decide +kernel) (by decide +kernel) w h).1
set_option maxRecDepth 20000 in
theorem wL_0 : (.classLink RL 8 RX7 : Cond) ∈ lw_tbl := List.mem_of_getElem? (i := 52) (by decide +kernel)
set_option maxRecDepth 20000 in
theorem wL_1 : (.instantiable RX7 9 : Cond) ∈ lw_tbl := List.mem_of_getElem? (i := 53) (by decide +kernel)
set_option maxRecDepth 20000 in
theorem wL_2 : (.initialized RX7 : Cond) ∈ lw_tbl := List.mem_of_getElem? (i := 33) (by decide +kernel)
set_option maxRecDepth 20000 in
theorem wL_3 : (.classLink RL 29 RX8 : Cond) ∈ lw_tbl := List.mem_of_getElem? (i := 512) (by decide +kernel)
set_option maxRecDepth 20000 in
theorem wL_4 : (.instantiable RX8 25 : Cond) ∈ lw_tbl := List.mem_of_getElem? (i := 513) (by decide +kernel)
set_option maxRecDepth 20000 in
theorem wL_5 : (.initialized RX8 : Cond) ∈ lw_tbl := List.mem_of_getElem? (i := 39) (by decide +kernel)
set_option maxRecDepth 20000 in
theorem wL_6 : (.arrayClass .long : Cond) ∈ lw_tbl := List.mem_of_getElem? (i := 596) (by decide +kernel)
set_option maxRecDepth 20000 in
theorem wL_7 : (.constantLong RL 32 (4294967295) : Cond) ∈ lw_tbl := List.mem_of_getElem? (i := 690) (by decide +kernel)
set_option maxRecDepth 20000 in
theorem wL_8 : (.methodLink RL 26 yX7_init : Cond) ∈ lw_tbl := List.mem_of_getElem? (i := 54) (by decide +kernel)
set_option maxRecDepth 20000 in
theorem wL_9 : (.instanceMethod yX7_init : Cond) ∈ lw_tbl := List.mem_of_getElem? (i := 55) (by decide +kernel)
set_option maxRecDepth 20000 in
theorem wL_10 : (.methodLink RL 31 yX8_init : Cond) ∈ lw_tbl := List.mem_of_getElem? (i := 514) (by decide +kernel)
set_option maxRecDepth 20000 in
theorem wL_11 : (.instanceMethod yX8_init : Cond) ∈ lw_tbl := List.mem_of_getElem? (i := 515) (by decide +kernel)

set_option maxRecDepth 20000 in
theorem ggL_law_X9_init : GoodIn wsL_law wsX9_init := goodIn_r _ [9, 10, 11, 12, 13, 14, 15, 16, 17, 18, 19, 20, 21, 22, 23, 24, 25, 26, 27, 28, 29, 30, 31, 32, 33, 34, 35, 36, 37, 38, 39, 40, 41, 42, 43, 44, 45, 46, 47, 48, 49, 50, 51, 52, 53, 54, 55, 56, 57, 58, 59, 60, 61, 62, 63, 64, 65, 66, 67, 68, 69, 70, 71, 72, 73, 74, 75, 76, 77, 78, 79, 80, 81, 82, 83, 84, 85, 86, 87, 88, 89, 90, 91, 92, 93, 94, 95, 96, 97, 98, 99, 100, 101, 102, 103, 104, 105, 106, 107, 108, 109, 110, 2, 111, 112, 113, 114, 115, 116, 117, 118, 119, 120, 121, 122, 123, 124, 125, 126, 127, 128, 129, 130, 131, 132, 133, 134, 135, 136, 137, 138, 139, 140, 141, 734, 735, 700, 701, 702, 703, 704, 705, 706, 707, 708, 709, 736, 737, 738, 739, 740, 741, 742, 743, 744, 745, 746, 747, 748, 749, 750, 751, 752, 753, 754, 755] (by decide +kernel) (by decide +kernel)
set_option maxRecDepth 20000 in
theorem gL_law_X9_init : GoodIn wsL_law (wsX9_init) := ggL_law_X9_init
set_option maxRecDepth 20000 in
theorem ggL_law_X10_init : GoodIn wsL_law wsX10_init := goodIn_r _ [144, 145, 11, 12, 59, 146, 147, 148, 149, 150, 151, 152, 153, 154, 155, 156, 157, 103, 158, 159, 160, 710, 711, 712, 713, 714, 715, 716, 717, 718, 719, 720, 721, 722, 723, 724, 725, 726, 727, 728, 729, 730, 731, 732, 733] (by decide +kernel) (by decide +kernel)
set_option maxRecDepth 20000 in
theorem gL_law_X10_init : GoodIn wsL_law (wsX10_init) := ggL_law_X10_init
set_option maxRecDepth 20000 in
theorem ggL_law_X9_write : GoodIn wsL_law wsX9_write := goodIn_r _ [164, 16, 165, 166, 167, 168, 15, 169, 55, 170, 171, 172, 173, 54, 700, 701, 702, 703, 704, 705, 706, 707, 708, 709, 734, 735] (by decide +kernel) (by decide +kernel)
set_option maxRecDepth 20000 in
theorem gL_law_X9_write : GoodIn wsL_law (wsV RL 15 RX9 yX9_write wsX9_write) := goodIn_app (goodIn_of _ (by decide +kernel)) ggL_law_X9_write
set_option maxRecDepth 20000 in
theorem ggL_law_X10_write : GoodIn wsL_law wsX10_write := goodIn_r _ [177, 178, 179, 146, 180, 181, 182, 5, 183, 710, 711, 712, 713, 714, 715, 716, 717, 718, 719, 720, 721, 722, 723, 724, 725, 726, 727, 728, 729, 730, 731, 732, 733] (by decide +kernel) (by decide +kernel)
set_option maxRecDepth 20000 in
theorem gL_law_X10_write : GoodIn wsL_law (wsV RL 19 RX10 yX10_write wsX10_write) := goodIn_app (goodIn_of _ (by decide +kernel)) ggL_law_X10_write
set_option maxRecDepth 20000 in
theorem ggL_law_X9_wipe : GoodIn wsL_law wsX9_wipe := goodIn_r _ [187, 16, 188, 189, 190, 15, 191, 55, 700, 701, 702, 703, 704, 705, 706, 707, 708, 709, 734, 735] (by decide +kernel) (by decide +kernel)
set_option maxRecDepth 20000 in
theorem gL_law_X9_wipe : GoodIn wsL_law (wsV RL 20 RX9 yX9_wipe wsX9_wipe) := goodIn_app (goodIn_of _ (by decide +kernel)) ggL_law_X9_wipe
set_option maxRecDepth 20000 in
theorem ggL_law_X10_wipe : GoodIn wsL_law wsX10_wipe := goodIn_r _ [195, 179, 710, 711, 712, 713, 714, 715, 716, 717, 718, 719, 720, 721, 722, 723, 724, 725, 726, 727, 728, 729, 730, 731, 732, 733] (by decide +kernel) (by decide +kernel)
set_option maxRecDepth 20000 in
theorem gL_law_X10_wipe : GoodIn wsL_law (wsV RL 24 RX10 yX10_wipe wsX10_wipe) := goodIn_app (goodIn_of _ (by decide +kernel)) ggL_law_X10_wipe
set_option maxRecDepth 20000 in
theorem ggL_law_X9_fault : GoodIn wsL_law wsX9_fault := goodIn_r _ [199, 20, 16, 24, 200, 201, 202, 19, 203, 61, 204, 205, 206, 207, 23, 208, 66, 67, 68, 209, 210, 211, 212, 60, 213, 214, 215, 15, 216, 55, 54, 217, 218, 219, 220, 221, 222, 223, 224, 225, 226, 227, 110, 2, 111, 128, 129, 228, 107, 108, 109, 65, 229, 230, 231, 232, 134, 135, 233, 234, 235, 236, 700, 701, 702, 703, 704, 705, 706, 707, 708, 709, 736, 737, 734, 735, 738, 739, 740, 741] (by decide +kernel) (by decide +kernel)
set_option maxRecDepth 20000 in
theorem gL_law_X9_fault : GoodIn wsL_law (wsV RL 25 RX9 yX9_fault wsX9_fault) := goodIn_app (goodIn_of _ (by decide +kernel)) ggL_law_X9_fault
set_option maxRecDepth 20000 in
theorem ggL_law_X10_fault : GoodIn wsL_law wsX10_fault := goodIn_r _ [240, 241, 242, 243, 244, 179, 245, 246, 247, 5, 248, 146, 249, 250, 251, 252, 159, 253, 254, 255, 256, 257, 258, 259, 260, 261, 262, 263, 264, 265, 181, 182, 183, 710, 711, 712, 713, 714, 715, 716, 717, 718, 719, 720, 721, 722, 723, 724, 725, 726, 727, 728, 729, 730, 731, 732, 733] (by decide +kernel) (by decide +kernel)
set_option maxRecDepth 20000 in
theorem gL_law_X10_fault : GoodIn wsL_law (wsV RL 28 RX10 yX10_fault wsX10_fault) := goodIn_app (goodIn_of _ (by decide +kernel)) ggL_law_X10_fault
set_option maxRecDepth 20000 in
theorem ggL_law_X9_lay : GoodIn wsL_law wsX9_lay := goodIn_r _ [269, 20, 16, 24, 270, 28, 116, 200, 201, 202, 19, 203, 61, 204, 205, 206, 207, 23, 208, 66, 67, 68, 209, 210, 211, 212, 60, 213, 214, 215, 15, 216, 55, 54, 217, 218, 219, 220, 221, 222, 223, 224, 225, 226, 227, 110, 2, 111, 128, 129, 228, 107, 108, 109, 65, 229, 230, 231, 232, 134, 135, 233, 234, 235, 236, 112, 113, 114, 115, 40, 44, 117, 45, 49, 118, 119, 120, 121, 27, 122, 73, 123, 74, 124, 125, 126, 127, 130, 131, 132, 133, 136, 137, 138, 39, 139, 140, 90, 89, 141, 700, 701, 702, 703, 704, 705, 706, 707, 708, 709, 738, 739, 740, 741, 742, 743, 736, 737, 734, 735, 749, 750, 751, 752, 753, 754, 755, 747, 748] (by decide +kernel) (by decide +kernel)
set_option maxRecDepth 20000 in
theorem gL_law_X9_lay : GoodIn wsL_law (wsV RL 29 RX9 yX9_lay wsX9_lay) := goodIn_app (goodIn_of _ (by decide +kernel)) ggL_law_X9_lay
set_option maxRecDepth 20000 in
theorem ggL_law_X10_lay : GoodIn wsL_law wsX10_lay := goodIn_r _ [274, 242, 147, 148, 159, 149, 150, 151, 152, 243, 275, 244, 153, 276, 277, 278, 279, 238, 239, 5, 240, 241, 179, 245, 246, 247, 248, 146, 249, 250, 251, 252, 253, 254, 255, 256, 257, 258, 259, 260, 261, 262, 263, 264, 265, 181, 182, 183, 710, 711, 712, 713, 714, 715, 716, 717, 718, 719, 720, 721, 722, 723, 724, 725, 726, 727, 728, 729, 730, 731, 732, 733] (by decide +kernel) (by decide +kernel)
set_option maxRecDepth 20000 in
theorem gL_law_X10_lay : GoodIn wsL_law (wsV RL 32 RX10 yX10_lay wsX10_lay) := goodIn_app (goodIn_of _ (by decide +kernel)) ggL_law_X10_lay
set_option maxRecDepth 20000 in
theorem ggL_law_X9_person : GoodIn wsL_law wsX9_person := goodIn_r _ [283, 40, 28, 116, 284, 285, 286, 2, 287, 270, 288, 289, 290, 39, 291, 89, 128, 129, 292, 293, 294, 295, 90, 296, 297, 298, 134, 135, 299, 131, 132, 23, 133, 65, 700, 701, 702, 703, 704, 705, 706, 707, 708, 709, 742, 743, 738, 739, 740, 741, 747, 748] (by decide +kernel) (by decide +kernel)
set_option maxRecDepth 20000 in
theorem gL_law_X9_person : GoodIn wsL_law (wsV RL 33 RX9 yX9_person wsX9_person) := goodIn_app (goodIn_of _ (by decide +kernel)) ggL_law_X9_person
set_option maxRecDepth 20000 in
theorem ggL_law_X10_person : GoodIn wsL_law wsX10_person := goodIn_r _ [303, 304, 148, 149, 150, 151, 152, 275, 305, 306, 307, 5, 308, 147, 181, 182, 183, 309, 310, 311, 710, 711, 712, 713, 714, 715, 716, 717, 718, 719, 720, 721, 722, 723, 724, 725, 726, 727, 728, 729, 730, 731, 732, 733] (by decide +kernel) (by decide +kernel)
set_option maxRecDepth 20000 in
theorem gL_law_X10_person : GoodIn wsL_law (wsV RL 37 RX10 yX10_person wsX10_person) := goodIn_app (goodIn_of _ (by decide +kernel)) ggL_law_X10_person
set_option maxRecDepth 20000 in
theorem ggL_law_X9_worth : GoodIn wsL_law wsX9_worth := goodIn_r _ [315, 28, 284, 285, 286, 2, 287, 116, 270, 316, 317, 318, 319, 320, 321, 322, 23, 323, 66, 324, 325, 326, 327, 328, 329, 330, 331, 27, 332, 333, 334, 335, 336, 74, 73, 128, 129, 130, 131, 132, 133, 65, 134, 135, 337, 338, 339, 340, 341, 342, 343, 344, 345, 346, 347, 348, 349, 700, 701, 702, 703, 704, 705, 706, 707, 708, 709, 742, 743, 738, 739, 740, 741] (by decide +kernel) (by decide +kernel)
set_option maxRecDepth 20000 in
theorem gL_law_X9_worth : GoodIn wsL_law (wsV RL 38 RX9 yX9_worth wsX9_worth) := goodIn_app (goodIn_of _ (by decide +kernel)) ggL_law_X9_worth
set_option maxRecDepth 20000 in
theorem ggL_law_X10_worth : GoodIn wsL_law wsX10_worth := goodIn_r _ [353, 305, 306, 307, 5, 308, 147, 181, 182, 183, 354, 355, 356, 357, 358, 359, 360, 361, 148, 149, 153, 150, 362, 363, 364, 365, 151, 366, 367, 368, 369, 309, 310, 311, 370, 371, 372, 373, 374, 375, 710, 711, 712, 713, 714, 715, 716, 717, 718, 719, 720, 721, 722, 723, 724, 725, 726, 727, 728, 729, 730, 731, 732, 733] (by decide +kernel) (by decide +kernel)
set_option maxRecDepth 20000 in
theorem gL_law_X10_worth : GoodIn wsL_law (wsV RL 41 RX10 yX10_worth wsX10_worth) := goodIn_app (goodIn_of _ (by decide +kernel)) ggL_law_X10_worth
set_option maxRecDepth 20000 in
theorem ggL_law_X9_buy : GoodIn wsL_law wsX9_buy := goodIn_r _ [379, 40, 380, 44, 28, 116, 270, 316, 317, 318, 2, 319, 320, 321, 322, 23, 323, 66, 381, 382, 383, 384, 385, 296, 297, 298, 134, 135, 288, 289, 290, 39, 291, 89, 128, 129, 386, 334, 335, 27, 336, 74, 73, 130, 131, 132, 133, 65, 337, 338, 339, 340, 341, 342, 343, 387, 388, 389, 43, 390, 95, 96, 97, 110, 111, 391, 392, 393, 394, 395, 396, 397, 398, 399, 400, 700, 701, 702, 703, 704, 705, 706, 707, 708, 709, 747, 748, 742, 743, 738, 739, 740, 741, 749, 750, 751] (by decide +kernel) (by decide +kernel)
set_option maxRecDepth 20000 in
theorem gL_law_X9_buy : GoodIn wsL_law (wsV RL 42 RX9 yX9_buy wsX9_buy) := goodIn_app (goodIn_of _ (by decide +kernel)) ggL_law_X9_buy
set_option maxRecDepth 20000 in
theorem ggL_law_X10_buy : GoodIn wsL_law wsX10_buy := goodIn_r _ [404, 275, 147, 152, 354, 355, 356, 5, 357, 181, 182, 183, 309, 310, 311, 362, 363, 364, 365, 151, 366, 367, 368, 369, 370, 371, 372, 405, 406, 407, 408, 277, 154, 710, 711, 712, 713, 714, 715, 716, 717, 718, 719, 720, 721, 722, 723, 724, 725, 726, 727, 728, 729, 730, 731, 732, 733] (by decide +kernel) (by decide +kernel)
set_option maxRecDepth 20000 in
theorem gL_law_X10_buy : GoodIn wsL_law (wsV RL 46 RX10 yX10_buy wsX10_buy) := goodIn_app (goodIn_of _ (by decide +kernel)) ggL_law_X10_buy
set_option maxRecDepth 20000 in
theorem ggL_law_X9_toss : GoodIn wsL_law wsX9_toss := goodIn_r _ [412, 40, 44, 380, 284, 285, 286, 2, 287, 28, 116, 270, 292, 293, 294, 39, 295, 90, 296, 297, 298, 134, 135, 387, 388, 389, 43, 390, 95, 96, 97, 128, 129, 110, 111, 391, 392, 393, 394, 395, 396, 289, 290, 291, 89, 413, 338, 339, 340, 341, 342, 343, 700, 701, 702, 703, 704, 705, 706, 707, 708, 709, 747, 748, 742, 743, 738, 739, 740, 741, 749, 750, 751] (by decide +kernel) (by decide +kernel)
set_option maxRecDepth 20000 in
theorem gL_law_X9_toss : GoodIn wsL_law (wsV RL 47 RX9 yX9_toss wsX9_toss) := goodIn_app (goodIn_of _ (by decide +kernel)) ggL_law_X9_toss
set_option maxRecDepth 20000 in
theorem ggL_law_X10_toss : GoodIn wsL_law wsX10_toss := goodIn_r _ [417, 275, 305, 306, 307, 5, 308, 147, 181, 182, 183, 309, 310, 311, 405, 406, 407, 408, 277, 154, 152, 370, 371, 372, 710, 711, 712, 713, 714, 715, 716, 717, 718, 719, 720, 721, 722, 723, 724, 725, 726, 727, 728, 729, 730, 731, 732, 733] (by decide +kernel) (by decide +kernel)
set_option maxRecDepth 20000 in
theorem gL_law_X10_toss : GoodIn wsL_law (wsV RL 50 RX10 yX10_toss wsX10_toss) := goodIn_app (goodIn_of _ (by decide +kernel)) ggL_law_X10_toss
set_option maxRecDepth 20000 in
theorem ggL_law_X9_sell : GoodIn wsL_law wsX9_sell := goodIn_r _ [421, 40, 380, 28, 44, 284, 285, 286, 2, 287, 116, 270, 292, 293, 294, 39, 295, 90, 296, 297, 298, 134, 135, 386, 334, 335, 27, 336, 74, 73, 128, 129, 130, 131, 132, 23, 133, 65, 337, 338, 339, 340, 341, 342, 343, 288, 289, 290, 291, 89, 387, 388, 389, 43, 390, 95, 96, 97, 110, 111, 391, 392, 393, 394, 395, 396, 397, 398, 399, 400, 700, 701, 702, 703, 704, 705, 706, 707, 708, 709, 747, 748, 742, 743, 738, 739, 740, 741, 749, 750, 751] (by decide +kernel) (by decide +kernel)
set_option maxRecDepth 20000 in
theorem gL_law_X9_sell : GoodIn wsL_law (wsV RL 51 RX9 yX9_sell wsX9_sell) := goodIn_app (goodIn_of _ (by decide +kernel)) ggL_law_X9_sell
set_option maxRecDepth 20000 in
theorem ggL_law_X10_sell : GoodIn wsL_law wsX10_sell := goodIn_r _ [425, 275, 152, 305, 306, 307, 5, 308, 147, 181, 182, 183, 362, 363, 364, 365, 151, 366, 367, 368, 369, 309, 310, 311, 370, 371, 372, 405, 406, 407, 408, 277, 154, 710, 711, 712, 713, 714, 715, 716, 717, 718, 719, 720, 721, 722, 723, 724, 725, 726, 727, 728, 729, 730, 731, 732, 733] (by decide +kernel) (by decide +kernel)
set_option maxRecDepth 20000 in
theorem gL_law_X10_sell : GoodIn wsL_law (wsV RL 54 RX10 yX10_sell wsX10_sell) := goodIn_app (goodIn_of _ (by decide +kernel)) ggL_law_X10_sell
set_option maxRecDepth 20000 in
theorem ggL_law_X9_undo : GoodIn wsL_law wsX9_undo := goodIn_r _ [429, 44, 117, 40, 430, 431, 432, 43, 433, 95, 434, 97, 395, 128, 2, 129, 110, 111, 700, 701, 702, 703, 704, 705, 706, 707, 708, 709, 749, 750, 751, 747, 748] (by decide +kernel) (by decide +kernel)
set_option maxRecDepth 20000 in
theorem gL_law_X9_undo : GoodIn wsL_law (wsV RL 55 RX9 yX9_undo wsX9_undo) := goodIn_app (goodIn_of _ (by decide +kernel)) ggL_law_X9_undo
set_option maxRecDepth 20000 in
theorem ggL_law_X10_undo : GoodIn wsL_law wsX10_undo := goodIn_r _ [438, 277, 154, 275, 152, 710, 711, 712, 713, 714, 715, 716, 717, 718, 719, 720, 721, 722, 723, 724, 725, 726, 727, 728, 729, 730, 731, 732, 733] (by decide +kernel) (by decide +kernel)
set_option maxRecDepth 20000 in
theorem gL_law_X10_undo : GoodIn wsL_law (wsV RL 58 RX10 yX10_undo wsX10_undo) := goodIn_app (goodIn_of _ (by decide +kernel)) ggL_law_X10_undo
set_option maxRecDepth 20000 in
theorem ggL_law_X9_price : GoodIn wsL_law wsX9_price := goodIn_r _ [442, 40, 28, 380, 284, 285, 286, 2, 287, 116, 270, 292, 293, 294, 39, 295, 90, 296, 297, 298, 134, 135, 386, 334, 335, 27, 336, 74, 73, 128, 129, 130, 131, 132, 23, 133, 65, 337, 338, 339, 340, 341, 342, 343, 700, 701, 702, 703, 704, 705, 706, 707, 708, 709, 747, 748, 742, 743, 738, 739, 740, 741] (by decide +kernel) (by decide +kernel)
set_option maxRecDepth 20000 in
theorem gL_law_X9_price : GoodIn wsL_law (wsV RL 59 RX9 yX9_price wsX9_price) := goodIn_app (goodIn_of _ (by decide +kernel)) ggL_law_X9_price
set_option maxRecDepth 20000 in
theorem ggL_law_X10_price : GoodIn wsL_law wsX10_price := goodIn_r _ [446, 275, 305, 306, 307, 5, 308, 147, 181, 182, 183, 309, 310, 311, 362, 363, 364, 365, 151, 366, 367, 368, 369, 370, 371, 372, 710, 711, 712, 713, 714, 715, 716, 717, 718, 719, 720, 721, 722, 723, 724, 725, 726, 727, 728, 729, 730, 731, 732, 733] (by decide +kernel) (by decide +kernel)
set_option maxRecDepth 20000 in
theorem gL_law_X10_price : GoodIn wsL_law (wsV RL 62 RX10 yX10_price wsX10_price) := goodIn_app (goodIn_of _ (by decide +kernel)) ggL_law_X10_price
set_option maxRecDepth 20000 in
theorem ggL_law_X9_would : GoodIn wsL_law wsX9_would := goodIn_r _ [450, 28, 40, 380, 451, 452, 2, 453, 324, 325, 326, 327, 116, 328, 454, 455, 456, 27, 457, 73, 123, 458, 459, 460, 461, 333, 334, 335, 336, 74, 128, 129, 130, 131, 132, 23, 133, 65, 134, 135, 337, 338, 339, 340, 341, 342, 343, 344, 345, 346, 347, 348, 349, 296, 297, 298, 700, 701, 702, 703, 704, 705, 706, 707, 708, 709, 747, 748, 742, 743, 738, 739, 740, 741] (by decide +kernel) (by decide +kernel)
set_option maxRecDepth 20000 in
theorem gL_law_X9_would : GoodIn wsL_law (wsV RL 63 RX9 yX9_would wsX9_would) := goodIn_app (goodIn_of _ (by decide +kernel)) ggL_law_X9_would
set_option maxRecDepth 20000 in
theorem ggL_law_X10_would : GoodIn wsL_law wsX10_would := goodIn_r _ [465, 147, 275, 181, 182, 5, 183, 466, 467, 468, 469, 309, 310, 311, 358, 359, 360, 361, 148, 149, 153, 150, 362, 363, 364, 365, 151, 366, 367, 368, 369, 370, 371, 372, 373, 374, 375, 470, 471, 472, 473, 710, 711, 712, 713, 714, 715, 716, 717, 718, 719, 720, 721, 722, 723, 724, 725, 726, 727, 728, 729, 730, 731, 732, 733] (by decide +kernel) (by decide +kernel)
set_option maxRecDepth 20000 in
theorem gL_law_X10_would : GoodIn wsL_law (wsV RL 66 RX10 yX10_would wsX10_would) := goodIn_app (goodIn_of _ (by decide +kernel)) ggL_law_X10_would
set_option maxRecDepth 20000 in
theorem ggL_law_X9_behind : GoodIn wsL_law wsX9_behind := goodIn_r _ [477, 32, 40, 380, 478, 479, 480, 31, 481, 80, 482, 483, 484, 485, 486, 27, 487, 73, 123, 458, 459, 460, 461, 333, 334, 335, 336, 74, 128, 2, 129, 130, 131, 132, 23, 133, 65, 134, 135, 337, 338, 339, 340, 341, 342, 343, 344, 345, 346, 347, 348, 349, 296, 297, 298, 700, 701, 702, 703, 704, 705, 706, 707, 708, 709, 747, 748, 744, 745, 742, 743, 738, 739, 740, 741] (by decide +kernel) (by decide +kernel)
set_option maxRecDepth 20000 in
theorem gL_law_X9_behind : GoodIn wsL_law (wsV RL 67 RX9 yX9_behind wsX9_behind) := goodIn_app (goodIn_of _ (by decide +kernel)) ggL_law_X9_behind
set_option maxRecDepth 20000 in
theorem ggL_law_X10_behind : GoodIn wsL_law wsX10_behind := goodIn_r _ [491, 492, 275, 181, 182, 5, 183, 493, 494, 495, 496, 147, 466, 467, 468, 469, 309, 310, 311, 358, 359, 360, 361, 148, 149, 153, 150, 362, 363, 364, 365, 151, 366, 367, 368, 369, 370, 371, 372, 373, 374, 375, 470, 471, 472, 473, 710, 711, 712, 713, 714, 715, 716, 717, 718, 719, 720, 721, 722, 723, 724, 725, 726, 727, 728, 729, 730, 731, 732, 733] (by decide +kernel) (by decide +kernel)
set_option maxRecDepth 20000 in
theorem gL_law_X10_behind : GoodIn wsL_law (wsV RL 71 RX10 yX10_behind wsX10_behind) := goodIn_app (goodIn_of _ (by decide +kernel)) ggL_law_X10_behind
set_option maxRecDepth 20000 in
theorem ggL_law_X9_rest : GoodIn wsL_law wsX9_rest := goodIn_r _ [500, 32, 40, 380, 451, 452, 2, 453, 501, 502, 503, 31, 504, 80, 482, 483, 484, 485, 486, 27, 487, 73, 123, 458, 459, 460, 461, 333, 334, 335, 336, 74, 128, 129, 130, 131, 132, 23, 133, 65, 134, 135, 337, 338, 339, 340, 341, 342, 343, 344, 345, 346, 347, 348, 349, 296, 297, 298, 505, 506, 507, 508, 509, 479, 480, 481, 700, 701, 702, 703, 704, 705, 706, 707, 708, 709, 747, 748, 744, 745, 742, 743, 738, 739, 740, 741] (by decide +kernel) (by decide +kernel)
set_option maxRecDepth 20000 in
theorem gL_law_X9_rest : GoodIn wsL_law (wsV RL 72 RX9 yX9_rest wsX9_rest) := goodIn_app (goodIn_of _ (by decide +kernel)) ggL_law_X9_rest
set_option maxRecDepth 20000 in
theorem ggL_law_X10_rest : GoodIn wsL_law wsX10_rest := goodIn_r _ [513, 275, 160, 181, 182, 5, 183, 514, 515, 516, 517, 354, 355, 356, 357, 147, 493, 494, 495, 496, 466, 467, 468, 469, 309, 310, 311, 358, 359, 360, 361, 148, 149, 153, 150, 362, 363, 364, 365, 151, 366, 367, 368, 369, 370, 371, 372, 373, 374, 375, 470, 471, 472, 473, 710, 711, 712, 713, 714, 715, 716, 717, 718, 719, 720, 721, 722, 723, 724, 725, 726, 727, 728, 729, 730, 731, 732, 733] (by decide +kernel) (by decide +kernel)
set_option maxRecDepth 20000 in
theorem gL_law_X10_rest : GoodIn wsL_law (wsV RL 76 RX10 yX10_rest wsX10_rest) := goodIn_app (goodIn_of _ (by decide +kernel)) ggL_law_X10_rest
set_option maxRecDepth 20000 in
theorem ggL_law_X9_rests : GoodIn wsL_law wsX9_rests := goodIn_r _ [521, 32, 522, 523, 524, 31, 525, 80, 482, 526, 321, 322, 23, 323, 66, 527, 528, 529, 530, 483, 531, 455, 456, 27, 457, 73, 123, 458, 459, 460, 461, 333, 334, 335, 336, 74, 128, 2, 129, 130, 131, 132, 133, 65, 134, 135, 337, 338, 339, 340, 341, 342, 343, 344, 345, 346, 347, 348, 349, 296, 297, 298, 532, 533, 534, 535, 700, 701, 702, 703, 704, 705, 706, 707, 708, 709, 744, 745, 742, 743, 738, 739, 740, 741] (by decide +kernel) (by decide +kernel)
set_option maxRecDepth 20000 in
theorem gL_law_X9_rests : GoodIn wsL_law (wsV RL 77 RX9 yX9_rests wsX9_rests) := goodIn_app (goodIn_of _ (by decide +kernel)) ggL_law_X9_rests
set_option maxRecDepth 20000 in
theorem ggL_law_X10_rests : GoodIn wsL_law wsX10_rests := goodIn_r _ [539, 160, 514, 515, 516, 5, 517, 354, 355, 356, 357, 147, 493, 494, 495, 496, 466, 467, 468, 469, 309, 310, 311, 358, 359, 360, 361, 148, 149, 153, 150, 362, 363, 364, 365, 151, 366, 367, 368, 369, 370, 371, 372, 373, 374, 375, 470, 471, 472, 473, 710, 711, 712, 713, 714, 715, 716, 717, 718, 719, 720, 721, 722, 723, 724, 725, 726, 727, 728, 729, 730, 731, 732, 733] (by decide +kernel) (by decide +kernel)
set_option maxRecDepth 20000 in
theorem gL_law_X10_rests : GoodIn wsL_law (wsV RL 80 RX10 yX10_rests wsX10_rests) := goodIn_app (goodIn_of _ (by decide +kernel)) ggL_law_X10_rests
set_option maxRecDepth 20000 in
theorem ggL_law_X9_tip : GoodIn wsL_law wsX9_tip := goodIn_r _ [543, 32, 40, 380, 316, 317, 318, 2, 319, 28, 116, 320, 321, 322, 23, 323, 66, 451, 452, 453, 544, 545, 546, 31, 547, 80, 482, 79, 527, 528, 529, 530, 483, 531, 455, 456, 27, 457, 73, 123, 458, 459, 460, 461, 333, 334, 335, 336, 74, 128, 129, 130, 131, 132, 133, 65, 134, 135, 337, 338, 339, 340, 341, 342, 343, 344, 345, 346, 347, 348, 349, 296, 297, 298, 548, 549, 550, 551, 526, 484, 485, 486, 487, 110, 111, 552, 413, 700, 701, 702, 703, 704, 705, 706, 707, 708, 709, 747, 748, 742, 743, 738, 739, 740, 741, 744, 745] (by decide +kernel) (by decide +kernel)
set_option maxRecDepth 20000 in
theorem gL_law_X9_tip : GoodIn wsL_law (wsV RL 81 RX9 yX9_tip wsX9_tip) := goodIn_app (goodIn_of _ (by decide +kernel)) ggL_law_X9_tip
set_option maxRecDepth 20000 in
theorem ggL_law_X10_tip : GoodIn wsL_law wsX10_tip := goodIn_r _ [556, 275, 160, 354, 355, 356, 5, 357, 147, 181, 182, 183, 514, 515, 516, 517, 493, 494, 495, 496, 466, 467, 468, 469, 309, 310, 311, 358, 359, 360, 361, 148, 149, 153, 150, 362, 363, 364, 365, 151, 366, 367, 368, 369, 370, 371, 372, 373, 374, 375, 470, 471, 472, 473, 710, 711, 712, 713, 714, 715, 716, 717, 718, 719, 720, 721, 722, 723, 724, 725, 726, 727, 728, 729, 730, 731, 732, 733] (by decide +kernel) (by decide +kernel)
set_option maxRecDepth 20000 in
theorem gL_law_X10_tip : GoodIn wsL_law (wsV RL 85 RX10 yX10_tip wsX10_tip) := goodIn_app (goodIn_of _ (by decide +kernel)) ggL_law_X10_tip
set_option maxRecDepth 20000 in
theorem ggL_law_X9_place : GoodIn wsL_law wsX9_place := goodIn_r _ [560, 40, 36, 380, 284, 285, 286, 2, 287, 28, 116, 270, 451, 452, 453, 292, 293, 294, 39, 295, 90, 296, 297, 298, 134, 135, 561, 562, 563, 35, 564, 85, 565, 566, 567, 338, 339, 340, 341, 342, 343, 568, 569, 570, 571, 572, 573, 334, 335, 27, 336, 74, 73, 128, 129, 130, 131, 132, 23, 133, 65, 337, 574, 575, 576, 577, 333, 344, 345, 346, 347, 348, 349, 578, 330, 331, 332, 579, 700, 701, 702, 703, 704, 705, 706, 707, 708, 709, 747, 748, 742, 743, 738, 739, 740, 741, 746] (by decide +kernel) (by decide +kernel)
set_option maxRecDepth 20000 in
theorem gL_law_X9_place : GoodIn wsL_law (wsV RL 86 RX9 yX9_place wsX9_place) := goodIn_app (goodIn_of _ (by decide +kernel)) ggL_law_X9_place
set_option maxRecDepth 20000 in
theorem ggL_law_X10_place : GoodIn wsL_law wsX10_place := goodIn_r _ [583, 275, 147, 305, 306, 307, 5, 308, 181, 182, 183, 309, 310, 311, 370, 371, 372, 362, 363, 364, 365, 151, 366, 367, 368, 369, 466, 467, 468, 469, 358, 359, 360, 361, 148, 149, 153, 150, 373, 374, 375, 710, 711, 712, 713, 714, 715, 716, 717, 718, 719, 720, 721, 722, 723, 724, 725, 726, 727, 728, 729, 730, 731, 732, 733] (by decide +kernel) (by decide +kernel)
set_option maxRecDepth 20000 in
theorem gL_law_X10_place : GoodIn wsL_law (wsV RL 89 RX10 yX10_place wsX10_place) := goodIn_app (goodIn_of _ (by decide +kernel)) ggL_law_X10_place
set_option maxRecDepth 20000 in
theorem ggL_law_X9_burn : GoodIn wsL_law wsX9_burn := goodIn_r _ [587, 40, 36, 380, 284, 285, 286, 2, 287, 28, 116, 270, 292, 293, 294, 39, 295, 90, 296, 297, 298, 134, 135, 588, 589, 590, 35, 591, 85, 565, 572, 567, 338, 339, 340, 341, 342, 343, 574, 575, 576, 27, 577, 333, 334, 335, 336, 74, 73, 128, 129, 130, 131, 132, 23, 133, 65, 337, 344, 345, 346, 347, 348, 349, 700, 701, 702, 703, 704, 705, 706, 707, 708, 709, 747, 748, 742, 743, 738, 739, 740, 741, 746] (by decide +kernel) (by decide +kernel)
set_option maxRecDepth 20000 in
theorem gL_law_X9_burn : GoodIn wsL_law (wsV RL 90 RX9 yX9_burn wsX9_burn) := goodIn_app (goodIn_of _ (by decide +kernel)) ggL_law_X9_burn
set_option maxRecDepth 20000 in
theorem ggL_law_X10_burn : GoodIn wsL_law wsX10_burn := goodIn_r _ [595, 275, 305, 306, 307, 5, 308, 147, 181, 182, 183, 309, 310, 311, 354, 355, 356, 357, 466, 467, 468, 469, 358, 359, 360, 361, 148, 149, 153, 150, 362, 363, 364, 365, 151, 366, 367, 368, 369, 370, 371, 372, 373, 374, 375, 710, 711, 712, 713, 714, 715, 716, 717, 718, 719, 720, 721, 722, 723, 724, 725, 726, 727, 728, 729, 730, 731, 732, 733] (by decide +kernel) (by decide +kernel)
set_option maxRecDepth 20000 in
theorem gL_law_X10_burn : GoodIn wsL_law (wsV RL 93 RX10 yX10_burn wsX10_burn) := goodIn_app (goodIn_of _ (by decide +kernel)) ggL_law_X10_burn
set_option maxRecDepth 20000 in
theorem ggL_law_X9_share : GoodIn wsL_law wsX9_share := goodIn_r _ [599, 36, 40, 380, 600, 601, 602, 35, 603, 85, 565, 566, 296, 2, 297, 298, 134, 135, 604, 605, 606, 607, 572, 573, 334, 335, 27, 336, 74, 73, 128, 129, 130, 131, 132, 23, 133, 65, 337, 338, 339, 340, 341, 342, 343, 608, 345, 346, 347, 348, 349, 700, 701, 702, 703, 704, 705, 706, 707, 708, 709, 747, 748, 746, 742, 743, 738, 739, 740, 741] (by decide +kernel) (by decide +kernel)
set_option maxRecDepth 20000 in
theorem gL_law_X9_share : GoodIn wsL_law (wsV RL 94 RX9 yX9_share wsX9_share) := goodIn_app (goodIn_of _ (by decide +kernel)) ggL_law_X9_share
set_option maxRecDepth 20000 in
theorem ggL_law_X10_share : GoodIn wsL_law wsX10_share := goodIn_r _ [612, 147, 275, 148, 149, 153, 150, 309, 310, 5, 311, 362, 363, 364, 365, 151, 366, 367, 368, 369, 370, 371, 372, 358, 359, 360, 361, 373, 374, 375, 710, 711, 712, 713, 714, 715, 716, 717, 718, 719, 720, 721, 722, 723, 724, 725, 726, 727, 728, 729, 730, 731, 732, 733] (by decide +kernel) (by decide +kernel)
set_option maxRecDepth 20000 in
theorem gL_law_X10_share : GoodIn wsL_law (wsV RL 97 RX10 yX10_share wsX10_share) := goodIn_app (goodIn_of _ (by decide +kernel)) ggL_law_X10_share
set_option maxRecDepth 20000 in
theorem ggL_law_X9_seen : GoodIn wsL_law wsX9_seen := goodIn_r _ [616, 49, 118, 284, 285, 286, 2, 287, 28, 116, 270, 617, 618, 619, 48, 620, 105, 104, 101, 102, 110, 111, 700, 701, 702, 703, 704, 705, 706, 707, 708, 709, 752, 753, 754, 755, 742, 743, 738, 739, 740, 741] (by decide +kernel) (by decide +kernel)
set_option maxRecDepth 20000 in
theorem gL_law_X9_seen : GoodIn wsL_law (wsV RL 98 RX9 yX9_seen wsX9_seen) := goodIn_app (goodIn_of _ (by decide +kernel)) ggL_law_X9_seen
set_option maxRecDepth 20000 in
theorem ggL_law_X10_seen : GoodIn wsL_law wsX10_seen := goodIn_r _ [624, 625, 276, 156, 157, 158, 305, 306, 307, 5, 308, 147, 181, 182, 183, 710, 711, 712, 713, 714, 715, 716, 717, 718, 719, 720, 721, 722, 723, 724, 725, 726, 727, 728, 729, 730, 731, 732, 733] (by decide +kernel) (by decide +kernel)
set_option maxRecDepth 20000 in
theorem gL_law_X10_seen : GoodIn wsL_law (wsV RL 102 RX10 yX10_seen wsX10_seen) := goodIn_app (goodIn_of _ (by decide +kernel)) ggL_law_X10_seen
set_option maxRecDepth 20000 in
theorem ggL_law_X9_forget : GoodIn wsL_law wsX9_forget := goodIn_r _ [629, 49, 118, 700, 701, 702, 703, 704, 705, 706, 707, 708, 709, 752, 753, 754, 755] (by decide +kernel) (by decide +kernel)
set_option maxRecDepth 20000 in
theorem gL_law_X9_forget : GoodIn wsL_law (wsV RL 103 RX9 yX9_forget wsX9_forget) := goodIn_app (goodIn_of _ (by decide +kernel)) ggL_law_X9_forget
set_option maxRecDepth 20000 in
theorem ggL_law_X10_forget : GoodIn wsL_law wsX10_forget := goodIn_r _ [633, 276, 710, 711, 712, 713, 714, 715, 716, 717, 718, 719, 720, 721, 722, 723, 724, 725, 726, 727, 728, 729, 730, 731, 732, 733] (by decide +kernel) (by decide +kernel)
set_option maxRecDepth 20000 in
theorem gL_law_X10_forget : GoodIn wsL_law (wsV RL 106 RX10 yX10_forget wsX10_forget) := goodIn_app (goodIn_of _ (by decide +kernel)) ggL_law_X10_forget
set_option maxRecDepth 20000 in
theorem ggL_law_X9_likes : GoodIn wsL_law wsX9_likes := goodIn_r _ [637, 49, 28, 116, 284, 285, 286, 2, 287, 270, 451, 452, 453, 638, 639, 640, 48, 641, 105, 104, 102, 101, 128, 129, 642, 131, 132, 23, 133, 65, 348, 349, 700, 701, 702, 703, 704, 705, 706, 707, 708, 709, 742, 743, 738, 739, 740, 741, 752, 753, 754, 755] (by decide +kernel) (by decide +kernel)
set_option maxRecDepth 20000 in
theorem gL_law_X9_likes : GoodIn wsL_law (wsV RL 107 RX9 yX9_likes wsX9_likes) := goodIn_app (goodIn_of _ (by decide +kernel)) ggL_law_X9_likes
set_option maxRecDepth 20000 in
theorem ggL_law_X10_likes : GoodIn wsL_law wsX10_likes := goodIn_r _ [646, 276, 148, 150, 157, 156, 158, 305, 306, 307, 5, 308, 147, 181, 182, 183, 373, 374, 375, 710, 711, 712, 713, 714, 715, 716, 717, 718, 719, 720, 721, 722, 723, 724, 725, 726, 727, 728, 729, 730, 731, 732, 733] (by decide +kernel) (by decide +kernel)
set_option maxRecDepth 20000 in
theorem gL_law_X10_likes : GoodIn wsL_law (wsV RL 110 RX10 yX10_likes wsX10_likes) := goodIn_app (goodIn_of _ (by decide +kernel)) ggL_law_X10_likes
set_option maxRecDepth 20000 in
theorem ggL_law_X9_year : GoodIn wsL_law wsX9_year := goodIn_r _ [650, 32, 40, 380, 451, 452, 2, 453, 651, 652, 653, 31, 654, 80, 655, 656, 657, 658, 659, 660, 661, 484, 485, 486, 27, 487, 73, 123, 458, 459, 460, 461, 333, 334, 335, 336, 74, 128, 129, 130, 131, 132, 23, 133, 65, 134, 135, 337, 338, 339, 340, 341, 342, 343, 344, 345, 346, 347, 348, 349, 296, 297, 298, 552, 662, 663, 664, 665, 700, 701, 702, 703, 704, 705, 706, 707, 708, 709, 747, 748, 744, 745, 742, 743, 738, 739, 740, 741] (by decide +kernel) (by decide +kernel)
set_option maxRecDepth 20000 in
theorem gL_law_X9_year : GoodIn wsL_law (wsV RL 111 RX9 yX9_year wsX9_year) := goodIn_app (goodIn_of _ (by decide +kernel)) ggL_law_X9_year
set_option maxRecDepth 20000 in
theorem ggL_law_X10_year : GoodIn wsL_law wsX10_year := goodIn_r _ [669, 670, 671, 153, 275, 672, 673, 674, 181, 182, 5, 183, 493, 494, 495, 496, 147, 466, 467, 468, 469, 309, 310, 311, 358, 359, 360, 361, 148, 149, 150, 362, 363, 364, 365, 151, 366, 367, 368, 369, 370, 371, 372, 373, 374, 375, 470, 471, 472, 473, 710, 711, 712, 713, 714, 715, 716, 717, 718, 719, 720, 721, 722, 723, 724, 725, 726, 727, 728, 729, 730, 731, 732, 733] (by decide +kernel) (by decide +kernel)
set_option maxRecDepth 20000 in
theorem gL_law_X10_year : GoodIn wsL_law (wsV RL 115 RX10 yX10_year wsX10_year) := goodIn_app (goodIn_of _ (by decide +kernel)) ggL_law_X10_year
set_option maxRecDepth 20000 in
theorem ggL_law_X9_keep : GoodIn wsL_law wsX9_keep := goodIn_r _ [678, 45, 117, 40, 679, 392, 393, 43, 394, 95, 96, 97, 395, 396, 289, 290, 39, 291, 89, 128, 2, 129, 110, 111, 700, 701, 702, 703, 704, 705, 706, 707, 708, 709, 749, 750, 751, 747, 748] (by decide +kernel) (by decide +kernel)
set_option maxRecDepth 20000 in
theorem gL_law_X9_keep : GoodIn wsL_law (wsV RL 116 RX9 yX9_keep wsX9_keep) := goodIn_app (goodIn_of _ (by decide +kernel)) ggL_law_X9_keep
set_option maxRecDepth 20000 in
theorem ggL_law_X10_keep : GoodIn wsL_law wsX10_keep := goodIn_r _ [683, 278, 155, 275, 152, 710, 711, 712, 713, 714, 715, 716, 717, 718, 719, 720, 721, 722, 723, 724, 725, 726, 727, 728, 729, 730, 731, 732, 733] (by decide +kernel) (by decide +kernel)
set_option maxRecDepth 20000 in
theorem gL_law_X10_keep : GoodIn wsL_law (wsV RL 119 RX10 yX10_keep wsX10_keep) := goodIn_app (goodIn_of _ (by decide +kernel)) ggL_law_X10_keep
set_option maxRecDepth 20000 in
theorem ggL_law_X9_back : GoodIn wsL_law wsX9_back := goodIn_r _ [687, 45, 117, 40, 44, 430, 431, 432, 43, 433, 95, 434, 97, 395, 128, 2, 129, 110, 111, 700, 701, 702, 703, 704, 705, 706, 707, 708, 709, 749, 750, 751, 747, 748] (by decide +kernel) (by decide +kernel)
set_option maxRecDepth 20000 in
theorem gL_law_X9_back : GoodIn wsL_law (wsV RL 120 RX9 yX9_back wsX9_back) := goodIn_app (goodIn_of _ (by decide +kernel)) ggL_law_X9_back
set_option maxRecDepth 20000 in
theorem ggL_law_X10_back : GoodIn wsL_law wsX10_back := goodIn_r _ [691, 278, 155, 275, 152, 277, 710, 711, 712, 713, 714, 715, 716, 717, 718, 719, 720, 721, 722, 723, 724, 725, 726, 727, 728, 729, 730, 731, 732, 733] (by decide +kernel) (by decide +kernel)
set_option maxRecDepth 20000 in
theorem gL_law_X10_back : GoodIn wsL_law (wsV RL 123 RX10 yX10_back wsX10_back) := goodIn_app (goodIn_of _ (by decide +kernel)) ggL_law_X10_back
set_option maxRecDepth 20000 in
theorem ggL_law_X9_count : GoodIn wsL_law wsX9_count := goodIn_r _ [695, 28, 116, 270, 40, 380, 49, 118, 44, 117, 45, 16, 165, 324, 325, 326, 2, 327, 328, 700, 701, 702, 703, 704, 705, 706, 707, 708, 709, 742, 743, 738, 739, 740, 741, 747, 748, 752, 753, 754, 755, 749, 750, 751, 734, 735] (by decide +kernel) (by decide +kernel)
set_option maxRecDepth 20000 in
theorem gL_law_X9_count : GoodIn wsL_law (wsV RL 124 RX9 yX9_count wsX9_count) := goodIn_app (goodIn_of _ (by decide +kernel)) ggL_law_X9_count
set_option maxRecDepth 20000 in
theorem ggL_law_X10_count : GoodIn wsL_law wsX10_count := goodIn_r _ [699, 147, 275, 153, 276, 277, 278, 179, 710, 711, 712, 713, 714, 715, 716, 717, 718, 719, 720, 721, 722, 723, 724, 725, 726, 727, 728, 729, 730, 731, 732, 733] (by decide +kernel) (by decide +kernel)
set_option maxRecDepth 20000 in
theorem gL_law_X10_count : GoodIn wsL_law (wsV RL 127 RX10 yX10_count wsX10_count) := goodIn_app (goodIn_of _ (by decide +kernel)) ggL_law_X10_count

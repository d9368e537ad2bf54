set_option maxRecDepth 20000 in
theorem ggL_law_X10_init : GoodIn wsL_law wsX10_init := goodIn_r _ [9, 10, 11, 12, 13, 14, 15, 16, 17, 18, 19, 20, 21, 22, 23, 24, 25, 26, 27, 28, 29, 30, 31, 32, 33, 34, 35, 36, 37, 38, 39, 40, 41, 42, 43, 44, 45, 46, 47, 48, 49, 50, 51, 52, 53, 54, 55, 56, 57, 58, 59, 60, 61, 62, 63, 64, 65, 66, 67, 68, 69, 70, 71, 72, 73, 74, 75, 76, 77, 78, 79, 80, 81, 82, 83, 84, 85, 86, 87, 88, 89, 90, 91, 92, 93, 94, 95, 96, 97, 98, 99, 100, 101, 102, 103, 104, 105, 106, 107, 678, 679, 680, 681, 682, 683, 684, 685, 686, 687, 709, 710, 711, 712, 713, 714, 715, 716, 717, 718, 719, 720, 721, 722, 723, 724, 725, 726, 727, 728, 729, 730] (by decide +kernel) (by decide +kernel)
set_option maxRecDepth 20000 in
theorem gL_law_X10_init : GoodIn wsL_law (wsX10_init) := ggL_law_X10_init
set_option maxRecDepth 20000 in
theorem ggL_law_X11_init : GoodIn wsL_law wsX11_init := goodIn_r _ [110, 111, 11, 12, 112, 113, 51, 114, 115, 116, 117, 118, 119, 120, 121, 122, 123, 124, 125, 126, 127, 128, 688, 689, 690, 691, 692, 693, 694, 695, 696, 697, 698, 699, 700, 701, 702, 703, 704, 705, 706, 707, 708] (by decide +kernel) (by decide +kernel)
set_option maxRecDepth 20000 in
theorem gL_law_X11_init : GoodIn wsL_law (wsX11_init) := ggL_law_X11_init
set_option maxRecDepth 20000 in
theorem ggL_law_X10_write : GoodIn wsL_law wsX10_write := goodIn_r _ [132, 26, 133, 134, 135, 25, 136, 107, 137, 104, 105, 106, 67, 678, 679, 680, 681, 682, 683, 684, 685, 686, 687, 712, 713] (by decide +kernel) (by decide +kernel)
set_option maxRecDepth 20000 in
theorem gL_law_X10_write : GoodIn wsL_law (wsV RL 15 RX10 yX10_write wsX10_write) := goodIn_app (goodIn_of _ (by decide +kernel)) ggL_law_X10_write
set_option maxRecDepth 20000 in
theorem ggL_law_X11_write : GoodIn wsL_law wsX11_write := goodIn_r _ [141, 142, 143, 113, 144, 145, 5, 146, 688, 689, 690, 691, 692, 693, 694, 695, 696, 697, 698, 699, 700, 701, 702, 703, 704, 705, 706, 707, 708] (by decide +kernel) (by decide +kernel)
set_option maxRecDepth 20000 in
theorem gL_law_X11_write : GoodIn wsL_law (wsV RL 19 RX11 yX11_write wsX11_write) := goodIn_app (goodIn_of _ (by decide +kernel)) ggL_law_X11_write
set_option maxRecDepth 20000 in
theorem ggL_law_X10_wipe : GoodIn wsL_law wsX10_wipe := goodIn_r _ [150, 26, 151, 152, 153, 25, 154, 107, 678, 679, 680, 681, 682, 683, 684, 685, 686, 687, 712, 713] (by decide +kernel) (by decide +kernel)
set_option maxRecDepth 20000 in
theorem gL_law_X10_wipe : GoodIn wsL_law (wsV RL 20 RX10 yX10_wipe wsX10_wipe) := goodIn_app (goodIn_of _ (by decide +kernel)) ggL_law_X10_wipe
set_option maxRecDepth 20000 in
theorem ggL_law_X11_wipe : GoodIn wsL_law wsX11_wipe := goodIn_r _ [158, 143, 688, 689, 690, 691, 692, 693, 694, 695, 696, 697, 698, 699, 700, 701, 702, 703, 704, 705, 706, 707, 708] (by decide +kernel) (by decide +kernel)
set_option maxRecDepth 20000 in
theorem gL_law_X11_wipe : GoodIn wsL_law (wsV RL 24 RX11 yX11_wipe wsX11_wipe) := goodIn_app (goodIn_of _ (by decide +kernel)) ggL_law_X11_wipe
set_option maxRecDepth 20000 in
theorem ggL_law_X10_fault : GoodIn wsL_law wsX10_fault := goodIn_r _ [162, 26, 30, 133, 134, 135, 25, 136, 107, 163, 164, 165, 29, 166, 73, 72, 167, 168, 169, 170, 171, 172, 152, 153, 154, 173, 174, 175, 176, 67, 177, 178, 104, 105, 106, 179, 180, 181, 182, 183, 184, 185, 186, 187, 188, 189, 190, 191, 192, 193, 194, 195, 196, 197, 198, 199, 200, 201, 202, 678, 679, 680, 681, 682, 683, 684, 685, 686, 687, 712, 713, 714, 715, 716] (by decide +kernel) (by decide +kernel)
set_option maxRecDepth 20000 in
theorem gL_law_X10_fault : GoodIn wsL_law (wsV RL 25 RX10 yX10_fault wsX10_fault) := goodIn_app (goodIn_of _ (by decide +kernel)) ggL_law_X10_fault
set_option maxRecDepth 20000 in
theorem ggL_law_X11_fault : GoodIn wsL_law wsX11_fault := goodIn_r _ [206, 207, 208, 115, 114, 143, 209, 210, 211, 5, 212, 213, 214, 215, 216, 217, 218, 113, 219, 220, 221, 222, 223, 224, 225, 144, 145, 146, 688, 689, 690, 691, 692, 693, 694, 695, 696, 697, 698, 699, 700, 701, 702, 703, 704, 705, 706, 707, 708] (by decide +kernel) (by decide +kernel)
set_option maxRecDepth 20000 in
theorem gL_law_X11_fault : GoodIn wsL_law (wsV RL 28 RX11 yX11_fault wsX11_fault) := goodIn_app (goodIn_of _ (by decide +kernel)) ggL_law_X11_fault
set_option maxRecDepth 20000 in
theorem ggL_law_X10_lay : GoodIn wsL_law wsX10_lay := goodIn_r _ [229, 26, 30, 230, 160, 161, 2, 162, 133, 134, 135, 25, 136, 107, 163, 164, 165, 29, 166, 73, 72, 167, 168, 169, 170, 171, 172, 152, 153, 154, 173, 174, 175, 176, 67, 177, 178, 104, 105, 106, 179, 180, 181, 182, 183, 184, 185, 186, 187, 188, 189, 190, 191, 192, 193, 194, 195, 196, 197, 198, 199, 200, 201, 202, 231, 232, 233, 234, 235, 14, 236, 237, 238, 46, 239, 101, 98, 240, 241, 242, 243, 244, 245, 246, 247, 678, 679, 680, 681, 682, 683, 684, 685, 686, 687, 712, 713, 714, 715, 716, 726, 727, 728, 729, 730] (by decide +kernel) (by decide +kernel)
set_option maxRecDepth 20000 in
theorem gL_law_X10_lay : GoodIn wsL_law (wsV RL 29 RX10 yX10_lay wsX10_lay) := goodIn_app (goodIn_of _ (by decide +kernel)) ggL_law_X10_lay
set_option maxRecDepth 20000 in
theorem ggL_law_X11_lay : GoodIn wsL_law wsX11_lay := goodIn_r _ [251, 114, 115, 116, 208, 252, 204, 205, 5, 206, 207, 143, 209, 210, 211, 212, 213, 214, 215, 216, 217, 218, 113, 219, 220, 221, 222, 223, 224, 225, 144, 145, 146, 688, 689, 690, 691, 692, 693, 694, 695, 696, 697, 698, 699, 700, 701, 702, 703, 704, 705, 706, 707, 708] (by decide +kernel) (by decide +kernel)
set_option maxRecDepth 20000 in
theorem gL_law_X11_lay : GoodIn wsL_law (wsV RL 32 RX11 yX11_lay wsX11_lay) := goodIn_app (goodIn_of _ (by decide +kernel)) ggL_law_X11_lay
set_option maxRecDepth 20000 in
theorem ggL_law_X10_told : GoodIn wsL_law wsX10_told := goodIn_r _ [256, 232, 233, 234, 2, 235, 14, 133, 134, 135, 25, 136, 107, 257, 174, 175, 176, 67, 726, 727, 728, 729, 730, 678, 679, 680, 681, 682, 683, 684, 685, 686, 687, 712, 713] (by decide +kernel) (by decide +kernel)
set_option maxRecDepth 20000 in
theorem gL_law_X10_told : GoodIn wsL_law (wsV RL 33 RX10 yX10_told wsX10_told) := goodIn_app (goodIn_of _ (by decide +kernel)) ggL_law_X10_told
set_option maxRecDepth 20000 in
theorem ggL_law_X11_told : GoodIn wsL_law wsX11_told := goodIn_r _ [261, 262, 114, 263, 264, 5, 265, 213, 144, 145, 146, 688, 689, 690, 691, 692, 693, 694, 695, 696, 697, 698, 699, 700, 701, 702, 703, 704, 705, 706, 707, 708] (by decide +kernel) (by decide +kernel)
set_option maxRecDepth 20000 in
theorem gL_law_X11_told : GoodIn wsL_law (wsV RL 37 RX11 yX11_told wsX11_told) := goodIn_app (goodIn_of _ (by decide +kernel)) ggL_law_X11_told
set_option maxRecDepth 20000 in
theorem ggL_law_X10_at : GoodIn wsL_law wsX10_at := goodIn_r _ [269, 270, 271, 272, 2, 273, 22, 232, 233, 234, 235, 14, 274, 275, 276, 21, 277, 58, 57, 278, 279, 280, 17, 281, 52, 282, 283, 284, 285, 286, 287, 288, 289, 290, 291, 292, 293, 294, 295, 296, 297, 298, 299, 300, 301, 302, 303, 304, 305, 306, 307, 308, 309, 310, 311, 312, 313, 314, 315, 316, 317, 318, 319, 320, 321, 322, 323, 64, 65, 66, 324, 325, 326, 327, 328, 329, 330, 331, 332, 333, 334, 335, 336, 337, 338, 339, 340, 341, 134, 135, 25, 136, 107, 342, 174, 175, 176, 67, 343, 344, 345, 346, 347, 348, 46, 349, 350, 99, 726, 727, 728, 729, 730, 678, 679, 680, 681, 682, 683, 684, 685, 686, 687, 710, 711, 709, 712, 713] (by decide +kernel) (by decide +kernel)
set_option maxRecDepth 20000 in
theorem gL_law_X10_at : GoodIn wsL_law (wsV RL 38 RX10 yX10_at wsX10_at) := goodIn_app (goodIn_of _ (by decide +kernel)) ggL_law_X10_at
set_option maxRecDepth 20000 in
theorem ggL_law_X11_at : GoodIn wsL_law wsX11_at := goodIn_r _ [354, 355, 356, 117, 263, 264, 5, 265, 213, 144, 145, 146, 357, 358, 359, 360, 116, 114, 361, 119, 362, 363, 364, 365, 366, 367, 368, 369, 370, 371, 372, 373, 374, 375, 376, 377, 378, 379, 380, 381, 123, 688, 689, 690, 691, 692, 693, 694, 695, 696, 697, 698, 699, 700, 701, 702, 703, 704, 705, 706, 707, 708] (by decide +kernel) (by decide +kernel)
set_option maxRecDepth 20000 in
theorem gL_law_X11_at : GoodIn wsL_law (wsV RL 41 RX11 yX11_at wsX11_at) := goodIn_app (goodIn_of _ (by decide +kernel)) ggL_law_X11_at
set_option maxRecDepth 20000 in
theorem ggL_law_X10_first : GoodIn wsL_law wsX10_first := goodIn_r _ [385, 270, 271, 272, 2, 273, 22, 232, 233, 234, 235, 14, 274, 275, 276, 21, 277, 58, 57, 278, 279, 280, 17, 281, 52, 282, 283, 284, 285, 286, 287, 288, 289, 290, 291, 292, 293, 294, 295, 296, 297, 298, 299, 300, 301, 302, 303, 304, 305, 306, 307, 308, 309, 310, 311, 312, 313, 314, 315, 316, 317, 318, 319, 320, 321, 322, 323, 64, 65, 66, 324, 325, 326, 327, 328, 329, 330, 331, 332, 333, 334, 335, 336, 337, 338, 339, 340, 341, 134, 135, 25, 136, 107, 342, 174, 175, 176, 67, 343, 344, 345, 386, 387, 388, 389, 46, 390, 350, 391, 347, 348, 349, 99, 726, 727, 728, 729, 730, 678, 679, 680, 681, 682, 683, 684, 685, 686, 687, 710, 711, 709, 712, 713] (by decide +kernel) (by decide +kernel)
set_option maxRecDepth 20000 in
theorem gL_law_X10_first : GoodIn wsL_law (wsV RL 42 RX10 yX10_first wsX10_first) := goodIn_app (goodIn_of _ (by decide +kernel)) ggL_law_X10_first
set_option maxRecDepth 20000 in
theorem ggL_law_X11_first : GoodIn wsL_law wsX11_first := goodIn_r _ [395, 396, 356, 117, 263, 264, 5, 265, 213, 144, 145, 146, 357, 358, 359, 360, 116, 114, 361, 119, 362, 363, 364, 365, 366, 367, 368, 369, 370, 371, 372, 373, 374, 375, 376, 377, 378, 379, 380, 381, 123, 688, 689, 690, 691, 692, 693, 694, 695, 696, 697, 698, 699, 700, 701, 702, 703, 704, 705, 706, 707, 708] (by decide +kernel) (by decide +kernel)
set_option maxRecDepth 20000 in
theorem gL_law_X11_first : GoodIn wsL_law (wsV RL 45 RX11 yX11_first wsX11_first) := goodIn_app (goodIn_of _ (by decide +kernel)) ggL_law_X11_first
set_option maxRecDepth 20000 in
theorem ggL_law_X10_often : GoodIn wsL_law wsX10_often := goodIn_r _ [400, 270, 271, 272, 2, 273, 22, 232, 233, 234, 235, 14, 274, 275, 276, 21, 277, 58, 57, 278, 279, 280, 17, 281, 52, 282, 283, 284, 285, 286, 287, 288, 289, 290, 291, 292, 293, 294, 295, 296, 297, 298, 299, 300, 301, 302, 303, 304, 305, 306, 307, 308, 309, 310, 311, 312, 313, 314, 315, 316, 317, 318, 319, 320, 321, 322, 323, 64, 65, 66, 324, 325, 326, 327, 328, 329, 330, 331, 332, 333, 334, 335, 336, 337, 338, 339, 340, 341, 134, 135, 25, 136, 107, 342, 174, 175, 176, 67, 343, 344, 345, 386, 401, 402, 403, 46, 404, 350, 391, 347, 348, 349, 99, 726, 727, 728, 729, 730, 678, 679, 680, 681, 682, 683, 684, 685, 686, 687, 710, 711, 709, 712, 713] (by decide +kernel) (by decide +kernel)
set_option maxRecDepth 20000 in
theorem gL_law_X10_often : GoodIn wsL_law (wsV RL 46 RX10 yX10_often wsX10_often) := goodIn_app (goodIn_of _ (by decide +kernel)) ggL_law_X10_often
set_option maxRecDepth 20000 in
theorem ggL_law_X11_often : GoodIn wsL_law wsX11_often := goodIn_r _ [408, 396, 409, 356, 117, 263, 264, 5, 265, 213, 144, 145, 146, 357, 358, 359, 360, 116, 114, 361, 119, 362, 363, 364, 365, 366, 367, 368, 369, 370, 371, 372, 373, 374, 375, 376, 377, 378, 379, 380, 381, 123, 688, 689, 690, 691, 692, 693, 694, 695, 696, 697, 698, 699, 700, 701, 702, 703, 704, 705, 706, 707, 708] (by decide +kernel) (by decide +kernel)
set_option maxRecDepth 20000 in
theorem gL_law_X11_often : GoodIn wsL_law (wsV RL 50 RX11 yX11_often wsX11_often) := goodIn_app (goodIn_of _ (by decide +kernel)) ggL_law_X11_often
set_option maxRecDepth 20000 in
theorem ggL_law_X10_run : GoodIn wsL_law wsX10_run := goodIn_r _ [413, 270, 271, 272, 2, 273, 22, 232, 233, 234, 235, 14, 274, 275, 276, 21, 277, 58, 57, 278, 279, 280, 17, 281, 52, 282, 283, 284, 285, 286, 287, 288, 289, 290, 291, 292, 293, 294, 295, 296, 297, 298, 299, 300, 301, 302, 303, 304, 305, 306, 307, 308, 309, 310, 311, 312, 313, 314, 315, 316, 317, 318, 319, 320, 321, 322, 323, 64, 65, 66, 324, 325, 326, 327, 328, 329, 330, 331, 332, 333, 334, 335, 336, 337, 338, 339, 340, 341, 134, 135, 25, 136, 107, 342, 174, 175, 176, 67, 343, 344, 345, 414, 415, 416, 46, 417, 350, 418, 419, 420, 421, 391, 347, 348, 349, 99, 346, 422, 726, 727, 728, 729, 730, 678, 679, 680, 681, 682, 683, 684, 685, 686, 687, 710, 711, 709, 712, 713] (by decide +kernel) (by decide +kernel)
set_option maxRecDepth 20000 in
theorem gL_law_X10_run : GoodIn wsL_law (wsV RL 51 RX10 yX10_run wsX10_run) := goodIn_app (goodIn_of _ (by decide +kernel)) ggL_law_X10_run
set_option maxRecDepth 20000 in
theorem ggL_law_X11_run : GoodIn wsL_law wsX11_run := goodIn_r _ [426, 225, 356, 117, 263, 264, 5, 265, 213, 144, 145, 146, 357, 358, 359, 360, 116, 114, 361, 119, 362, 363, 364, 365, 366, 367, 368, 369, 370, 371, 372, 373, 374, 375, 376, 377, 378, 379, 380, 381, 123, 688, 689, 690, 691, 692, 693, 694, 695, 696, 697, 698, 699, 700, 701, 702, 703, 704, 705, 706, 707, 708] (by decide +kernel) (by decide +kernel)
set_option maxRecDepth 20000 in
theorem gL_law_X11_run : GoodIn wsL_law (wsV RL 54 RX11 yX11_run wsX11_run) := goodIn_app (goodIn_of _ (by decide +kernel)) ggL_law_X11_run
set_option maxRecDepth 20000 in
theorem ggL_law_X10_most : GoodIn wsL_law wsX10_most := goodIn_r _ [430, 18, 270, 271, 272, 2, 273, 22, 232, 233, 234, 235, 14, 274, 275, 276, 21, 277, 58, 57, 278, 279, 280, 17, 281, 52, 282, 283, 284, 285, 286, 287, 288, 289, 290, 291, 292, 293, 294, 295, 296, 297, 298, 299, 300, 301, 302, 303, 304, 305, 306, 307, 308, 309, 310, 311, 312, 313, 314, 315, 316, 317, 318, 319, 320, 321, 322, 323, 64, 65, 66, 324, 325, 326, 327, 328, 329, 330, 331, 332, 333, 334, 335, 336, 337, 338, 339, 340, 341, 134, 135, 25, 136, 107, 342, 174, 175, 176, 67, 343, 344, 345, 431, 432, 433, 46, 434, 350, 435, 436, 437, 438, 418, 419, 420, 421, 391, 347, 348, 349, 99, 439, 440, 441, 442, 443, 444, 445, 446, 447, 448, 449, 387, 388, 389, 390, 678, 679, 680, 681, 682, 683, 684, 685, 686, 687, 726, 727, 728, 729, 730, 710, 711, 709, 712, 713] (by decide +kernel) (by decide +kernel)
set_option maxRecDepth 20000 in
theorem gL_law_X10_most : GoodIn wsL_law (wsV RL 55 RX10 yX10_most wsX10_most) := goodIn_app (goodIn_of _ (by decide +kernel)) ggL_law_X10_most
set_option maxRecDepth 20000 in
theorem ggL_law_X11_most : GoodIn wsL_law wsX11_most := goodIn_r _ [453, 409, 213, 356, 117, 263, 264, 5, 265, 144, 145, 146, 357, 358, 359, 360, 116, 114, 361, 119, 362, 363, 364, 365, 366, 367, 368, 369, 370, 371, 372, 373, 374, 375, 376, 377, 378, 379, 380, 381, 123, 688, 689, 690, 691, 692, 693, 694, 695, 696, 697, 698, 699, 700, 701, 702, 703, 704, 705, 706, 707, 708] (by decide +kernel) (by decide +kernel)
set_option maxRecDepth 20000 in
theorem gL_law_X11_most : GoodIn wsL_law (wsV RL 58 RX11 yX11_most wsX11_most) := goodIn_app (goodIn_of _ (by decide +kernel)) ggL_law_X11_most
set_option maxRecDepth 20000 in
theorem ggL_law_X10_around : GoodIn wsL_law wsX10_around := goodIn_r _ [457, 270, 271, 272, 2, 273, 22, 232, 233, 234, 235, 14, 274, 275, 276, 21, 277, 58, 57, 278, 279, 280, 17, 281, 52, 282, 283, 284, 285, 286, 287, 288, 289, 290, 291, 292, 293, 294, 295, 296, 297, 298, 299, 300, 301, 302, 303, 304, 305, 306, 307, 308, 309, 310, 311, 312, 313, 314, 315, 316, 317, 318, 319, 320, 321, 322, 323, 64, 65, 66, 324, 325, 326, 327, 328, 329, 330, 331, 332, 333, 334, 335, 336, 337, 338, 339, 340, 341, 134, 135, 25, 136, 107, 342, 174, 175, 176, 67, 343, 344, 345, 458, 459, 460, 46, 461, 350, 462, 463, 464, 465, 438, 391, 347, 348, 349, 99, 466, 726, 727, 728, 729, 730, 678, 679, 680, 681, 682, 683, 684, 685, 686, 687, 710, 711, 709, 712, 713] (by decide +kernel) (by decide +kernel)
set_option maxRecDepth 20000 in
theorem gL_law_X10_around : GoodIn wsL_law (wsV RL 59 RX10 yX10_around wsX10_around) := goodIn_app (goodIn_of _ (by decide +kernel)) ggL_law_X10_around
set_option maxRecDepth 20000 in
theorem ggL_law_X11_around : GoodIn wsL_law wsX11_around := goodIn_r _ [470, 356, 117, 263, 264, 5, 265, 213, 144, 145, 146, 357, 358, 359, 360, 116, 114, 361, 119, 362, 363, 364, 365, 366, 367, 368, 369, 370, 371, 372, 373, 374, 375, 376, 377, 378, 379, 380, 381, 123, 688, 689, 690, 691, 692, 693, 694, 695, 696, 697, 698, 699, 700, 701, 702, 703, 704, 705, 706, 707, 708] (by decide +kernel) (by decide +kernel)
set_option maxRecDepth 20000 in
theorem gL_law_X11_around : GoodIn wsL_law (wsV RL 62 RX11 yX11_around wsX11_around) := goodIn_app (goodIn_of _ (by decide +kernel)) ggL_law_X11_around
set_option maxRecDepth 20000 in
theorem ggL_law_X10_number : GoodIn wsL_law wsX10_number := goodIn_r _ [474, 31, 386, 343, 2, 344, 345, 137, 104, 105, 25, 106, 107, 67, 133, 134, 135, 136, 678, 679, 680, 681, 682, 683, 684, 685, 686, 687, 712, 713] (by decide +kernel) (by decide +kernel)
set_option maxRecDepth 20000 in
theorem gL_law_X10_number : GoodIn wsL_law (wsV RL 63 RX10 yX10_number wsX10_number) := goodIn_app (goodIn_of _ (by decide +kernel)) ggL_law_X10_number
set_option maxRecDepth 20000 in
theorem ggL_law_X11_number : GoodIn wsL_law wsX11_number := goodIn_r _ [478, 396, 479, 120, 144, 145, 5, 146, 688, 689, 690, 691, 692, 693, 694, 695, 696, 697, 698, 699, 700, 701, 702, 703, 704, 705, 706, 707, 708] (by decide +kernel) (by decide +kernel)
set_option maxRecDepth 20000 in
theorem gL_law_X11_number : GoodIn wsL_law (wsV RL 67 RX11 yX11_number wsX11_number) := goodIn_app (goodIn_of _ (by decide +kernel)) ggL_law_X11_number
set_option maxRecDepth 20000 in
theorem ggL_law_X10_noNumbers : GoodIn wsL_law wsX10_noNumbers := goodIn_r _ [483, 31, 151, 152, 153, 25, 154, 107, 678, 679, 680, 681, 682, 683, 684, 685, 686, 687, 712, 713] (by decide +kernel) (by decide +kernel)
set_option maxRecDepth 20000 in
theorem gL_law_X10_noNumbers : GoodIn wsL_law (wsV RL 68 RX10 yX10_noNumbers wsX10_noNumbers) := goodIn_app (goodIn_of _ (by decide +kernel)) ggL_law_X10_noNumbers
set_option maxRecDepth 20000 in
theorem ggL_law_X11_noNumbers : GoodIn wsL_law wsX11_noNumbers := goodIn_r _ [487, 479, 688, 689, 690, 691, 692, 693, 694, 695, 696, 697, 698, 699, 700, 701, 702, 703, 704, 705, 706, 707, 708] (by decide +kernel) (by decide +kernel)
set_option maxRecDepth 20000 in
theorem gL_law_X11_noNumbers : GoodIn wsL_law (wsV RL 71 RX11 yX11_noNumbers wsX11_noNumbers) := goodIn_app (goodIn_of _ (by decide +kernel)) ggL_law_X11_noNumbers
set_option maxRecDepth 20000 in
theorem ggL_law_X10_breaks : GoodIn wsL_law wsX10_breaks := goodIn_r _ [491, 31, 270, 271, 272, 2, 273, 22, 232, 233, 234, 235, 14, 274, 275, 276, 21, 277, 58, 57, 278, 279, 280, 17, 281, 52, 282, 283, 284, 285, 286, 287, 288, 289, 290, 291, 292, 293, 294, 295, 296, 297, 298, 299, 300, 301, 302, 303, 304, 305, 306, 307, 308, 309, 310, 311, 312, 313, 314, 315, 316, 317, 318, 319, 320, 321, 322, 323, 64, 65, 66, 324, 325, 326, 327, 328, 329, 330, 331, 332, 333, 334, 335, 336, 337, 338, 339, 340, 341, 134, 135, 25, 136, 107, 342, 174, 175, 176, 67, 343, 344, 345, 133, 346, 347, 348, 46, 349, 350, 99, 257, 678, 679, 680, 681, 682, 683, 684, 685, 686, 687, 726, 727, 728, 729, 730, 710, 711, 709, 712, 713] (by decide +kernel) (by decide +kernel)
set_option maxRecDepth 20000 in
theorem gL_law_X10_breaks : GoodIn wsL_law (wsV RL 72 RX10 yX10_breaks wsX10_breaks) := goodIn_app (goodIn_of _ (by decide +kernel)) ggL_law_X10_breaks
set_option maxRecDepth 20000 in
theorem ggL_law_X11_breaks : GoodIn wsL_law wsX11_breaks := goodIn_r _ [495, 263, 264, 5, 265, 213, 144, 145, 146, 496, 497, 498, 499, 479, 356, 117, 120, 357, 358, 359, 360, 116, 114, 361, 119, 362, 363, 364, 365, 366, 367, 368, 369, 370, 371, 372, 373, 374, 375, 376, 377, 378, 379, 380, 381, 123, 688, 689, 690, 691, 692, 693, 694, 695, 696, 697, 698, 699, 700, 701, 702, 703, 704, 705, 706, 707, 708] (by decide +kernel) (by decide +kernel)
set_option maxRecDepth 20000 in
theorem gL_law_X11_breaks : GoodIn wsL_law (wsV RL 75 RX11 yX11_breaks wsX11_breaks) := goodIn_app (goodIn_of _ (by decide +kernel)) ggL_law_X11_breaks
set_option maxRecDepth 20000 in
theorem ggL_law_X10_may : GoodIn wsL_law wsX10_may := goodIn_r _ [503, 504, 489, 490, 2, 491, 31, 270, 271, 272, 273, 22, 232, 233, 234, 235, 14, 274, 275, 276, 21, 277, 58, 57, 278, 279, 280, 17, 281, 52, 282, 283, 284, 285, 286, 287, 288, 289, 290, 291, 292, 293, 294, 295, 296, 297, 298, 299, 300, 301, 302, 303, 304, 305, 306, 307, 308, 309, 310, 311, 312, 313, 314, 315, 316, 317, 318, 319, 320, 321, 322, 323, 64, 65, 66, 324, 325, 326, 327, 328, 329, 330, 331, 332, 333, 334, 335, 336, 337, 338, 339, 340, 341, 134, 135, 25, 136, 107, 342, 174, 175, 176, 67, 343, 344, 345, 133, 346, 347, 348, 46, 349, 350, 99, 257, 678, 679, 680, 681, 682, 683, 684, 685, 686, 687, 726, 727, 728, 729, 730, 710, 711, 709, 712, 713] (by decide +kernel) (by decide +kernel)
set_option maxRecDepth 20000 in
theorem gL_law_X10_may : GoodIn wsL_law (wsV RL 76 RX10 yX10_may wsX10_may) := goodIn_app (goodIn_of _ (by decide +kernel)) ggL_law_X10_may
set_option maxRecDepth 20000 in
theorem ggL_law_X11_may : GoodIn wsL_law wsX11_may := goodIn_r _ [508, 496, 497, 498, 5, 499, 479, 356, 117, 120, 357, 358, 359, 360, 116, 114, 361, 119, 362, 363, 364, 365, 366, 367, 368, 369, 370, 371, 372, 373, 144, 145, 146, 374, 375, 376, 377, 378, 379, 380, 381, 123, 688, 689, 690, 691, 692, 693, 694, 695, 696, 697, 698, 699, 700, 701, 702, 703, 704, 705, 706, 707, 708] (by decide +kernel) (by decide +kernel)
set_option maxRecDepth 20000 in
theorem gL_law_X11_may : GoodIn wsL_law (wsV RL 79 RX11 yX11_may wsX11_may) := goodIn_app (goodIn_of _ (by decide +kernel)) ggL_law_X11_may
set_option maxRecDepth 20000 in
theorem ggL_law_X10_figure : GoodIn wsL_law wsX10_figure := goodIn_r _ [512, 32, 137, 104, 105, 25, 106, 107, 67, 133, 134, 135, 136, 678, 679, 680, 681, 682, 683, 684, 685, 686, 687, 712, 713] (by decide +kernel) (by decide +kernel)
set_option maxRecDepth 20000 in
theorem gL_law_X10_figure : GoodIn wsL_law (wsV RL 80 RX10 yX10_figure wsX10_figure) := goodIn_app (goodIn_of _ (by decide +kernel)) ggL_law_X10_figure
set_option maxRecDepth 20000 in
theorem ggL_law_X11_figure : GoodIn wsL_law wsX11_figure := goodIn_r _ [516, 517, 518, 121, 144, 145, 5, 146, 688, 689, 690, 691, 692, 693, 694, 695, 696, 697, 698, 699, 700, 701, 702, 703, 704, 705, 706, 707, 708] (by decide +kernel) (by decide +kernel)
set_option maxRecDepth 20000 in
theorem gL_law_X11_figure : GoodIn wsL_law (wsV RL 83 RX11 yX11_figure wsX11_figure) := goodIn_app (goodIn_of _ (by decide +kernel)) ggL_law_X11_figure
set_option maxRecDepth 20000 in
theorem ggL_law_X10_noFigures : GoodIn wsL_law wsX10_noFigures := goodIn_r _ [522, 32, 151, 152, 153, 25, 154, 107, 678, 679, 680, 681, 682, 683, 684, 685, 686, 687, 712, 713] (by decide +kernel) (by decide +kernel)
set_option maxRecDepth 20000 in
theorem gL_law_X10_noFigures : GoodIn wsL_law (wsV RL 84 RX10 yX10_noFigures wsX10_noFigures) := goodIn_app (goodIn_of _ (by decide +kernel)) ggL_law_X10_noFigures
set_option maxRecDepth 20000 in
theorem ggL_law_X11_noFigures : GoodIn wsL_law wsX11_noFigures := goodIn_r _ [526, 518, 688, 689, 690, 691, 692, 693, 694, 695, 696, 697, 698, 699, 700, 701, 702, 703, 704, 705, 706, 707, 708] (by decide +kernel) (by decide +kernel)
set_option maxRecDepth 20000 in
theorem gL_law_X11_noFigures : GoodIn wsL_law (wsV RL 87 RX11 yX11_noFigures wsX11_noFigures) := goodIn_app (goodIn_of _ (by decide +kernel)) ggL_law_X11_noFigures
set_option maxRecDepth 20000 in
theorem ggL_law_X10_said : GoodIn wsL_law wsX10_said := goodIn_r _ [530, 36, 32, 531, 532, 533, 35, 534, 79, 80, 535, 243, 244, 25, 245, 107, 246, 174, 175, 176, 67, 247, 104, 105, 106, 536, 537, 538, 539, 152, 153, 154, 540, 134, 135, 136, 541, 542, 543, 544, 545, 546, 547, 2, 548, 133, 257, 678, 679, 680, 681, 682, 683, 684, 685, 686, 687, 717, 718, 712, 713] (by decide +kernel) (by decide +kernel)
set_option maxRecDepth 20000 in
theorem gL_law_X10_said : GoodIn wsL_law (wsV RL 88 RX10 yX10_said wsX10_said) := goodIn_app (goodIn_of _ (by decide +kernel)) ggL_law_X10_said
set_option maxRecDepth 20000 in
theorem ggL_law_X11_said : GoodIn wsL_law wsX11_said := goodIn_r _ [552, 553, 554, 122, 144, 145, 5, 146, 555, 556, 557, 558, 518, 121, 559, 560, 561, 562, 123, 688, 689, 690, 691, 692, 693, 694, 695, 696, 697, 698, 699, 700, 701, 702, 703, 704, 705, 706, 707, 708] (by decide +kernel) (by decide +kernel)
set_option maxRecDepth 20000 in
theorem gL_law_X11_said : GoodIn wsL_law (wsV RL 92 RX11 yX11_said wsX11_said) := goodIn_app (goodIn_of _ (by decide +kernel)) ggL_law_X11_said
set_option maxRecDepth 20000 in
theorem ggL_law_X10_unsaid : GoodIn wsL_law wsX10_unsaid := goodIn_r _ [566, 36, 32, 567, 568, 569, 35, 570, 79, 571, 572, 573, 539, 152, 153, 25, 154, 107, 540, 134, 135, 136, 541, 174, 175, 176, 67, 542, 104, 105, 106, 546, 547, 2, 548, 133, 257, 678, 679, 680, 681, 682, 683, 684, 685, 686, 687, 717, 718, 712, 713] (by decide +kernel) (by decide +kernel)
set_option maxRecDepth 20000 in
theorem gL_law_X10_unsaid : GoodIn wsL_law (wsV RL 93 RX10 yX10_unsaid wsX10_unsaid) := goodIn_app (goodIn_of _ (by decide +kernel)) ggL_law_X10_unsaid
set_option maxRecDepth 20000 in
theorem ggL_law_X11_unsaid : GoodIn wsL_law wsX11_unsaid := goodIn_r _ [577, 554, 122, 555, 556, 557, 5, 558, 518, 121, 578, 579, 580, 581, 123, 688, 689, 690, 691, 692, 693, 694, 695, 696, 697, 698, 699, 700, 701, 702, 703, 704, 705, 706, 707, 708] (by decide +kernel) (by decide +kernel)
set_option maxRecDepth 20000 in
theorem gL_law_X11_unsaid : GoodIn wsL_law (wsV RL 96 RX11 yX11_unsaid wsX11_unsaid) := goodIn_app (goodIn_of _ (by decide +kernel)) ggL_law_X11_unsaid
set_option maxRecDepth 20000 in
theorem ggL_law_X10_backs : GoodIn wsL_law wsX10_backs := goodIn_r _ [585, 36, 32, 586, 587, 588, 35, 589, 79, 80, 535, 243, 244, 25, 245, 107, 246, 174, 175, 176, 67, 247, 104, 105, 106, 571, 572, 573, 539, 152, 153, 154, 540, 134, 135, 136, 541, 542, 678, 679, 680, 681, 682, 683, 684, 685, 686, 687, 717, 718, 712, 713] (by decide +kernel) (by decide +kernel)
set_option maxRecDepth 20000 in
theorem gL_law_X10_backs : GoodIn wsL_law (wsV RL 97 RX10 yX10_backs wsX10_backs) := goodIn_app (goodIn_of _ (by decide +kernel)) ggL_law_X10_backs
set_option maxRecDepth 20000 in
theorem ggL_law_X11_backs : GoodIn wsL_law wsX11_backs := goodIn_r _ [593, 555, 556, 557, 5, 558, 518, 554, 122, 121, 578, 579, 580, 581, 123, 688, 689, 690, 691, 692, 693, 694, 695, 696, 697, 698, 699, 700, 701, 702, 703, 704, 705, 706, 707, 708] (by decide +kernel) (by decide +kernel)
set_option maxRecDepth 20000 in
theorem gL_law_X11_backs : GoodIn wsL_law (wsV RL 100 RX11 yX11_backs wsX11_backs) := goodIn_app (goodIn_of _ (by decide +kernel)) ggL_law_X11_backs
set_option maxRecDepth 20000 in
theorem ggL_law_X10_round : GoodIn wsL_law wsX10_round := goodIn_r _ [597, 40, 32, 598, 599, 600, 39, 601, 87, 602, 603, 604, 243, 244, 25, 245, 107, 246, 174, 175, 176, 67, 247, 104, 105, 106, 605, 537, 35, 538, 539, 152, 153, 154, 540, 134, 135, 136, 541, 542, 606, 607, 608, 609, 610, 611, 612, 613, 614, 615, 616, 617, 678, 679, 680, 681, 682, 683, 684, 685, 686, 687, 719, 720, 721, 712, 713] (by decide +kernel) (by decide +kernel)
set_option maxRecDepth 20000 in
theorem gL_law_X10_round : GoodIn wsL_law (wsV RL 101 RX10 yX10_round wsX10_round) := goodIn_app (goodIn_of _ (by decide +kernel)) ggL_law_X10_round
set_option maxRecDepth 20000 in
theorem ggL_law_X11_round : GoodIn wsL_law wsX11_round := goodIn_r _ [621, 124, 554, 125, 122, 144, 145, 5, 146, 555, 556, 557, 558, 518, 121, 559, 560, 561, 562, 123, 622, 623, 624, 625, 688, 689, 690, 691, 692, 693, 694, 695, 696, 697, 698, 699, 700, 701, 702, 703, 704, 705, 706, 707, 708] (by decide +kernel) (by decide +kernel)
set_option maxRecDepth 20000 in
theorem gL_law_X11_round : GoodIn wsL_law (wsV RL 104 RX11 yX11_round wsX11_round) := goodIn_app (goodIn_of _ (by decide +kernel)) ggL_law_X11_round
set_option maxRecDepth 20000 in
theorem ggL_law_X10_tellers : GoodIn wsL_law wsX10_tellers := goodIn_r _ [629, 630, 44, 631, 632, 633, 43, 634, 635, 636, 637, 638, 639, 640, 641, 92, 642, 643, 644, 645, 646, 647, 648, 649, 650, 651, 652, 653, 654, 678, 679, 680, 681, 682, 683, 684, 685, 686, 687, 722, 723, 724, 725] (by decide +kernel) (by decide +kernel)
set_option maxRecDepth 20000 in
theorem gL_law_X10_tellers : GoodIn wsL_law (wsV RL 105 RX10 yX10_tellers wsX10_tellers) := goodIn_app (goodIn_of _ (by decide +kernel)) ggL_law_X10_tellers
set_option maxRecDepth 20000 in
theorem ggL_law_X11_tellers : GoodIn wsL_law wsX11_tellers := goodIn_r _ [658, 225, 659, 660, 126, 661, 144, 145, 5, 146, 662, 663, 664, 665, 666, 667, 668, 669, 688, 689, 690, 691, 692, 693, 694, 695, 696, 697, 698, 699, 700, 701, 702, 703, 704, 705, 706, 707, 708] (by decide +kernel) (by decide +kernel)
set_option maxRecDepth 20000 in
theorem gL_law_X11_tellers : GoodIn wsL_law (wsV RL 109 RX11 yX11_tellers wsX11_tellers) := goodIn_app (goodIn_of _ (by decide +kernel)) ggL_law_X11_tellers
set_option maxRecDepth 20000 in
theorem ggL_law_X10_count : GoodIn wsL_law wsX10_count := goodIn_r _ [673, 26, 31, 32, 133, 134, 135, 25, 136, 107, 678, 679, 680, 681, 682, 683, 684, 685, 686, 687, 712, 713] (by decide +kernel) (by decide +kernel)
set_option maxRecDepth 20000 in
theorem gL_law_X10_count : GoodIn wsL_law (wsV RL 110 RX10 yX10_count wsX10_count) := goodIn_app (goodIn_of _ (by decide +kernel)) ggL_law_X10_count
set_option maxRecDepth 20000 in
theorem ggL_law_X11_count : GoodIn wsL_law wsX11_count := goodIn_r _ [677, 143, 479, 518, 688, 689, 690, 691, 692, 693, 694, 695, 696, 697, 698, 699, 700, 701, 702, 703, 704, 705, 706, 707, 708] (by decide +kernel) (by decide +kernel)
set_option maxRecDepth 20000 in
theorem gL_law_X11_count : GoodIn wsL_law (wsV RL 113 RX11 yX11_count wsX11_count) := goodIn_app (goodIn_of _ (by decide +kernel)) ggL_law_X11_count

theorem inlX0 : ∀ w ∈ wsX00, w ∈ wsL_law := fun _ h => List.mem_append_left _ (List.mem_append_left _ (List.mem_append_right _ h))
theorem inX0 : ∀ w ∈ wsX00, w ∈ lw_tbl := fun w h => wsL_law_in w (inlX0 w h)
theorem inlX1 : ∀ w ∈ wsX10, w ∈ wsL_law := fun _ h => List.mem_append_left _ (List.mem_append_right _ h)
theorem inX1 : ∀ w ∈ wsX10, w ∈ lw_tbl := fun w h => wsL_law_in w (inlX1 w h)
theorem inlX2 : ∀ w ∈ wsX20, w ∈ wsL_law := fun _ h => List.mem_append_left _ (List.mem_append_left _ (List.mem_append_left _ (List.mem_append_left _ (List.mem_append_right _ h))))
theorem inX2 : ∀ w ∈ wsX20, w ∈ lw_tbl := fun w h => wsL_law_in w (inlX2 w h)
theorem inlX3 : ∀ w ∈ wsX30, w ∈ wsL_law := fun _ h => List.mem_append_left _ (List.mem_append_left _ (List.mem_append_left _ (List.mem_append_right _ h)))
theorem inX3 : ∀ w ∈ wsX30, w ∈ lw_tbl := fun w h => wsL_law_in w (inlX3 w h)
theorem inlX4 : ∀ w ∈ wsX40, w ∈ wsL_law := fun _ h => List.mem_append_left _ (List.mem_append_left _ (List.mem_append_left _ (List.mem_append_left _ (List.mem_append_left _ (List.mem_append_right _ h)))))
theorem inX4 : ∀ w ∈ wsX40, w ∈ lw_tbl := fun w h => wsL_law_in w (inlX4 w h)
theorem inlX5 : ∀ w ∈ wsX50, w ∈ wsL_law := fun _ h => List.mem_append_left _ (List.mem_append_left _ (List.mem_append_left _ (List.mem_append_left _ (List.mem_append_left _ (List.mem_append_left _ (List.mem_append_left _ (List.mem_append_right _ h)))))))
theorem inX5 : ∀ w ∈ wsX50, w ∈ lw_tbl := fun w h => wsL_law_in w (inlX5 w h)
theorem inlX6 : ∀ w ∈ wsX60, w ∈ wsL_law := fun _ h => List.mem_append_left _ (List.mem_append_left _ (List.mem_append_left _ (List.mem_append_left _ (List.mem_append_left _ (List.mem_append_left _ (List.mem_append_right _ h))))))
theorem inX6 : ∀ w ∈ wsX60, w ∈ lw_tbl := fun w h => wsL_law_in w (inlX6 w h)
theorem inJ11 : ∀ w ∈ wsJ110, w ∈ lw_tbl := by decide +kernel
theorem inJ6 : ∀ w ∈ wsJ60, w ∈ lw_tbl := by decide +kernel
theorem inJ9 : ∀ w ∈ wsJ90, w ∈ lw_tbl := by decide +kernel
theorem inJ0 : ∀ w ∈ wsJ00, w ∈ lw_tbl := by decide +kernel
theorem inJ1 : ∀ w ∈ wsJ10, w ∈ lw_tbl := by decide +kernel
theorem inJ2 : ∀ w ∈ wsJ20, w ∈ lw_tbl := by decide +kernel
theorem inJ3 : ∀ w ∈ wsJ30, w ∈ lw_tbl := by decide +kernel
set_option maxRecDepth 20000 in
theorem ggL_law_X5_init : GoodIn wsL_law wsX5_init := goodIn_r _ [8, 9, 10, 11, 12, 13, 14, 15, 16, 17, 18, 19, 20, 21, 22, 23, 24, 25, 26, 27, 28, 29, 30, 31, 32, 33, 34, 35, 36, 37, 38, 39, 40, 41, 42, 43, 44, 45, 46, 47, 48, 49, 50, 51, 52, 53, 54, 55, 56, 57, 58, 59, 60, 61, 62, 63, 64, 65, 66, 67, 805, 806, 763, 764, 765, 766, 767, 768, 769, 770, 771, 807, 808, 809, 810, 811, 812, 813, 814, 815, 816, 817, 818, 819, 820] (by decide +kernel) (by decide +kernel)
set_option maxRecDepth 20000 in
theorem gL_law_X5_init : GoodIn wsL_law (wsX5_init) := ggL_law_X5_init
set_option maxRecDepth 20000 in
theorem ggL_law_X6_init : GoodIn wsL_law wsX6_init := goodIn_r _ [70, 71, 10, 11, 37, 72, 73, 74, 75, 76, 77, 78, 79, 80, 81, 82, 83, 84, 772, 773, 774, 775, 776, 777, 778, 779, 780, 781, 782, 783, 784, 785, 786, 787, 788, 789, 790, 791, 792, 793, 794, 795, 796, 797, 798, 799, 800, 801, 802, 803, 804] (by decide +kernel) (by decide +kernel)
set_option maxRecDepth 20000 in
theorem gL_law_X6_init : GoodIn wsL_law (wsX6_init) := ggL_law_X6_init
set_option maxRecDepth 20000 in
theorem ggL_law_X5_letter : GoodIn wsL_law wsX5_letter := goodIn_r _ [88, 15, 89, 90, 2, 91, 92, 93, 94, 14, 95, 39, 38, 763, 764, 765, 766, 767, 768, 769, 770, 771, 805, 806] (by decide +kernel) (by decide +kernel)
set_option maxRecDepth 20000 in
theorem gL_law_X5_letter : GoodIn wsL_law (wsV RL 13 RX5 yX5_letter wsX5_letter) := goodIn_app (goodIn_of _ (by decide +kernel)) ggL_law_X5_letter
set_option maxRecDepth 20000 in
theorem ggL_law_X6_letter : GoodIn wsL_law wsX6_letter := goodIn_r _ [99, 100, 101, 72, 102, 103, 5, 104, 772, 773, 774, 775, 776, 777, 778, 779, 780, 781, 782, 783, 784, 785, 786, 787, 788, 789, 790, 791, 792, 793, 794, 795, 796, 797, 798, 799, 800, 801, 802, 803, 804] (by decide +kernel) (by decide +kernel)
set_option maxRecDepth 20000 in
theorem gL_law_X6_letter : GoodIn wsL_law (wsV RL 17 RX6 yX6_letter wsX6_letter) := goodIn_app (goodIn_of _ (by decide +kernel)) ggL_law_X6_letter
set_option maxRecDepth 20000 in
theorem ggL_law_X5_blank : GoodIn wsL_law wsX5_blank := goodIn_r _ [108, 15, 109, 110, 111, 14, 112, 39, 763, 764, 765, 766, 767, 768, 769, 770, 771, 805, 806] (by decide +kernel) (by decide +kernel)
set_option maxRecDepth 20000 in
theorem gL_law_X5_blank : GoodIn wsL_law (wsV RL 18 RX5 yX5_blank wsX5_blank) := goodIn_app (goodIn_of _ (by decide +kernel)) ggL_law_X5_blank
set_option maxRecDepth 20000 in
theorem ggL_law_X6_blank : GoodIn wsL_law wsX6_blank := goodIn_r _ [116, 101, 772, 773, 774, 775, 776, 777, 778, 779, 780, 781, 782, 783, 784, 785, 786, 787, 788, 789, 790, 791, 792, 793, 794, 795, 796, 797, 798, 799, 800, 801, 802, 803, 804] (by decide +kernel) (by decide +kernel)
set_option maxRecDepth 20000 in
theorem gL_law_X6_blank : GoodIn wsL_law (wsV RL 22 RX6 yX6_blank wsX6_blank) := goodIn_app (goodIn_of _ (by decide +kernel)) ggL_law_X6_blank
set_option maxRecDepth 20000 in
theorem ggL_law_X5_fault : GoodIn wsL_law wsX5_fault := goodIn_r _ [120, 15, 121, 122, 123, 14, 124, 39, 125, 126, 127, 128, 129, 130, 131, 132, 38, 90, 2, 91, 133, 134, 135, 136, 137, 138, 139, 140, 141, 142, 143, 144, 145, 146, 147, 148, 149, 150, 151, 152, 153, 154, 155, 156, 157, 158, 159, 160, 161, 162, 163, 164, 165, 166, 167, 168, 169, 170, 171, 172, 173, 174, 175, 176, 177, 178, 179, 180, 181, 182, 183, 184, 185, 186, 187, 188, 189, 190, 191, 192, 193, 194, 195, 196, 197, 198, 199, 200, 201, 202, 203, 204, 205, 206, 207, 208, 209, 210, 211, 212, 213, 214, 215, 216, 217, 218, 219, 220, 221, 222, 223, 224, 225, 226, 227, 763, 764, 765, 766, 767, 768, 769, 770, 771, 805, 806] (by decide +kernel) (by decide +kernel)
set_option maxRecDepth 20000 in
theorem gL_law_X5_fault : GoodIn wsL_law (wsV RL 23 RX5 yX5_fault wsX5_fault) := goodIn_app (goodIn_of _ (by decide +kernel)) ggL_law_X5_fault
set_option maxRecDepth 20000 in
theorem ggL_law_X6_fault : GoodIn wsL_law wsX6_fault := goodIn_r _ [231, 232, 233, 234, 5, 235, 236, 237, 101, 72, 238, 239, 240, 241, 73, 242, 243, 244, 245, 246, 247, 102, 103, 104, 772, 773, 774, 775, 776, 777, 778, 779, 780, 781, 782, 783, 784, 785, 786, 787, 788, 789, 790, 791, 792, 793, 794, 795, 796, 797, 798, 799, 800, 801, 802, 803, 804] (by decide +kernel) (by decide +kernel)
set_option maxRecDepth 20000 in
theorem gL_law_X6_fault : GoodIn wsL_law (wsV RL 26 RX6 yX6_fault wsX6_fault) := goodIn_app (goodIn_of _ (by decide +kernel)) ggL_law_X6_fault
set_option maxRecDepth 20000 in
theorem ggL_law_X5_hall : GoodIn wsL_law wsX5_hall := goodIn_r _ [251, 15, 19, 23, 29, 30, 252, 253, 254, 14, 255, 39, 256, 122, 123, 124, 125, 126, 127, 128, 129, 130, 131, 132, 38, 90, 2, 91, 133, 134, 135, 136, 137, 138, 139, 140, 141, 142, 143, 144, 145, 146, 147, 148, 149, 150, 151, 152, 153, 154, 155, 156, 157, 158, 159, 160, 161, 162, 163, 164, 165, 166, 167, 168, 169, 170, 171, 172, 173, 174, 175, 176, 177, 178, 179, 180, 181, 182, 183, 184, 185, 186, 187, 188, 189, 190, 191, 192, 193, 194, 195, 196, 197, 198, 199, 200, 201, 202, 203, 204, 205, 206, 207, 208, 209, 210, 211, 212, 213, 214, 215, 216, 217, 218, 219, 220, 221, 222, 223, 224, 225, 226, 227, 257, 258, 259, 18, 260, 261, 47, 44, 45, 46, 48, 262, 263, 109, 110, 111, 112, 264, 265, 266, 22, 267, 54, 56, 57, 58, 268, 269, 270, 27, 271, 63, 64, 66, 763, 764, 765, 766, 767, 768, 769, 770, 771, 807, 808, 809, 810, 811, 805, 806, 812, 813, 814, 815, 816, 817, 818, 819, 820] (by decide +kernel) (by decide +kernel)
set_option maxRecDepth 20000 in
theorem gL_law_X5_hall : GoodIn wsL_law (wsV RL 27 RX5 yX5_hall wsX5_hall) := goodIn_app (goodIn_of _ (by decide +kernel)) ggL_law_X5_hall
set_option maxRecDepth 20000 in
theorem ggL_law_X6_hall : GoodIn wsL_law wsX6_hall := goodIn_r _ [275, 101, 237, 74, 73, 75, 76, 236, 276, 243, 277, 278, 279, 280, 281, 282, 232, 233, 234, 5, 235, 72, 238, 239, 240, 241, 242, 244, 245, 246, 247, 102, 103, 104, 772, 773, 774, 775, 776, 777, 778, 779, 780, 781, 782, 783, 784, 785, 786, 787, 788, 789, 790, 791, 792, 793, 794, 795, 796, 797, 798, 799, 800, 801, 802, 803, 804] (by decide +kernel) (by decide +kernel)
set_option maxRecDepth 20000 in
theorem gL_law_X6_hall : GoodIn wsL_law (wsV RL 30 RX6 yX6_hall wsX6_hall) := goodIn_app (goodIn_of _ (by decide +kernel)) ggL_law_X6_hall
set_option maxRecDepth 20000 in
theorem ggL_law_X5_about : GoodIn wsL_law wsX5_about := goodIn_r _ [286, 19, 287, 288, 289, 18, 290, 47, 89, 90, 2, 91, 291, 292, 293, 294, 23, 295, 296, 297, 298, 44, 299, 300, 301, 302, 45, 303, 304, 305, 306, 46, 307, 308, 309, 310, 48, 311, 312, 313, 27, 314, 63, 315, 316, 317, 318, 319, 320, 321, 322, 323, 324, 325, 64, 326, 327, 328, 329, 330, 331, 332, 333, 334, 335, 336, 337, 338, 66, 763, 764, 765, 766, 767, 768, 769, 770, 771, 807, 808, 809, 810, 811, 812, 813, 814, 815, 816, 817, 818, 819, 820] (by decide +kernel) (by decide +kernel)
set_option maxRecDepth 20000 in
theorem gL_law_X5_about : GoodIn wsL_law (wsV RL 31 RX5 yX5_about wsX5_about) := goodIn_app (goodIn_of _ (by decide +kernel)) ggL_law_X5_about
set_option maxRecDepth 20000 in
theorem ggL_law_X6_about : GoodIn wsL_law wsX6_about := goodIn_r _ [342, 343, 344, 345, 5, 346, 276, 102, 103, 104, 347, 348, 349, 350, 74, 75, 76, 278, 351, 352, 353, 354, 277, 355, 356, 357, 358, 359, 360, 361, 362, 772, 773, 774, 775, 776, 777, 778, 779, 780, 781, 782, 783, 784, 785, 786, 787, 788, 789, 790, 791, 792, 793, 794, 795, 796, 797, 798, 799, 800, 801, 802, 803, 804] (by decide +kernel) (by decide +kernel)
set_option maxRecDepth 20000 in
theorem gL_law_X6_about : GoodIn wsL_law (wsV RL 35 RX6 yX6_about wsX6_about) := goodIn_app (goodIn_of _ (by decide +kernel)) ggL_law_X6_about
set_option maxRecDepth 20000 in
theorem ggL_law_X5_as : GoodIn wsL_law wsX5_as := goodIn_r _ [366, 19, 287, 288, 289, 18, 290, 47, 89, 90, 2, 91, 367, 368, 369, 370, 371, 296, 297, 298, 44, 763, 764, 765, 766, 767, 768, 769, 770, 771, 807, 808, 809, 810, 811] (by decide +kernel) (by decide +kernel)
set_option maxRecDepth 20000 in
theorem gL_law_X5_as : GoodIn wsL_law (wsV RL 36 RX5 yX5_as wsX5_as) := goodIn_app (goodIn_of _ (by decide +kernel)) ggL_law_X5_as
set_option maxRecDepth 20000 in
theorem ggL_law_X6_as : GoodIn wsL_law wsX6_as := goodIn_r _ [375, 376, 74, 343, 344, 345, 5, 346, 276, 102, 103, 104, 772, 773, 774, 775, 776, 777, 778, 779, 780, 781, 782, 783, 784, 785, 786, 787, 788, 789, 790, 791, 792, 793, 794, 795, 796, 797, 798, 799, 800, 801, 802, 803, 804] (by decide +kernel) (by decide +kernel)
set_option maxRecDepth 20000 in
theorem gL_law_X6_as : GoodIn wsL_law (wsV RL 39 RX6 yX6_as wsX6_as) := goodIn_app (goodIn_of _ (by decide +kernel)) ggL_law_X6_as
set_option maxRecDepth 20000 in
theorem ggL_law_X5_clap : GoodIn wsL_law wsX5_clap := goodIn_r _ [380, 19, 23, 287, 288, 289, 18, 290, 47, 89, 90, 2, 91, 311, 312, 313, 27, 314, 63, 315, 316, 317, 318, 307, 308, 309, 310, 48, 319, 320, 321, 381, 382, 383, 384, 64, 763, 764, 765, 766, 767, 768, 769, 770, 771, 812, 813, 814, 815, 816, 807, 808, 809, 810, 811, 817, 818, 819, 820] (by decide +kernel) (by decide +kernel)
set_option maxRecDepth 20000 in
theorem gL_law_X5_clap : GoodIn wsL_law (wsV RL 40 RX5 yX5_clap wsX5_clap) := goodIn_app (goodIn_of _ (by decide +kernel)) ggL_law_X5_clap
set_option maxRecDepth 20000 in
theorem ggL_law_X6_clap : GoodIn wsL_law wsX6_clap := goodIn_r _ [388, 244, 75, 343, 344, 345, 5, 346, 276, 102, 103, 104, 355, 356, 357, 358, 351, 352, 353, 354, 277, 389, 390, 391, 392, 77, 78, 76, 278, 393, 394, 395, 396, 397, 398, 399, 400, 401, 772, 773, 774, 775, 776, 777, 778, 779, 780, 781, 782, 783, 784, 785, 786, 787, 788, 789, 790, 791, 792, 793, 794, 795, 796, 797, 798, 799, 800, 801, 802, 803, 804] (by decide +kernel) (by decide +kernel)
set_option maxRecDepth 20000 in
theorem gL_law_X6_clap : GoodIn wsL_law (wsV RL 43 RX6 yX6_clap wsX6_clap) := goodIn_app (goodIn_of _ (by decide +kernel)) ggL_law_X6_clap
set_option maxRecDepth 20000 in
theorem ggL_law_X5_arm : GoodIn wsL_law wsX5_arm := goodIn_r _ [405, 19, 23, 89, 90, 2, 91, 406, 407, 408, 18, 409, 47, 763, 764, 765, 766, 767, 768, 769, 770, 771, 812, 813, 814, 815, 816, 817, 818, 819, 820, 807, 808, 809, 810, 811] (by decide +kernel) (by decide +kernel)
set_option maxRecDepth 20000 in
theorem gL_law_X5_arm : GoodIn wsL_law (wsV RL 44 RX5 yX5_arm wsX5_arm) := goodIn_app (goodIn_of _ (by decide +kernel)) ggL_law_X5_arm
set_option maxRecDepth 20000 in
theorem ggL_law_X6_arm : GoodIn wsL_law wsX6_arm := goodIn_r _ [413, 414, 278, 102, 103, 5, 104, 415, 416, 417, 418, 276, 772, 773, 774, 775, 776, 777, 778, 779, 780, 781, 782, 783, 784, 785, 786, 787, 788, 789, 790, 791, 792, 793, 794, 795, 796, 797, 798, 799, 800, 801, 802, 803, 804] (by decide +kernel) (by decide +kernel)
set_option maxRecDepth 20000 in
theorem gL_law_X6_arm : GoodIn wsL_law (wsV RL 47 RX6 yX6_arm wsX6_arm) := goodIn_app (goodIn_of _ (by decide +kernel)) ggL_law_X6_arm
set_option maxRecDepth 20000 in
theorem ggL_law_X5_bar : GoodIn wsL_law wsX5_bar := goodIn_r _ [422, 19, 23, 406, 407, 408, 18, 409, 47, 423, 424, 425, 27, 426, 65, 63, 64, 427, 428, 429, 430, 431, 327, 328, 329, 330, 304, 305, 306, 46, 331, 323, 324, 325, 432, 312, 313, 314, 433, 368, 369, 370, 371, 296, 297, 298, 44, 434, 435, 336, 337, 338, 66, 436, 437, 438, 439, 440, 441, 442, 443, 444, 382, 383, 384, 333, 2, 334, 445, 446, 447, 448, 449, 300, 301, 302, 45, 763, 764, 765, 766, 767, 768, 769, 770, 771, 812, 813, 814, 815, 816, 807, 808, 809, 810, 811, 817, 818, 819, 820] (by decide +kernel) (by decide +kernel)
set_option maxRecDepth 20000 in
theorem gL_law_X5_bar : GoodIn wsL_law (wsV RL 48 RX5 yX5_bar wsX5_bar) := goodIn_app (goodIn_of _ (by decide +kernel)) ggL_law_X5_bar
set_option maxRecDepth 20000 in
theorem ggL_law_X6_bar : GoodIn wsL_law wsX6_bar := goodIn_r _ [453, 279, 415, 416, 417, 5, 418, 276, 389, 390, 391, 392, 77, 75, 78, 76, 278, 393, 454, 455, 456, 457, 79, 458, 459, 460, 461, 74, 359, 360, 361, 362, 462, 463, 464, 465, 466, 467, 468, 469, 343, 344, 345, 346, 102, 103, 104, 398, 399, 400, 401, 470, 471, 472, 473, 772, 773, 774, 775, 776, 777, 778, 779, 780, 781, 782, 783, 784, 785, 786, 787, 788, 789, 790, 791, 792, 793, 794, 795, 796, 797, 798, 799, 800, 801, 802, 803, 804] (by decide +kernel) (by decide +kernel)
set_option maxRecDepth 20000 in
theorem gL_law_X6_bar : GoodIn wsL_law (wsV RL 51 RX6 yX6_bar wsX6_bar) := goodIn_app (goodIn_of _ (by decide +kernel)) ggL_law_X6_bar
set_option maxRecDepth 20000 in
theorem ggL_law_X5_skip : GoodIn wsL_law wsX5_skip := goodIn_r _ [477, 19, 23, 406, 407, 408, 18, 409, 47, 478, 479, 480, 27, 481, 63, 434, 296, 297, 298, 44, 320, 2, 321, 445, 446, 447, 448, 449, 300, 301, 302, 45, 763, 764, 765, 766, 767, 768, 769, 770, 771, 812, 813, 814, 815, 816, 807, 808, 809, 810, 811, 817, 818, 819, 820] (by decide +kernel) (by decide +kernel)
set_option maxRecDepth 20000 in
theorem gL_law_X5_skip : GoodIn wsL_law (wsV RL 52 RX5 yX5_skip wsX5_skip) := goodIn_app (goodIn_of _ (by decide +kernel)) ggL_law_X5_skip
set_option maxRecDepth 20000 in
theorem ggL_law_X6_skip : GoodIn wsL_law wsX6_skip := goodIn_r _ [485, 280, 415, 416, 417, 5, 418, 276, 389, 390, 391, 392, 77, 75, 78, 76, 278, 393, 486, 487, 488, 489, 74, 398, 399, 400, 401, 470, 471, 472, 473, 772, 773, 774, 775, 776, 777, 778, 779, 780, 781, 782, 783, 784, 785, 786, 787, 788, 789, 790, 791, 792, 793, 794, 795, 796, 797, 798, 799, 800, 801, 802, 803, 804] (by decide +kernel) (by decide +kernel)
set_option maxRecDepth 20000 in
theorem gL_law_X6_skip : GoodIn wsL_law (wsV RL 55 RX6 yX6_skip wsX6_skip) := goodIn_app (goodIn_of _ (by decide +kernel)) ggL_law_X6_skip
set_option maxRecDepth 20000 in
theorem ggL_law_X5_loud : GoodIn wsL_law wsX5_loud := goodIn_r _ [493, 19, 23, 287, 288, 289, 18, 290, 47, 89, 90, 2, 91, 494, 495, 496, 27, 497, 440, 441, 442, 443, 63, 763, 764, 765, 766, 767, 768, 769, 770, 771, 812, 813, 814, 815, 816, 807, 808, 809, 810, 811, 817, 818, 819, 820] (by decide +kernel) (by decide +kernel)
set_option maxRecDepth 20000 in
theorem gL_law_X5_loud : GoodIn wsL_law (wsV RL 56 RX5 yX5_loud wsX5_loud) := goodIn_app (goodIn_of _ (by decide +kernel)) ggL_law_X5_loud
set_option maxRecDepth 20000 in
theorem ggL_law_X6_loud : GoodIn wsL_law wsX6_loud := goodIn_r _ [501, 244, 343, 344, 345, 5, 346, 276, 102, 103, 104, 502, 503, 504, 505, 75, 74, 772, 773, 774, 775, 776, 777, 778, 779, 780, 781, 782, 783, 784, 785, 786, 787, 788, 789, 790, 791, 792, 793, 794, 795, 796, 797, 798, 799, 800, 801, 802, 803, 804] (by decide +kernel) (by decide +kernel)
set_option maxRecDepth 20000 in
theorem gL_law_X6_loud : GoodIn wsL_law (wsV RL 59 RX6 yX6_loud wsX6_loud) := goodIn_app (goodIn_of _ (by decide +kernel)) ggL_law_X6_loud
set_option maxRecDepth 20000 in
theorem ggL_law_X5_rest : GoodIn wsL_law wsX5_rest := goodIn_r _ [509, 19, 406, 407, 408, 18, 409, 47, 510, 511, 512, 2, 513, 28, 23, 514, 515, 516, 27, 517, 63, 64, 66, 423, 424, 425, 426, 65, 427, 428, 429, 430, 431, 327, 328, 329, 330, 304, 305, 306, 46, 331, 323, 324, 325, 432, 312, 313, 314, 433, 368, 369, 370, 371, 296, 297, 298, 44, 434, 435, 336, 337, 338, 436, 437, 438, 439, 440, 441, 442, 443, 444, 382, 383, 384, 333, 334, 763, 764, 765, 766, 767, 768, 769, 770, 771, 807, 808, 809, 810, 811, 812, 813, 814, 815, 816, 817, 818, 819, 820] (by decide +kernel) (by decide +kernel)
set_option maxRecDepth 20000 in
theorem gL_law_X5_rest : GoodIn wsL_law (wsV RL 60 RX5 yX5_rest wsX5_rest) := goodIn_app (goodIn_of _ (by decide +kernel)) ggL_law_X5_rest
set_option maxRecDepth 20000 in
theorem ggL_law_X6_rest : GoodIn wsL_law wsX6_rest := goodIn_r _ [521, 415, 416, 417, 5, 418, 276, 522, 523, 524, 525, 77, 79, 389, 390, 391, 392, 75, 78, 76, 278, 393, 454, 455, 456, 457, 458, 459, 460, 461, 74, 359, 360, 361, 362, 462, 463, 464, 465, 466, 467, 468, 469, 343, 344, 345, 346, 102, 103, 104, 772, 773, 774, 775, 776, 777, 778, 779, 780, 781, 782, 783, 784, 785, 786, 787, 788, 789, 790, 791, 792, 793, 794, 795, 796, 797, 798, 799, 800, 801, 802, 803, 804] (by decide +kernel) (by decide +kernel)
set_option maxRecDepth 20000 in
theorem gL_law_X6_rest : GoodIn wsL_law (wsV RL 63 RX6 yX6_rest wsX6_rest) := goodIn_app (goodIn_of _ (by decide +kernel)) ggL_law_X6_rest
set_option maxRecDepth 20000 in
theorem ggL_law_X5_outcome : GoodIn wsL_law wsX5_outcome := goodIn_r _ [529, 19, 89, 90, 2, 91, 406, 407, 408, 18, 409, 47, 530, 531, 532, 533, 28, 23, 514, 515, 516, 27, 517, 63, 64, 66, 478, 479, 480, 481, 434, 296, 297, 298, 44, 320, 321, 423, 424, 425, 426, 65, 427, 428, 429, 430, 431, 327, 328, 329, 330, 304, 305, 306, 46, 331, 323, 324, 325, 432, 312, 313, 314, 433, 368, 369, 370, 371, 435, 336, 337, 338, 436, 437, 438, 439, 440, 441, 442, 443, 444, 382, 383, 384, 333, 334, 445, 446, 447, 448, 449, 300, 301, 302, 45, 763, 764, 765, 766, 767, 768, 769, 770, 771, 807, 808, 809, 810, 811, 812, 813, 814, 815, 816, 817, 818, 819, 820] (by decide +kernel) (by decide +kernel)
set_option maxRecDepth 20000 in
theorem gL_law_X5_outcome : GoodIn wsL_law (wsV RL 64 RX5 yX5_outcome wsX5_outcome) := goodIn_app (goodIn_of _ (by decide +kernel)) ggL_law_X5_outcome
set_option maxRecDepth 20000 in
theorem ggL_law_X6_outcome : GoodIn wsL_law wsX6_outcome := goodIn_r _ [537, 538, 102, 103, 5, 104, 415, 416, 417, 418, 276, 539, 540, 541, 542, 389, 390, 391, 392, 77, 75, 78, 76, 278, 393, 543, 544, 545, 546, 454, 455, 456, 457, 79, 458, 459, 460, 461, 74, 359, 360, 361, 362, 462, 463, 464, 465, 466, 467, 468, 469, 343, 344, 345, 346, 470, 471, 472, 473, 772, 773, 774, 775, 776, 777, 778, 779, 780, 781, 782, 783, 784, 785, 786, 787, 788, 789, 790, 791, 792, 793, 794, 795, 796, 797, 798, 799, 800, 801, 802, 803, 804] (by decide +kernel) (by decide +kernel)
set_option maxRecDepth 20000 in
theorem gL_law_X6_outcome : GoodIn wsL_law (wsV RL 67 RX6 yX6_outcome wsX6_outcome) := goodIn_app (goodIn_of _ (by decide +kernel)) ggL_law_X6_outcome
set_option maxRecDepth 20000 in
theorem ggL_law_X5_trick : GoodIn wsL_law wsX5_trick := goodIn_r _ [550, 19, 89, 90, 2, 91, 406, 407, 408, 18, 409, 47, 551, 552, 553, 554, 530, 531, 532, 533, 28, 23, 514, 515, 516, 27, 517, 63, 64, 66, 478, 479, 480, 481, 434, 296, 297, 298, 44, 320, 321, 423, 424, 425, 426, 65, 427, 428, 429, 430, 431, 327, 328, 329, 330, 304, 305, 306, 46, 331, 323, 324, 325, 432, 312, 313, 314, 433, 368, 369, 370, 371, 435, 336, 337, 338, 436, 437, 438, 439, 440, 441, 442, 443, 444, 382, 383, 384, 333, 334, 445, 446, 447, 448, 449, 300, 301, 302, 45, 763, 764, 765, 766, 767, 768, 769, 770, 771, 807, 808, 809, 810, 811, 812, 813, 814, 815, 816, 817, 818, 819, 820] (by decide +kernel) (by decide +kernel)
set_option maxRecDepth 20000 in
theorem gL_law_X5_trick : GoodIn wsL_law (wsV RL 68 RX5 yX5_trick wsX5_trick) := goodIn_app (goodIn_of _ (by decide +kernel)) ggL_law_X5_trick
set_option maxRecDepth 20000 in
theorem ggL_law_X6_trick : GoodIn wsL_law wsX6_trick := goodIn_r _ [558, 559, 102, 103, 5, 104, 415, 416, 417, 418, 276, 560, 561, 562, 563, 539, 540, 541, 542, 389, 390, 391, 392, 77, 75, 78, 76, 278, 393, 543, 544, 545, 546, 454, 455, 456, 457, 79, 458, 459, 460, 461, 74, 359, 360, 361, 362, 462, 463, 464, 465, 466, 467, 468, 469, 343, 344, 345, 346, 470, 471, 472, 473, 486, 487, 488, 489, 772, 773, 774, 775, 776, 777, 778, 779, 780, 781, 782, 783, 784, 785, 786, 787, 788, 789, 790, 791, 792, 793, 794, 795, 796, 797, 798, 799, 800, 801, 802, 803, 804] (by decide +kernel) (by decide +kernel)
set_option maxRecDepth 20000 in
theorem gL_law_X6_trick : GoodIn wsL_law (wsV RL 71 RX6 yX6_trick wsX6_trick) := goodIn_app (goodIn_of _ (by decide +kernel)) ggL_law_X6_trick
set_option maxRecDepth 20000 in
theorem ggL_law_X5_turned : GoodIn wsL_law wsX5_turned := goodIn_r _ [567, 19, 31, 89, 90, 2, 91, 406, 407, 408, 18, 409, 47, 568, 569, 570, 571, 572, 573, 574, 575, 576, 577, 578, 579, 580, 581, 582, 28, 23, 514, 515, 516, 27, 517, 63, 64, 66, 381, 382, 383, 384, 423, 424, 425, 426, 65, 427, 428, 429, 430, 431, 327, 328, 329, 330, 304, 305, 306, 46, 331, 323, 324, 325, 432, 312, 313, 314, 433, 368, 369, 370, 371, 296, 297, 298, 44, 434, 435, 336, 337, 338, 436, 437, 438, 439, 440, 441, 442, 443, 444, 333, 334, 583, 584, 585, 586, 763, 764, 765, 766, 767, 768, 769, 770, 771, 807, 808, 809, 810, 811, 812, 813, 814, 815, 816, 817, 818, 819, 820] (by decide +kernel) (by decide +kernel)
set_option maxRecDepth 20000 in
theorem gL_law_X5_turned : GoodIn wsL_law (wsV RL 72 RX5 yX5_turned wsX5_turned) := goodIn_app (goodIn_of _ (by decide +kernel)) ggL_law_X5_turned
set_option maxRecDepth 20000 in
theorem ggL_law_X6_turned : GoodIn wsL_law wsX6_turned := goodIn_r _ [590, 559, 591, 276, 102, 103, 5, 104, 415, 416, 417, 418, 592, 593, 594, 595, 596, 597, 598, 77, 389, 390, 391, 392, 75, 78, 76, 278, 393, 394, 395, 396, 397, 543, 544, 545, 546, 454, 455, 456, 457, 79, 458, 459, 460, 461, 74, 359, 360, 361, 362, 462, 463, 464, 465, 466, 467, 468, 469, 343, 344, 345, 346, 772, 773, 774, 775, 776, 777, 778, 779, 780, 781, 782, 783, 784, 785, 786, 787, 788, 789, 790, 791, 792, 793, 794, 795, 796, 797, 798, 799, 800, 801, 802, 803, 804] (by decide +kernel) (by decide +kernel)
set_option maxRecDepth 20000 in
theorem gL_law_X6_turned : GoodIn wsL_law (wsV RL 75 RX6 yX6_turned wsX6_turned) := goodIn_app (goodIn_of _ (by decide +kernel)) ggL_law_X6_turned
set_option maxRecDepth 20000 in
theorem ggL_law_X5_record : GoodIn wsL_law wsX5_record := goodIn_r _ [602, 23, 89, 90, 2, 91, 603, 604, 605, 22, 606, 56, 55, 763, 764, 765, 766, 767, 768, 769, 770, 771, 812, 813, 814, 815, 816] (by decide +kernel) (by decide +kernel)
set_option maxRecDepth 20000 in
theorem gL_law_X5_record : GoodIn wsL_law (wsV RL 76 RX5 yX5_record wsX5_record) := goodIn_app (goodIn_of _ (by decide +kernel)) ggL_law_X5_record
set_option maxRecDepth 20000 in
theorem ggL_law_X6_record : GoodIn wsL_law wsX6_record := goodIn_r _ [610, 611, 281, 80, 102, 103, 5, 104, 772, 773, 774, 775, 776, 777, 778, 779, 780, 781, 782, 783, 784, 785, 786, 787, 788, 789, 790, 791, 792, 793, 794, 795, 796, 797, 798, 799, 800, 801, 802, 803, 804] (by decide +kernel) (by decide +kernel)
set_option maxRecDepth 20000 in
theorem gL_law_X6_record : GoodIn wsL_law (wsV RL 79 RX6 yX6_record wsX6_record) := goodIn_app (goodIn_of _ (by decide +kernel)) ggL_law_X6_record
set_option maxRecDepth 20000 in
theorem ggL_law_X5_forget : GoodIn wsL_law wsX5_forget := goodIn_r _ [615, 23, 763, 764, 765, 766, 767, 768, 769, 770, 771, 812, 813, 814, 815, 816] (by decide +kernel) (by decide +kernel)
set_option maxRecDepth 20000 in
theorem gL_law_X5_forget : GoodIn wsL_law (wsV RL 80 RX5 yX5_forget wsX5_forget) := goodIn_app (goodIn_of _ (by decide +kernel)) ggL_law_X5_forget
set_option maxRecDepth 20000 in
theorem ggL_law_X6_forget : GoodIn wsL_law wsX6_forget := goodIn_r _ [619, 281, 772, 773, 774, 775, 776, 777, 778, 779, 780, 781, 782, 783, 784, 785, 786, 787, 788, 789, 790, 791, 792, 793, 794, 795, 796, 797, 798, 799, 800, 801, 802, 803, 804] (by decide +kernel) (by decide +kernel)
set_option maxRecDepth 20000 in
theorem gL_law_X6_forget : GoodIn wsL_law (wsV RL 83 RX6 yX6_forget wsX6_forget) := goodIn_app (goodIn_of _ (by decide +kernel)) ggL_law_X6_forget
set_option maxRecDepth 20000 in
theorem ggL_law_X5_began : GoodIn wsL_law wsX5_began := goodIn_r _ [623, 19, 32, 89, 90, 2, 91, 406, 407, 408, 18, 409, 47, 624, 625, 626, 627, 628, 629, 630, 631, 28, 23, 287, 288, 289, 290, 632, 269, 270, 27, 271, 63, 64, 66, 381, 382, 383, 384, 423, 424, 425, 426, 65, 427, 428, 429, 430, 431, 327, 328, 329, 330, 304, 305, 306, 46, 331, 323, 324, 325, 432, 312, 313, 314, 433, 368, 369, 370, 371, 296, 297, 298, 44, 434, 435, 336, 337, 338, 436, 437, 438, 439, 440, 441, 442, 443, 444, 333, 334, 445, 446, 447, 448, 449, 300, 301, 302, 45, 633, 634, 635, 22, 636, 55, 332, 637, 638, 639, 640, 763, 764, 765, 766, 767, 768, 769, 770, 771, 807, 808, 809, 810, 811, 812, 813, 814, 815, 816, 817, 818, 819, 820] (by decide +kernel) (by decide +kernel)
set_option maxRecDepth 20000 in
theorem gL_law_X5_began : GoodIn wsL_law (wsV RL 84 RX5 yX5_began wsX5_began) := goodIn_app (goodIn_of _ (by decide +kernel)) ggL_law_X5_began
set_option maxRecDepth 20000 in
theorem ggL_law_X6_began : GoodIn wsL_law wsX6_began := goodIn_r _ [644, 645, 276, 102, 103, 5, 104, 415, 416, 417, 418, 646, 647, 648, 649, 77, 78, 278, 393, 281, 80, 454, 455, 456, 457, 79, 458, 459, 460, 461, 74, 359, 360, 361, 362, 462, 463, 464, 465, 466, 467, 468, 469, 343, 344, 345, 346, 470, 471, 472, 473, 772, 773, 774, 775, 776, 777, 778, 779, 780, 781, 782, 783, 784, 785, 786, 787, 788, 789, 790, 791, 792, 793, 794, 795, 796, 797, 798, 799, 800, 801, 802, 803, 804] (by decide +kernel) (by decide +kernel)
set_option maxRecDepth 20000 in
theorem gL_law_X6_began : GoodIn wsL_law (wsV RL 87 RX6 yX6_began wsX6_began) := goodIn_app (goodIn_of _ (by decide +kernel)) ggL_law_X6_began
set_option maxRecDepth 20000 in
theorem ggL_law_X5_nights : GoodIn wsL_law wsX5_nights := goodIn_r _ [653, 19, 89, 90, 2, 91, 406, 407, 408, 18, 409, 47, 654, 655, 656, 657, 658, 659, 660, 28, 23, 661, 662, 663, 664, 10, 11, 665, 514, 515, 516, 27, 517, 63, 64, 66, 666, 667, 668, 669, 670, 671, 672, 673, 674, 675, 676, 677, 478, 479, 480, 481, 434, 296, 297, 298, 44, 320, 321, 381, 382, 383, 384, 423, 424, 425, 426, 65, 427, 428, 429, 430, 431, 327, 328, 329, 330, 304, 305, 306, 46, 331, 323, 324, 325, 432, 312, 313, 314, 433, 368, 369, 370, 371, 435, 336, 337, 338, 436, 437, 438, 439, 440, 441, 442, 443, 444, 333, 334, 445, 446, 447, 448, 449, 300, 301, 302, 45, 678, 679, 680, 681, 332, 763, 764, 765, 766, 767, 768, 769, 770, 771, 807, 808, 809, 810, 811, 821, 812, 813, 814, 815, 816, 817, 818, 819, 820] (by decide +kernel) (by decide +kernel)
set_option maxRecDepth 20000 in
theorem gL_law_X5_nights : GoodIn wsL_law (wsV RL 88 RX5 yX5_nights wsX5_nights) := goodIn_app (goodIn_of _ (by decide +kernel)) ggL_law_X5_nights
set_option maxRecDepth 20000 in
theorem ggL_law_X6_nights : GoodIn wsL_law wsX6_nights := goodIn_r _ [685, 686, 687, 688, 276, 393, 102, 103, 5, 104, 415, 416, 417, 418, 389, 390, 391, 392, 77, 75, 78, 76, 278, 689, 690, 691, 692, 693, 694, 695, 696, 486, 487, 488, 489, 74, 394, 395, 396, 397, 454, 455, 456, 457, 79, 458, 459, 460, 461, 359, 360, 361, 362, 462, 463, 464, 465, 466, 467, 468, 469, 343, 344, 345, 346, 470, 471, 472, 473, 697, 698, 699, 700, 772, 773, 774, 775, 776, 777, 778, 779, 780, 781, 782, 783, 784, 785, 786, 787, 788, 789, 790, 791, 792, 793, 794, 795, 796, 797, 798, 799, 800, 801, 802, 803, 804] (by decide +kernel) (by decide +kernel)
set_option maxRecDepth 20000 in
theorem gL_law_X6_nights : GoodIn wsL_law (wsV RL 92 RX6 yX6_nights wsX6_nights) := goodIn_app (goodIn_of _ (by decide +kernel)) ggL_law_X6_nights
set_option maxRecDepth 20000 in
theorem ggL_law_X5_image : GoodIn wsL_law wsX5_image := goodIn_r _ [704, 19, 24, 23, 29, 406, 407, 408, 18, 409, 47, 705, 706, 707, 22, 708, 54, 55, 56, 57, 58, 709, 515, 516, 27, 517, 63, 64, 66, 763, 764, 765, 766, 767, 768, 769, 770, 771, 812, 813, 814, 815, 816, 807, 808, 809, 810, 811, 817, 818, 819, 820] (by decide +kernel) (by decide +kernel)
set_option maxRecDepth 20000 in
theorem gL_law_X5_image : GoodIn wsL_law (wsV RL 93 RX5 yX5_image wsX5_image) := goodIn_app (goodIn_of _ (by decide +kernel)) ggL_law_X5_image
set_option maxRecDepth 20000 in
theorem ggL_law_X6_image : GoodIn wsL_law wsX6_image := goodIn_r _ [713, 75, 81, 76, 82, 80, 83, 278, 714, 279, 715, 280, 716, 281, 717, 282, 84, 415, 416, 417, 5, 418, 276, 718, 719, 720, 772, 773, 774, 775, 776, 777, 778, 779, 780, 781, 782, 783, 784, 785, 786, 787, 788, 789, 790, 791, 792, 793, 794, 795, 796, 797, 798, 799, 800, 801, 802, 803, 804] (by decide +kernel) (by decide +kernel)
set_option maxRecDepth 20000 in
theorem gL_law_X6_image : GoodIn wsL_law (wsV RL 96 RX6 yX6_image wsX6_image) := goodIn_app (goodIn_of _ (by decide +kernel)) ggL_law_X6_image
set_option maxRecDepth 20000 in
theorem ggL_law_X5_restore : GoodIn wsL_law wsX5_restore := goodIn_r _ [724, 29, 23, 24, 705, 706, 707, 22, 708, 54, 55, 56, 57, 58, 709, 515, 516, 27, 517, 63, 64, 66, 763, 764, 765, 766, 767, 768, 769, 770, 771, 812, 813, 814, 815, 816, 817, 818, 819, 820] (by decide +kernel) (by decide +kernel)
set_option maxRecDepth 20000 in
theorem gL_law_X5_restore : GoodIn wsL_law (wsV RL 97 RX5 yX5_restore wsX5_restore) := goodIn_app (goodIn_of _ (by decide +kernel)) ggL_law_X5_restore
set_option maxRecDepth 20000 in
theorem ggL_law_X6_restore : GoodIn wsL_law wsX6_restore := goodIn_r _ [728, 84, 282, 81, 75, 82, 76, 83, 80, 714, 278, 715, 279, 716, 280, 717, 281, 718, 719, 5, 720, 772, 773, 774, 775, 776, 777, 778, 779, 780, 781, 782, 783, 784, 785, 786, 787, 788, 789, 790, 791, 792, 793, 794, 795, 796, 797, 798, 799, 800, 801, 802, 803, 804] (by decide +kernel) (by decide +kernel)
set_option maxRecDepth 20000 in
theorem gL_law_X6_restore : GoodIn wsL_law (wsV RL 100 RX6 yX6_restore wsX6_restore) := goodIn_app (goodIn_of _ (by decide +kernel)) ggL_law_X6_restore
set_option maxRecDepth 20000 in
theorem ggL_law_X5_count : GoodIn wsL_law wsX5_count := goodIn_r _ [732, 19, 23, 15, 30, 31, 32, 678, 679, 680, 18, 681, 47, 45, 445, 446, 447, 27, 448, 63, 449, 300, 301, 302, 763, 764, 765, 766, 767, 768, 769, 770, 771, 807, 808, 809, 810, 811, 812, 813, 814, 815, 816, 817, 818, 819, 820, 805, 806] (by decide +kernel) (by decide +kernel)
set_option maxRecDepth 20000 in
theorem gL_law_X5_count : GoodIn wsL_law (wsV RL 101 RX5 yX5_count wsX5_count) := goodIn_app (goodIn_of _ (by decide +kernel)) ggL_law_X5_count
set_option maxRecDepth 20000 in
theorem ggL_law_X6_count : GoodIn wsL_law wsX6_count := goodIn_r _ [736, 737, 738, 739, 5, 740, 276, 277, 278, 279, 280, 281, 101, 282, 591, 645, 697, 698, 699, 700, 74, 389, 390, 391, 392, 77, 75, 78, 76, 393, 470, 471, 472, 473, 772, 773, 774, 775, 776, 777, 778, 779, 780, 781, 782, 783, 784, 785, 786, 787, 788, 789, 790, 791, 792, 793, 794, 795, 796, 797, 798, 799, 800, 801, 802, 803, 804] (by decide +kernel) (by decide +kernel)
set_option maxRecDepth 20000 in
theorem gL_law_X6_count : GoodIn wsL_law (wsV RL 104 RX6 yX6_count wsX6_count) := goodIn_app (goodIn_of _ (by decide +kernel)) ggL_law_X6_count
set_option maxRecDepth 20000 in
theorem ggL_law_X5_digest : GoodIn wsL_law wsX5_digest := goodIn_r _ [744, 745, 19, 23, 15, 291, 292, 293, 2, 294, 295, 296, 297, 18, 298, 47, 44, 299, 300, 301, 302, 45, 303, 304, 305, 306, 46, 307, 308, 309, 310, 48, 311, 312, 313, 27, 314, 63, 315, 316, 317, 318, 319, 320, 321, 322, 323, 324, 325, 64, 326, 327, 328, 329, 330, 331, 332, 333, 334, 335, 336, 337, 338, 66, 746, 747, 748, 749, 494, 495, 496, 497, 440, 441, 442, 443, 406, 407, 408, 409, 510, 511, 512, 513, 28, 514, 515, 516, 517, 423, 424, 425, 426, 65, 427, 428, 429, 430, 431, 432, 433, 368, 369, 370, 371, 434, 435, 436, 437, 438, 439, 444, 382, 383, 384, 530, 531, 532, 533, 478, 479, 480, 481, 445, 446, 447, 448, 449, 551, 552, 553, 554, 750, 130, 131, 14, 132, 38, 90, 91, 751, 730, 731, 732, 30, 31, 32, 678, 679, 680, 681, 763, 764, 765, 766, 767, 768, 769, 770, 771, 807, 808, 809, 810, 811, 812, 813, 814, 815, 816, 805, 806, 817, 818, 819, 820] (by decide +kernel) (by decide +kernel)
set_option maxRecDepth 20000 in
theorem gL_law_X5_digest : GoodIn wsL_law (wsV RL 105 RX5 yX5_digest wsX5_digest) := goodIn_app (goodIn_of _ (by decide +kernel)) ggL_law_X5_digest
set_option maxRecDepth 20000 in
theorem ggL_law_X6_digest : GoodIn wsL_law wsX6_digest := goodIn_r _ [755, 756, 757, 276, 101, 72, 347, 348, 349, 5, 350, 74, 75, 76, 278, 351, 352, 353, 354, 277, 355, 356, 357, 358, 359, 360, 361, 362, 758, 759, 760, 761, 762, 502, 503, 504, 505, 343, 344, 345, 346, 102, 103, 104, 415, 416, 417, 418, 522, 523, 524, 525, 77, 79, 389, 390, 391, 392, 78, 393, 454, 455, 456, 457, 458, 459, 460, 461, 462, 463, 464, 465, 466, 467, 468, 469, 539, 540, 541, 542, 543, 544, 545, 546, 470, 471, 472, 473, 560, 561, 562, 563, 486, 487, 488, 489, 737, 738, 739, 740, 279, 280, 281, 282, 591, 645, 697, 698, 699, 700, 772, 773, 774, 775, 776, 777, 778, 779, 780, 781, 782, 783, 784, 785, 786, 787, 788, 789, 790, 791, 792, 793, 794, 795, 796, 797, 798, 799, 800, 801, 802, 803, 804] (by decide +kernel) (by decide +kernel)
set_option maxRecDepth 20000 in
theorem gL_law_X6_digest : GoodIn wsL_law (wsV RL 109 RX6 yX6_digest wsX6_digest) := goodIn_app (goodIn_of _ (by decide +kernel)) ggL_law_X6_digest

theorem dX11_likely_12 : decode cX11_likely 12 = .ok (.getfield 279, 3) := by decide +kernel
theorem dX11_likely_15 : decode cX11_likely 15 = .ok (.ifCond .le 7, 3) := by decide +kernel
theorem dX11_likely_18 : decode cX11_likely 18 = .ok (.iconst 1, 1) := by decide +kernel
theorem dX11_likely_19 : decode cX11_likely 19 = .ok (.goto 4, 3) := by decide +kernel
theorem dX11_likely_22 : decode cX11_likely 22 = .ok (.iconst 0, 1) := by decide +kernel
theorem dX11_likely_23 : decode cX11_likely 23 = .ok (.invokestatic 187, 3) := by decide +kernel
theorem dX11_likely_26 : decode cX11_likely 26 = .ok (.aload_n 0, 1) := by decide +kernel
theorem dX11_likely_27 : decode cX11_likely 27 = .ok (.getfield 32, 3) := by decide +kernel
theorem dX11_likely_30 : decode cX11_likely 30 = .ok (.iload_n 1, 1) := by decide +kernel
theorem dX11_likely_31 : decode cX11_likely 31 = .ok (.iload_n 2, 1) := by decide +kernel
theorem dX11_likely_32 : decode cX11_likely 32 = .ok (.iload_n 3, 1) := by decide +kernel
theorem dX11_likely_33 : decode cX11_likely 33 = .ok (.iload 4, 2) := by decide +kernel
theorem dX11_likely_35 : decode cX11_likely 35 = .ok (.invokevirtual 286, 3) := by decide +kernel
theorem dX11_likely_38 : decode cX11_likely 38 = .ok (.aload_n 0, 1) := by decide +kernel
theorem dX11_likely_39 : decode cX11_likely 39 = .ok (.getfield 32, 3) := by decide +kernel
theorem dX11_likely_42 : decode cX11_likely 42 = .ok (.iconst (-1), 1) := by decide +kernel
theorem dX11_likely_43 : decode cX11_likely 43 = .ok (.invokevirtual 289, 3) := by decide +kernel
theorem dX11_likely_46 : decode cX11_likely 46 = .ok (.ireturn, 1) := by decide +kernel
set_option maxRecDepth 20000 in
theorem ggX11_isSure_X11_demandHabits : GoodIn wsX11_isSure wsX11_demandHabits := goodIn_ca (goodIn_r _ [6, 7, 8, 5, 9, 10, 11, 12, 13, 14] (by decide +kernel) (by decide +kernel)) (goodIn_sub (fun _ h => List.mem_cons_of_mem _ (List.mem_append_left _ (List.mem_append_left _ (List.mem_append_right _ h)))) (by decide +kernel))
set_option maxRecDepth 20000 in
theorem gX11_isSure_X11_demandHabits : GoodIn wsX11_isSure (va_wsS RX11 275 yX11_demandHabits wsX11_demandHabits) := goodIn_app (goodIn_of _ (by decide +kernel)) ggX11_isSure_X11_demandHabits
set_option maxRecDepth 20000 in
theorem ggX11_isSure_X11_demandElement : GoodIn wsX11_isSure wsX11_demandElement := goodIn_ca (goodIn_r _ [17, 18, 19] (by decide +kernel) (by decide +kernel)) (goodIn_sub (fun _ h => List.mem_cons_of_mem _ (List.mem_append_left _ (List.mem_append_right _ h))) (by decide +kernel))
set_option maxRecDepth 20000 in
theorem gX11_isSure_X11_demandElement : GoodIn wsX11_isSure (va_wsS RX11 187 yX11_demandElement wsX11_demandElement) := goodIn_app (goodIn_of _ (by decide +kernel)) ggX11_isSure_X11_demandElement
set_option maxRecDepth 20000 in
theorem ggX11_isSure_X1_compare : GoodIn wsX11_isSure wsX1_compare := goodIn_ca (goodIn_r _ [24, 25, 26, 27, 28, 29, 23, 30, 54, 55, 56, 57, 58] (by decide +kernel) (by decide +kernel)) (goodIn_sub (fun _ h => List.mem_cons_of_mem _ (List.mem_append_right _ h)) (by decide +kernel))
set_option maxRecDepth 20000 in
theorem gX11_isSure_X1_compare : GoodIn wsX11_isSure (wsV RX11 286 RX1 yX1_compare wsX1_compare) := goodIn_app (goodIn_of _ (by decide +kernel)) ggX11_isSure_X1_compare
set_option maxRecDepth 20000 in
theorem ggX11_isSure_X1_isNearestSure : GoodIn wsX11_isSure wsX1_isNearestSure := goodIn_ca (goodIn_r _ [34, 26, 35, 36, 37, 23, 38, 39, 25, 54, 55, 56, 57, 58] (by decide +kernel) (by decide +kernel)) (goodIn_sub (fun _ h => List.mem_cons_of_mem _ (List.mem_append_right _ h)) (by decide +kernel))
set_option maxRecDepth 20000 in
theorem gX11_isSure_X1_isNearestSure : GoodIn wsX11_isSure (wsV RX11 292 RX1 yX1_isNearestSure wsX1_isNearestSure) := goodIn_app (goodIn_of _ (by decide +kernel)) ggX11_isSure_X1_isNearestSure
theorem dX11_isSure_0 : decode cX11_isSure 0 = .ok (.iload_n 1, 1) := by decide +kernel
theorem dX11_isSure_1 : decode cX11_isSure 1 = .ok (.iload_n 2, 1) := by decide +kernel
theorem dX11_isSure_2 : decode cX11_isSure 2 = .ok (.iload_n 3, 1) := by decide +kernel
theorem dX11_isSure_3 : decode cX11_isSure 3 = .ok (.iload 4, 2) := by decide +kernel
theorem dX11_isSure_5 : decode cX11_isSure 5 = .ok (.invokestatic 275, 3) := by decide +kernel
theorem dX11_isSure_8 : decode cX11_isSure 8 = .ok (.aload_n 0, 1) := by decide +kernel
theorem dX11_isSure_9 : decode cX11_isSure 9 = .ok (.getfield 32, 3) := by decide +kernel
theorem dX11_isSure_12 : decode cX11_isSure 12 = .ok (.getfield 279, 3) := by decide +kernel
theorem dX11_isSure_15 : decode cX11_isSure 15 = .ok (.ifCond .le 7, 3) := by decide +kernel
theorem dX11_isSure_18 : decode cX11_isSure 18 = .ok (.iconst 1, 1) := by decide +kernel
theorem dX11_isSure_19 : decode cX11_isSure 19 = .ok (.goto 4, 3) := by decide +kernel
theorem dX11_isSure_22 : decode cX11_isSure 22 = .ok (.iconst 0, 1) := by decide +kernel
theorem dX11_isSure_23 : decode cX11_isSure 23 = .ok (.invokestatic 187, 3) := by decide +kernel
theorem dX11_isSure_26 : decode cX11_isSure 26 = .ok (.aload_n 0, 1) := by decide +kernel
theorem dX11_isSure_27 : decode cX11_isSure 27 = .ok (.getfield 32, 3) := by decide +kernel
theorem dX11_isSure_30 : decode cX11_isSure 30 = .ok (.iload_n 1, 1) := by decide +kernel
theorem dX11_isSure_31 : decode cX11_isSure 31 = .ok (.iload_n 2, 1) := by decide +kernel
theorem dX11_isSure_32 : decode cX11_isSure 32 = .ok (.iload_n 3, 1) := by decide +kernel
theorem dX11_isSure_33 : decode cX11_isSure 33 = .ok (.iload 4, 2) := by decide +kernel
theorem dX11_isSure_35 : decode cX11_isSure 35 = .ok (.invokevirtual 286, 3) := by decide +kernel
theorem dX11_isSure_38 : decode cX11_isSure 38 = .ok (.aload_n 0, 1) := by decide +kernel
theorem dX11_isSure_39 : decode cX11_isSure 39 = .ok (.getfield 32, 3) := by decide +kernel
theorem dX11_isSure_42 : decode cX11_isSure 42 = .ok (.invokevirtual 292, 3) := by decide +kernel
theorem dX11_isSure_45 : decode cX11_isSure 45 = .ok (.ireturn, 1) := by decide +kernel
set_option maxRecDepth 20000 in
theorem ggX11_scratch_X11_demandPlace : GoodIn wsX11_scratch wsX11_demandPlace := goodIn_ca (goodIn_r _ [8, 9, 10, 11, 12, 7, 13] (by decide +kernel) (by decide +kernel)) (goodIn_sub (fun _ h => List.mem_cons_of_mem _ (List.mem_append_left _ (List.mem_append_left _ (List.mem_append_left _ (List.mem_append_right _ h))))) (by decide +kernel))
set_option maxRecDepth 20000 in
theorem gX11_scratch_X11_demandPlace : GoodIn wsX11_scratch (va_wsS RX11 176 yX11_demandPlace wsX11_demandPlace) := goodIn_app (goodIn_of _ (by decide +kernel)) ggX11_scratch_X11_demandPlace
set_option maxRecDepth 20000 in
theorem ggX11_scratch_X11_isWithin : GoodIn wsX11_scratch wsX11_isWithin := goodIn_r _ [16] (by decide +kernel) (by decide +kernel)
set_option maxRecDepth 20000 in
theorem gX11_scratch_X11_isWithin : GoodIn wsX11_scratch (va_wsS RX11 91 yX11_isWithin wsX11_isWithin) := goodIn_app (goodIn_of _ (by decide +kernel)) ggX11_scratch_X11_isWithin
set_option maxRecDepth 20000 in
theorem ggX11_scratch_X11_demandArgument : GoodIn wsX11_scratch wsX11_demandArgument := goodIn_ca (goodIn_r _ [19, 9, 10] (by decide +kernel) (by decide +kernel)) (goodIn_sub (fun _ h => List.mem_cons_of_mem _ (List.mem_append_left _ (List.mem_append_left _ (List.mem_append_left _ (List.mem_append_right _ h))))) (by decide +kernel))
set_option maxRecDepth 20000 in
theorem gX11_scratch_X11_demandArgument : GoodIn wsX11_scratch (va_wsS RX11 87 yX11_demandArgument wsX11_demandArgument) := goodIn_app (goodIn_of _ (by decide +kernel)) ggX11_scratch_X11_demandArgument
set_option maxRecDepth 20000 in
theorem ggX11_scratch_X0_init : GoodIn wsX11_scratch wsX0_init := goodIn_r _ [22, 23, 24, 25, 26, 27, 28, 29, 30, 31, 32, 33, 34, 35, 36, 37, 38, 39, 40, 423, 424, 425, 397, 398, 399, 400, 401, 402, 403, 404, 405, 406, 407, 408] (by decide +kernel) (by decide +kernel)
set_option maxRecDepth 20000 in
theorem gX11_scratch_X0_init : GoodIn wsX11_scratch (wsX0_init) := ggX11_scratch_X0_init
set_option maxRecDepth 20000 in
theorem ggX11_scratch_X11_enter : GoodIn wsX11_scratch wsX11_enter := goodIn_ca (goodIn_ca (goodIn_ca (goodIn_r _ [44, 45, 46, 47, 48, 49, 50, 51, 52, 53, 54, 55, 56, 57, 58, 59, 60, 61, 62, 63, 7, 64, 65, 66, 67, 68, 69, 70, 71, 72, 73, 74, 75, 76, 77, 78, 79, 80, 81, 82, 83, 84, 85, 86, 87, 12, 13, 88, 89, 90, 91, 92, 93, 94, 95, 96, 97, 98, 99, 100, 101, 102, 103, 104, 105, 106, 107, 108, 109, 110, 111, 112, 113, 114, 115, 116, 117, 118, 119, 120, 121, 122, 123, 124, 125, 126, 127, 128, 129, 130, 131, 132, 133, 134, 135, 136, 137, 138, 139, 140, 141, 142, 143, 144, 145, 146, 147, 148, 149, 150, 151, 152, 153, 154, 155, 156, 157, 158, 159, 160, 161, 162, 163, 164, 165, 166, 167, 168, 169, 170, 171, 172, 173, 174, 175, 176, 177, 178, 179, 180, 181, 182, 183, 184, 185, 186, 187, 188, 189, 190, 191, 192, 193, 194, 195, 196, 197, 198, 199, 200, 201, 202, 203, 204, 205, 206, 207, 208, 209, 210, 211, 212, 213, 214, 215, 216, 217, 218, 219, 220, 221, 222, 223, 224, 225, 226, 227, 228, 229, 230, 231, 232, 233, 234, 235, 236, 237, 238, 239, 240, 241, 242, 243, 244, 245, 246, 247, 248, 249, 250, 251, 252, 253, 254, 255, 256, 257, 258, 259, 260, 261, 262, 263, 264, 265, 266, 267, 268, 269, 270, 271, 272, 273, 274, 275, 276, 277, 278, 279, 280, 281, 282, 283, 284, 285, 286, 287, 288, 289, 290, 291, 292, 293, 294, 295, 296, 297, 298, 299, 300, 301, 302, 303, 304, 305, 306, 307, 308, 309, 310, 311, 312, 313, 314, 315, 316, 317, 318, 319, 320, 321, 322, 323, 324, 325, 326, 327, 328, 329, 330, 331, 332, 333, 334, 335, 336, 337, 338, 339, 340, 341, 342, 343, 344, 345, 346, 347, 348, 349, 350, 351, 352, 353, 354, 355, 356, 357, 358, 359, 360, 361, 362, 363, 364, 365, 366, 367, 368, 369, 370, 371, 372, 373, 374, 375, 376, 377, 378, 379, 380, 381, 382, 383, 384, 385, 386, 387, 388, 389, 390, 391, 392, 393, 394, 395, 396, 409, 410, 411, 412, 413, 414, 415, 416, 417, 418, 419, 420, 421, 422, 397, 398, 399, 400, 401, 402, 403, 404, 405, 406, 407, 408, 426, 427, 428, 423, 424, 425, 429, 430, 431, 432, 433, 434, 435, 436, 437, 438, 439, 440, 441, 442, 443, 444, 445, 446, 447, 448, 449, 450, 451, 452, 453, 454, 455, 456] (by decide +kernel) (by decide +kernel)) (goodIn_sub (fun _ h => List.mem_cons_of_mem _ (List.mem_append_left _ (List.mem_append_left _ (List.mem_append_right _ h)))) (by decide +kernel))) (goodIn_sub (fun _ h => List.mem_cons_of_mem _ (List.mem_append_left _ (List.mem_append_right _ h))) (by decide +kernel))) (goodIn_sub (fun _ h => List.mem_cons_of_mem _ (List.mem_append_right _ h)) (by decide +kernel))
set_option maxRecDepth 20000 in
theorem gX11_scratch_X11_enter : GoodIn wsX11_scratch (wsV RX11 172 RX11 yX11_enter wsX11_enter) := goodIn_app (goodIn_of _ (by decide +kernel)) ggX11_scratch_X11_enter
theorem dX11_scratch_0 : decode cX11_scratch 0 = .ok (.iload_n 1, 1) := by decide +kernel
theorem dX11_scratch_1 : decode cX11_scratch 1 = .ok (.iload_n 2, 1) := by decide +kernel
theorem dX11_scratch_2 : decode cX11_scratch 2 = .ok (.invokestatic 176, 3) := by decide +kernel
theorem dX11_scratch_5 : decode cX11_scratch 5 = .ok (.iload_n 3, 1) := by decide +kernel
theorem dX11_scratch_6 : decode cX11_scratch 6 = .ok (.iconst 1, 1) := by decide +kernel
theorem dX11_scratch_7 : decode cX11_scratch 7 = .ok (.sipush 999, 3) := by decide +kernel
theorem dX11_scratch_10 : decode cX11_scratch 10 = .ok (.invokestatic 91, 3) := by decide +kernel
theorem dX11_scratch_13 : decode cX11_scratch 13 = .ok (.invokestatic 87, 3) := by decide +kernel
theorem dX11_scratch_16 : decode cX11_scratch 16 = .ok (.aload_n 0, 1) := by decide +kernel
theorem dX11_scratch_17 : decode cX11_scratch 17 = .ok (.new 161, 3) := by decide +kernel
theorem dX11_scratch_20 : decode cX11_scratch 20 = .ok (.dup, 1) := by decide +kernel
theorem dX11_scratch_21 : decode cX11_scratch 21 = .ok (.bipush 115, 2) := by decide +kernel
theorem dX11_scratch_23 : decode cX11_scratch 23 = .ok (.aload_n 0, 1) := by decide +kernel
theorem dX11_scratch_24 : decode cX11_scratch 24 = .ok (.getfield 55, 3) := by decide +kernel
theorem dX11_scratch_27 : decode cX11_scratch 27 = .ok (.iload_n 3, 1) := by decide +kernel
theorem dX11_scratch_28 : decode cX11_scratch 28 = .ok (.iload_n 1, 1) := by decide +kernel
theorem dX11_scratch_29 : decode cX11_scratch 29 = .ok (.iload_n 2, 1) := by decide +kernel
theorem dX11_scratch_30 : decode cX11_scratch 30 = .ok (.invokespecial 163, 3) := by decide +kernel
theorem dX11_scratch_33 : decode cX11_scratch 33 = .ok (.invokevirtual 172, 3) := by decide +kernel
theorem dX11_scratch_36 : decode cX11_scratch 36 = .ok (.ireturn, 1) := by decide +kernel
theorem dX11_scratches_0 : decode cX11_scratches 0 = .ok (.aload_n 0, 1) := by decide +kernel
theorem dX11_scratches_1 : decode cX11_scratches 1 = .ok (.getfield 62, 3) := by decide +kernel
theorem dX11_scratches_4 : decode cX11_scratches 4 = .ok (.getfield 295, 3) := by decide +kernel
theorem dX11_scratches_7 : decode cX11_scratches 7 = .ok (.ireturn, 1) := by decide +kernel
set_option maxRecDepth 20000 in
theorem ggX11_liesOver_X11_demandIndex : GoodIn wsX11_liesOver wsX11_demandIndex := goodIn_ca (goodIn_r _ [8, 9, 10] (by decide +kernel) (by decide +kernel)) (goodIn_sub (fun _ h => List.mem_cons_of_mem _ (List.mem_append_left _ (List.mem_append_right _ h))) (by decide +kernel))
set_option maxRecDepth 20000 in
theorem gX11_liesOver_X11_demandIndex : GoodIn wsX11_liesOver (va_wsS RX11 134 yX11_demandIndex wsX11_demandIndex) := goodIn_app (goodIn_of _ (by decide +kernel)) ggX11_liesOver_X11_demandIndex
set_option maxRecDepth 20000 in
theorem ggX11_liesOver_X5_scratched : GoodIn wsX11_liesOver wsX5_scratched := goodIn_ca (goodIn_r _ [15, 16, 17, 40, 41, 42, 43, 44] (by decide +kernel) (by decide +kernel)) (goodIn_sub (fun _ h => List.mem_cons_of_mem _ (List.mem_append_left _ (List.mem_append_left _ (List.mem_append_right _ h)))) (by decide +kernel))
set_option maxRecDepth 20000 in
theorem gX11_liesOver_X5_scratched : GoodIn wsX11_liesOver (wsV RX11 298 RX5 yX5_scratched wsX5_scratched) := goodIn_app (goodIn_of _ (by decide +kernel)) ggX11_liesOver_X5_scratched
set_option maxRecDepth 20000 in
theorem ggX11_liesOver_X11_isWithin : GoodIn wsX11_liesOver wsX11_isWithin := goodIn_r _ [20] (by decide +kernel) (by decide +kernel)
set_option maxRecDepth 20000 in
theorem gX11_liesOver_X11_isWithin : GoodIn wsX11_liesOver (va_wsS RX11 91 yX11_isWithin wsX11_isWithin) := goodIn_app (goodIn_of _ (by decide +kernel)) ggX11_liesOver_X11_isWithin
set_option maxRecDepth 20000 in
theorem ggX11_liesOver_X11_demandElement : GoodIn wsX11_liesOver wsX11_demandElement := goodIn_ca (goodIn_r _ [23, 24, 25] (by decide +kernel) (by decide +kernel)) (goodIn_sub (fun _ h => List.mem_cons_of_mem _ (List.mem_append_right _ h)) (by decide +kernel))
set_option maxRecDepth 20000 in
theorem gX11_liesOver_X11_demandElement : GoodIn wsX11_liesOver (va_wsS RX11 187 yX11_demandElement wsX11_demandElement) := goodIn_app (goodIn_of _ (by decide +kernel)) ggX11_liesOver_X11_demandElement
theorem dX11_liesOver_0 : decode cX11_liesOver 0 = .ok (.iload_n 1, 1) := by decide +kernel
theorem dX11_liesOver_1 : decode cX11_liesOver 1 = .ok (.aload_n 0, 1) := by decide +kernel
theorem dX11_liesOver_2 : decode cX11_liesOver 2 = .ok (.getfield 62, 3) := by decide +kernel
theorem dX11_liesOver_5 : decode cX11_liesOver 5 = .ok (.getfield 295, 3) := by decide +kernel
theorem dX11_liesOver_8 : decode cX11_liesOver 8 = .ok (.invokestatic 134, 3) := by decide +kernel
theorem dX11_liesOver_11 : decode cX11_liesOver 11 = .ok (.iload_n 2, 1) := by decide +kernel
theorem dX11_liesOver_12 : decode cX11_liesOver 12 = .ok (.iconst 0, 1) := by decide +kernel
theorem dX11_liesOver_13 : decode cX11_liesOver 13 = .ok (.aload_n 0, 1) := by decide +kernel
theorem dX11_liesOver_14 : decode cX11_liesOver 14 = .ok (.getfield 62, 3) := by decide +kernel
theorem dX11_liesOver_17 : decode cX11_liesOver 17 = .ok (.iload_n 1, 1) := by decide +kernel
theorem dX11_liesOver_18 : decode cX11_liesOver 18 = .ok (.invokevirtual 298, 3) := by decide +kernel
theorem dX11_liesOver_21 : decode cX11_liesOver 21 = .ok (.getfield 183, 3) := by decide +kernel
theorem dX11_liesOver_24 : decode cX11_liesOver 24 = .ok (.iconst 1, 1) := by decide +kernel
theorem dX11_liesOver_25 : decode cX11_liesOver 25 = .ok (.isub, 1) := by decide +kernel
theorem dX11_liesOver_26 : decode cX11_liesOver 26 = .ok (.invokestatic 91, 3) := by decide +kernel
theorem dX11_liesOver_29 : decode cX11_liesOver 29 = .ok (.invokestatic 187, 3) := by decide +kernel
theorem dX11_liesOver_32 : decode cX11_liesOver 32 = .ok (.iload_n 2, 1) := by decide +kernel
theorem dX11_liesOver_33 : decode cX11_liesOver 33 = .ok (.aload_n 0, 1) := by decide +kernel
theorem dX11_liesOver_34 : decode cX11_liesOver 34 = .ok (.getfield 62, 3) := by decide +kernel
theorem dX11_liesOver_37 : decode cX11_liesOver 37 = .ok (.getfield 302, 3) := by decide +kernel
theorem dX11_liesOver_40 : decode cX11_liesOver 40 = .ok (.iload_n 1, 1) := by decide +kernel
theorem dX11_liesOver_41 : decode cX11_liesOver 41 = .ok (.iaload, 1) := by decide +kernel
theorem dX11_liesOver_42 : decode cX11_liesOver 42 = .ok (.if_icmp .lt 7, 3) := by decide +kernel
theorem dX11_liesOver_45 : decode cX11_liesOver 45 = .ok (.iconst 1, 1) := by decide +kernel
theorem dX11_liesOver_46 : decode cX11_liesOver 46 = .ok (.goto 4, 3) := by decide +kernel
theorem dX11_liesOver_49 : decode cX11_liesOver 49 = .ok (.iconst 0, 1) := by decide +kernel
theorem dX11_liesOver_50 : decode cX11_liesOver 50 = .ok (.ireturn, 1) := by decide +kernel
set_option maxRecDepth 20000 in
theorem ggX11_later_X11_demandIndex : GoodIn wsX11_later wsX11_demandIndex := goodIn_ca (goodIn_r _ [12, 13, 14] (by decide +kernel) (by decide +kernel)) (goodIn_sub (fun _ h => List.mem_cons_of_mem _ (List.mem_append_left _ (List.mem_append_right _ h))) (by decide +kernel))
set_option maxRecDepth 20000 in
theorem gX11_later_X11_demandIndex : GoodIn wsX11_later (va_wsS RX11 134 yX11_demandIndex wsX11_demandIndex) := goodIn_app (goodIn_of _ (by decide +kernel)) ggX11_later_X11_demandIndex
set_option maxRecDepth 20000 in
theorem ggX11_later_X5_areAtOnePlace : GoodIn wsX11_later wsX5_areAtOnePlace := goodIn_ca (goodIn_r _ [19, 20, 45, 46, 47, 48, 49] (by decide +kernel) (by decide +kernel)) (goodIn_sub (fun _ h => List.mem_cons_of_mem _ (List.mem_append_left _ (List.mem_append_left _ (List.mem_append_right _ h)))) (by decide +kernel))
set_option maxRecDepth 20000 in
theorem gX11_later_X5_areAtOnePlace : GoodIn wsX11_later (wsV RX11 305 RX5 yX5_areAtOnePlace wsX5_areAtOnePlace) := goodIn_app (goodIn_of _ (by decide +kernel)) ggX11_later_X5_areAtOnePlace
set_option maxRecDepth 20000 in
theorem ggX11_later_X11_demandPossible : GoodIn wsX11_later wsX11_demandPossible := goodIn_ca (goodIn_r _ [23, 24, 25] (by decide +kernel) (by decide +kernel)) (goodIn_sub (fun _ h => List.mem_cons_of_mem _ (List.mem_append_right _ h)) (by decide +kernel))
set_option maxRecDepth 20000 in
theorem gX11_later_X11_demandPossible : GoodIn wsX11_later (va_wsS RX11 142 yX11_demandPossible wsX11_demandPossible) := goodIn_app (goodIn_of _ (by decide +kernel)) ggX11_later_X11_demandPossible
set_option maxRecDepth 20000 in
theorem ggX11_later_X5_scratched : GoodIn wsX11_later wsX5_scratched := goodIn_ca (goodIn_r _ [29, 30, 20, 45, 46, 47, 48, 49] (by decide +kernel) (by decide +kernel)) (goodIn_sub (fun _ h => List.mem_cons_of_mem _ (List.mem_append_left _ (List.mem_append_left _ (List.mem_append_right _ h)))) (by decide +kernel))
set_option maxRecDepth 20000 in
theorem gX11_later_X5_scratched : GoodIn wsX11_later (wsV RX11 298 RX5 yX5_scratched wsX5_scratched) := goodIn_app (goodIn_of _ (by decide +kernel)) ggX11_later_X5_scratched
theorem dX11_later_0 : decode cX11_later 0 = .ok (.iload_n 1, 1) := by decide +kernel
theorem dX11_later_1 : decode cX11_later 1 = .ok (.aload_n 0, 1) := by decide +kernel
theorem dX11_later_2 : decode cX11_later 2 = .ok (.getfield 62, 3) := by decide +kernel
theorem dX11_later_5 : decode cX11_later 5 = .ok (.getfield 295, 3) := by decide +kernel
theorem dX11_later_8 : decode cX11_later 8 = .ok (.invokestatic 134, 3) := by decide +kernel
theorem dX11_later_11 : decode cX11_later 11 = .ok (.iload_n 2, 1) := by decide +kernel
theorem dX11_later_12 : decode cX11_later 12 = .ok (.aload_n 0, 1) := by decide +kernel
theorem dX11_later_13 : decode cX11_later 13 = .ok (.getfield 62, 3) := by decide +kernel
theorem dX11_later_16 : decode cX11_later 16 = .ok (.getfield 295, 3) := by decide +kernel
theorem dX11_later_19 : decode cX11_later 19 = .ok (.invokestatic 134, 3) := by decide +kernel
theorem dX11_later_22 : decode cX11_later 22 = .ok (.aload_n 0, 1) := by decide +kernel
theorem dX11_later_23 : decode cX11_later 23 = .ok (.getfield 62, 3) := by decide +kernel
theorem dX11_later_26 : decode cX11_later 26 = .ok (.iload_n 1, 1) := by decide +kernel
theorem dX11_later_27 : decode cX11_later 27 = .ok (.iload_n 2, 1) := by decide +kernel
theorem dX11_later_28 : decode cX11_later 28 = .ok (.invokevirtual 305, 3) := by decide +kernel
theorem dX11_later_31 : decode cX11_later 31 = .ok (.invokestatic 142, 3) := by decide +kernel
theorem dX11_later_34 : decode cX11_later 34 = .ok (.aload_n 0, 1) := by decide +kernel
theorem dX11_later_35 : decode cX11_later 35 = .ok (.getfield 62, 3) := by decide +kernel
theorem dX11_later_38 : decode cX11_later 38 = .ok (.getfield 302, 3) := by decide +kernel
theorem dX11_later_41 : decode cX11_later 41 = .ok (.iload_n 1, 1) := by decide +kernel
theorem dX11_later_42 : decode cX11_later 42 = .ok (.iaload, 1) := by decide +kernel
theorem dX11_later_43 : decode cX11_later 43 = .ok (.istore_n 3, 1) := by decide +kernel
theorem dX11_later_44 : decode cX11_later 44 = .ok (.aload_n 0, 1) := by decide +kernel
theorem dX11_later_45 : decode cX11_later 45 = .ok (.getfield 62, 3) := by decide +kernel
theorem dX11_later_48 : decode cX11_later 48 = .ok (.getfield 302, 3) := by decide +kernel
theorem dX11_later_51 : decode cX11_later 51 = .ok (.iload_n 2, 1) := by decide +kernel
theorem dX11_later_52 : decode cX11_later 52 = .ok (.iaload, 1) := by decide +kernel
theorem dX11_later_53 : decode cX11_later 53 = .ok (.istore 4, 2) := by decide +kernel
theorem dX11_later_55 : decode cX11_later 55 = .ok (.iload_n 3, 1) := by decide +kernel
theorem dX11_later_56 : decode cX11_later 56 = .ok (.iload 4, 2) := by decide +kernel
theorem dX11_later_58 : decode cX11_later 58 = .ok (.if_icmp .eq 27, 3) := by decide +kernel
theorem dX11_later_61 : decode cX11_later 61 = .ok (.aload_n 0, 1) := by decide +kernel
theorem dX11_later_62 : decode cX11_later 62 = .ok (.getfield 62, 3) := by decide +kernel
theorem dX11_later_65 : decode cX11_later 65 = .ok (.iload_n 1, 1) := by decide +kernel
theorem dX11_later_66 : decode cX11_later 66 = .ok (.invokevirtual 298, 3) := by decide +kernel
theorem dX11_later_69 : decode cX11_later 69 = .ok (.getfield 183, 3) := by decide +kernel
theorem dX11_later_72 : decode cX11_later 72 = .ok (.iload_n 3, 1) := by decide +kernel
theorem dX11_later_73 : decode cX11_later 73 = .ok (.iload 4, 2) := by decide +kernel
theorem dX11_later_75 : decode cX11_later 75 = .ok (.invokestatic 308, 3) := by decide +kernel
theorem dX11_later_78 : decode cX11_later 78 = .ok (.if_icmp .le 7, 3) := by decide +kernel
theorem dX11_later_81 : decode cX11_later 81 = .ok (.iconst 1, 1) := by decide +kernel
theorem dX11_later_82 : decode cX11_later 82 = .ok (.goto 4, 3) := by decide +kernel
theorem dX11_later_85 : decode cX11_later 85 = .ok (.iconst 0, 1) := by decide +kernel
theorem dX11_later_86 : decode cX11_later 86 = .ok (.invokestatic 142, 3) := by decide +kernel
theorem dX11_later_89 : decode cX11_later 89 = .ok (.iload_n 3, 1) := by decide +kernel
theorem dX11_later_90 : decode cX11_later 90 = .ok (.iload 4, 2) := by decide +kernel
theorem dX11_later_92 : decode cX11_later 92 = .ok (.if_icmp .le 7, 3) := by decide +kernel
theorem dX11_later_95 : decode cX11_later 95 = .ok (.iload_n 1, 1) := by decide +kernel
theorem dX11_later_96 : decode cX11_later 96 = .ok (.goto 4, 3) := by decide +kernel
theorem dX11_later_99 : decode cX11_later 99 = .ok (.iload_n 2, 1) := by decide +kernel
theorem dX11_later_100 : decode cX11_later 100 = .ok (.ireturn, 1) := by decide +kernel
set_option maxRecDepth 20000 in
theorem ggX11_solvent_X11_isWithin : GoodIn wsX11_solvent wsX11_isWithin := goodIn_r _ [8] (by decide +kernel) (by decide +kernel)
set_option maxRecDepth 20000 in
theorem gX11_solvent_X11_isWithin : GoodIn wsX11_solvent (va_wsS RX11 91 yX11_isWithin wsX11_isWithin) := goodIn_app (goodIn_of _ (by decide +kernel)) ggX11_solvent_X11_isWithin
set_option maxRecDepth 20000 in
theorem ggX11_solvent_X11_demandArgument : GoodIn wsX11_solvent wsX11_demandArgument := goodIn_ca (goodIn_r _ [11, 12, 13] (by decide +kernel) (by decide +kernel)) (goodIn_sub (fun _ h => List.mem_cons_of_mem _ (List.mem_append_left _ (List.mem_append_right _ h))) (by decide +kernel))
set_option maxRecDepth 20000 in
theorem gX11_solvent_X11_demandArgument : GoodIn wsX11_solvent (va_wsS RX11 87 yX11_demandArgument wsX11_demandArgument) := goodIn_app (goodIn_of _ (by decide +kernel)) ggX11_solvent_X11_demandArgument
set_option maxRecDepth 20000 in
theorem ggX11_solvent_Jx4a65c_size_8abf5 : GoodIn wsX11_solvent wsJx4a65c_size_8abf5 := goodIn_r _ [18, 19, 104, 105, 106] (by decide +kernel) (by decide +kernel)
set_option maxRecDepth 20000 in
theorem gX11_solvent_Jx4a65c_size_8abf5 : GoodIn wsX11_solvent (wsV RX11 95 RJx4a65c yJx4a65c_size_8abf5 wsJx4a65c_size_8abf5) := goodIn_app (goodIn_of _ (by decide +kernel)) ggX11_solvent_Jx4a65c_size_8abf5
set_option maxRecDepth 20000 in
theorem ggX11_solvent_X11_demandRoom : GoodIn wsX11_solvent wsX11_demandRoom := goodIn_ca (goodIn_r _ [22, 23, 24] (by decide +kernel) (by decide +kernel)) (goodIn_sub (fun _ h => List.mem_cons_of_mem _ (List.mem_append_right _ h)) (by decide +kernel))
set_option maxRecDepth 20000 in
theorem gX11_solvent_X11_demandRoom : GoodIn wsX11_solvent (va_wsS RX11 99 yX11_demandRoom wsX11_demandRoom) := goodIn_app (goodIn_of _ (by decide +kernel)) ggX11_solvent_X11_demandRoom
set_option maxRecDepth 20000 in
theorem ggX11_solvent_X7_init : GoodIn wsX11_solvent wsX7_init := goodIn_r _ [27, 28, 29, 30, 31, 32, 101, 102, 103] (by decide +kernel) (by decide +kernel)
set_option maxRecDepth 20000 in
theorem gX11_solvent_X7_init : GoodIn wsX11_solvent (wsX7_init) := ggX11_solvent_X7_init
set_option maxRecDepth 20000 in
theorem ggX11_solvent_Jx4a65c_add_9ea2d : GoodIn wsX11_solvent wsJx4a65c_add_9ea2d := goodIn_r _ [36, 37, 38, 39, 19, 40, 41, 42, 17, 43, 44, 45, 46, 47, 48, 49, 50, 51, 52, 53, 54, 55, 56, 57, 58, 59, 60, 61, 62, 63, 64, 65, 66, 67, 68, 69, 70, 71, 72, 73, 74, 75, 76, 77, 78, 79, 80, 81, 82, 83, 84, 85, 86, 104, 105, 106] (by decide +kernel) (by decide +kernel)
set_option maxRecDepth 20000 in
theorem gX11_solvent_Jx4a65c_add_9ea2d : GoodIn wsX11_solvent (wsV RX11 127 RJx4a65c yJx4a65c_add_9ea2d wsJx4a65c_add_9ea2d) := goodIn_app (goodIn_of _ (by decide +kernel)) ggX11_solvent_Jx4a65c_add_9ea2d
theorem dX11_solvent_0 : decode cX11_solvent 0 = .ok (.iload_n 1, 1) := by decide +kernel
theorem dX11_solvent_1 : decode cX11_solvent 1 = .ok (.iconst 1, 1) := by decide +kernel
theorem dX11_solvent_2 : decode cX11_solvent 2 = .ok (.bipush 9, 2) := by decide +kernel
theorem dX11_solvent_4 : decode cX11_solvent 4 = .ok (.invokestatic 91, 3) := by decide +kernel
theorem dX11_solvent_7 : decode cX11_solvent 7 = .ok (.ifCond .eq 17, 3) := by decide +kernel
theorem dX11_solvent_10 : decode cX11_solvent 10 = .ok (.iload_n 2, 1) := by decide +kernel
theorem dX11_solvent_11 : decode cX11_solvent 11 = .ok (.iconst 1, 1) := by decide +kernel
theorem dX11_solvent_12 : decode cX11_solvent 12 = .ok (.bipush 20, 2) := by decide +kernel
theorem dX11_solvent_14 : decode cX11_solvent 14 = .ok (.invokestatic 91, 3) := by decide +kernel
theorem dX11_solvent_17 : decode cX11_solvent 17 = .ok (.ifCond .eq 7, 3) := by decide +kernel
theorem dX11_solvent_20 : decode cX11_solvent 20 = .ok (.iconst 1, 1) := by decide +kernel
theorem dX11_solvent_21 : decode cX11_solvent 21 = .ok (.goto 4, 3) := by decide +kernel
theorem dX11_solvent_24 : decode cX11_solvent 24 = .ok (.iconst 0, 1) := by decide +kernel
theorem dX11_solvent_25 : decode cX11_solvent 25 = .ok (.invokestatic 87, 3) := by decide +kernel
theorem dX11_solvent_28 : decode cX11_solvent 28 = .ok (.aload_n 0, 1) := by decide +kernel
theorem dX11_solvent_29 : decode cX11_solvent 29 = .ok (.getfield 16, 3) := by decide +kernel
theorem dX11_solvent_32 : decode cX11_solvent 32 = .ok (.invokevirtual 95, 3) := by decide +kernel
theorem dX11_solvent_35 : decode cX11_solvent 35 = .ok (.bipush 6, 2) := by decide +kernel
theorem dX11_solvent_37 : decode cX11_solvent 37 = .ok (.if_icmp .ge 7, 3) := by decide +kernel
theorem dX11_solvent_40 : decode cX11_solvent 40 = .ok (.iconst 1, 1) := by decide +kernel
theorem dX11_solvent_41 : decode cX11_solvent 41 = .ok (.goto 4, 3) := by decide +kernel
theorem dX11_solvent_44 : decode cX11_solvent 44 = .ok (.iconst 0, 1) := by decide +kernel
theorem dX11_solvent_45 : decode cX11_solvent 45 = .ok (.invokestatic 99, 3) := by decide +kernel
theorem dX11_solvent_48 : decode cX11_solvent 48 = .ok (.aload_n 0, 1) := by decide +kernel
theorem dX11_solvent_49 : decode cX11_solvent 49 = .ok (.getfield 16, 3) := by decide +kernel
theorem dX11_solvent_52 : decode cX11_solvent 52 = .ok (.new 313, 3) := by decide +kernel
theorem dX11_solvent_55 : decode cX11_solvent 55 = .ok (.dup, 1) := by decide +kernel
theorem dX11_solvent_56 : decode cX11_solvent 56 = .ok (.iload_n 1, 1) := by decide +kernel
theorem dX11_solvent_57 : decode cX11_solvent 57 = .ok (.iload_n 2, 1) := by decide +kernel
theorem dX11_solvent_58 : decode cX11_solvent 58 = .ok (.invokespecial 315, 3) := by decide +kernel
theorem dX11_solvent_61 : decode cX11_solvent 61 = .ok (.invokevirtual 127, 3) := by decide +kernel
theorem dX11_solvent_64 : decode cX11_solvent 64 = .ok (.pop, 1) := by decide +kernel
theorem dX11_solvent_65 : decode cX11_solvent 65 = .ok (.aload_n 0, 1) := by decide +kernel
theorem dX11_solvent_66 : decode cX11_solvent 66 = .ok (.getfield 16, 3) := by decide +kernel
theorem dX11_solvent_69 : decode cX11_solvent 69 = .ok (.invokevirtual 95, 3) := by decide +kernel
theorem dX11_solvent_72 : decode cX11_solvent 72 = .ok (.iconst 1, 1) := by decide +kernel
theorem dX11_solvent_73 : decode cX11_solvent 73 = .ok (.isub, 1) := by decide +kernel
theorem dX11_solvent_74 : decode cX11_solvent 74 = .ok (.ireturn, 1) := by decide +kernel
set_option maxRecDepth 20000 in
theorem ggX11_tested_Jx4a65c_size_8abf5 : GoodIn wsX11_tested wsJx4a65c_size_8abf5 := goodIn_r _ [8, 9, 50, 51, 52] (by decide +kernel) (by decide +kernel)
set_option maxRecDepth 20000 in
theorem gX11_tested_Jx4a65c_size_8abf5 : GoodIn wsX11_tested (wsV RX11 95 RJx4a65c yJx4a65c_size_8abf5 wsJx4a65c_size_8abf5) := goodIn_app (goodIn_of _ (by decide +kernel)) ggX11_tested_Jx4a65c_size_8abf5
set_option maxRecDepth 20000 in
theorem ggX11_tested_X11_demandIndex : GoodIn wsX11_tested wsX11_demandIndex := goodIn_ca (goodIn_r _ [13, 14, 15] (by decide +kernel) (by decide +kernel)) (goodIn_sub (fun _ h => List.mem_cons_of_mem _ (List.mem_append_right _ h)) (by decide +kernel))
set_option maxRecDepth 20000 in
theorem gX11_tested_X11_demandIndex : GoodIn wsX11_tested (va_wsS RX11 134 yX11_demandIndex wsX11_demandIndex) := goodIn_app (goodIn_of _ (by decide +kernel)) ggX11_tested_X11_demandIndex
set_option maxRecDepth 20000 in
theorem ggX11_tested_Jx4a65c_get_915e3 : GoodIn wsX11_tested wsJx4a65c_get_915e3 := goodIn_r _ [19, 9, 20, 21, 22, 23, 24, 25, 26, 27, 28, 29, 30, 7, 31, 32, 50, 51, 52] (by decide +kernel) (by decide +kernel)
set_option maxRecDepth 20000 in
theorem gX11_tested_Jx4a65c_get_915e3 : GoodIn wsX11_tested (wsV RX11 145 RJx4a65c yJx4a65c_get_915e3 wsJx4a65c_get_915e3) := goodIn_app (goodIn_of _ (by decide +kernel)) ggX11_tested_Jx4a65c_get_915e3
theorem dX11_tested_0 : decode cX11_tested 0 = .ok (.iload_n 1, 1) := by decide +kernel
theorem dX11_tested_1 : decode cX11_tested 1 = .ok (.aload_n 0, 1) := by decide +kernel
theorem dX11_tested_2 : decode cX11_tested 2 = .ok (.getfield 16, 3) := by decide +kernel
theorem dX11_tested_5 : decode cX11_tested 5 = .ok (.invokevirtual 95, 3) := by decide +kernel
theorem dX11_tested_8 : decode cX11_tested 8 = .ok (.invokestatic 134, 3) := by decide +kernel
theorem dX11_tested_11 : decode cX11_tested 11 = .ok (.aload_n 0, 1) := by decide +kernel
theorem dX11_tested_12 : decode cX11_tested 12 = .ok (.getfield 16, 3) := by decide +kernel
theorem dX11_tested_15 : decode cX11_tested 15 = .ok (.iload_n 1, 1) := by decide +kernel
theorem dX11_tested_16 : decode cX11_tested 16 = .ok (.invokevirtual 145, 3) := by decide +kernel
theorem dX11_tested_19 : decode cX11_tested 19 = .ok (.checkcast 313, 3) := by decide +kernel
theorem dX11_tested_22 : decode cX11_tested 22 = .ok (.getfield 317, 3) := by decide +kernel
theorem dX11_tested_25 : decode cX11_tested 25 = .ok (.ireturn, 1) := by decide +kernel
theorem dX11_sign_0 : decode cX11_sign 0 = .ok (.aload_n 0, 1) := by decide +kernel
theorem dX11_sign_1 : decode cX11_sign 1 = .ok (.getfield 320, 3) := by decide +kernel
theorem dX11_sign_4 : decode cX11_sign 4 = .ok (.istore_n 1, 1) := by decide +kernel
theorem dX11_sign_5 : decode cX11_sign 5 = .ok (.aload_n 0, 1) := by decide +kernel
theorem dX11_sign_6 : decode cX11_sign 6 = .ok (.iconst 1, 1) := by decide +kernel
theorem dX11_sign_7 : decode cX11_sign 7 = .ok (.putfield 320, 3) := by decide +kernel
theorem dX11_sign_10 : decode cX11_sign 10 = .ok (.iload_n 1, 1) := by decide +kernel
theorem dX11_sign_11 : decode cX11_sign 11 = .ok (.ifCond .ne 7, 3) := by decide +kernel
theorem dX11_sign_14 : decode cX11_sign 14 = .ok (.iconst 1, 1) := by decide +kernel
theorem dX11_sign_15 : decode cX11_sign 15 = .ok (.goto 4, 3) := by decide +kernel
theorem dX11_sign_18 : decode cX11_sign 18 = .ok (.iconst 0, 1) := by decide +kernel
theorem dX11_sign_19 : decode cX11_sign 19 = .ok (.ireturn, 1) := by decide +kernel
set_option maxRecDepth 20000 in
theorem ggX11_swab_Jx4a65c_size_8abf5 : GoodIn wsX11_swab wsJx4a65c_size_8abf5 := goodIn_r _ [21, 22, 471, 472, 473] (by decide +kernel) (by decide +kernel)
set_option maxRecDepth 20000 in
theorem gX11_swab_Jx4a65c_size_8abf5 : GoodIn wsX11_swab (wsV RX11 95 RJx4a65c yJx4a65c_size_8abf5 wsJx4a65c_size_8abf5) := goodIn_app (goodIn_of _ (by decide +kernel)) ggX11_swab_Jx4a65c_size_8abf5
set_option maxRecDepth 20000 in
theorem ggX11_swab_X11_demandIndex : GoodIn wsX11_swab wsX11_demandIndex := goodIn_ca (goodIn_r _ [26, 27, 28] (by decide +kernel) (by decide +kernel)) (goodIn_sub (fun _ h => List.mem_cons_of_mem _ (List.mem_append_left _ (List.mem_append_left _ (List.mem_append_left _ (List.mem_append_left _ (List.mem_append_right _ h)))))) (by decide +kernel))
set_option maxRecDepth 20000 in
theorem gX11_swab_X11_demandIndex : GoodIn wsX11_swab (va_wsS RX11 134 yX11_demandIndex wsX11_demandIndex) := goodIn_app (goodIn_of _ (by decide +kernel)) ggX11_swab_X11_demandIndex
set_option maxRecDepth 20000 in
theorem ggX11_swab_X11_demandPlace : GoodIn wsX11_swab wsX11_demandPlace := goodIn_ca (goodIn_r _ [31, 32, 33, 34, 35, 25, 36] (by decide +kernel) (by decide +kernel)) (goodIn_sub (fun _ h => List.mem_cons_of_mem _ (List.mem_append_left _ (List.mem_append_left _ (List.mem_append_left _ (List.mem_append_right _ h))))) (by decide +kernel))
set_option maxRecDepth 20000 in
theorem gX11_swab_X11_demandPlace : GoodIn wsX11_swab (va_wsS RX11 176 yX11_demandPlace wsX11_demandPlace) := goodIn_app (goodIn_of _ (by decide +kernel)) ggX11_swab_X11_demandPlace
set_option maxRecDepth 20000 in
theorem ggX11_swab_X11_isWithin : GoodIn wsX11_swab wsX11_isWithin := goodIn_r _ [39] (by decide +kernel) (by decide +kernel)
set_option maxRecDepth 20000 in
theorem gX11_swab_X11_isWithin : GoodIn wsX11_swab (va_wsS RX11 91 yX11_isWithin wsX11_isWithin) := goodIn_app (goodIn_of _ (by decide +kernel)) ggX11_swab_X11_isWithin
set_option maxRecDepth 20000 in
theorem ggX11_swab_X11_demandArgument : GoodIn wsX11_swab wsX11_demandArgument := goodIn_ca (goodIn_r _ [42, 32, 33] (by decide +kernel) (by decide +kernel)) (goodIn_sub (fun _ h => List.mem_cons_of_mem _ (List.mem_append_left _ (List.mem_append_left _ (List.mem_append_left _ (List.mem_append_right _ h))))) (by decide +kernel))
set_option maxRecDepth 20000 in
theorem gX11_swab_X11_demandArgument : GoodIn wsX11_swab (va_wsS RX11 87 yX11_demandArgument wsX11_demandArgument) := goodIn_app (goodIn_of _ (by decide +kernel)) ggX11_swab_X11_demandArgument
set_option maxRecDepth 20000 in
theorem ggX11_swab_Jx4a65c_get_915e3 : GoodIn wsX11_swab wsJx4a65c_get_915e3 := goodIn_r _ [46, 22, 47, 48, 49, 50, 51, 52, 53, 54, 55, 56, 57, 20, 58, 59, 471, 472, 473] (by decide +kernel) (by decide +kernel)
set_option maxRecDepth 20000 in
theorem gX11_swab_Jx4a65c_get_915e3 : GoodIn wsX11_swab (wsV RX11 145 RJx4a65c yJx4a65c_get_915e3 wsJx4a65c_get_915e3) := goodIn_app (goodIn_of _ (by decide +kernel)) ggX11_swab_Jx4a65c_get_915e3
set_option maxRecDepth 20000 in
theorem ggX11_swab_X0_init : GoodIn wsX11_swab wsX0_init := goodIn_r _ [62, 63, 64, 65, 66, 67, 68, 69, 70, 71, 72, 73, 74, 75, 76, 77, 78, 79, 80, 474, 475, 476, 456, 457, 458, 459, 460, 461, 462, 463, 464, 465, 466, 467] (by decide +kernel) (by decide +kernel)
set_option maxRecDepth 20000 in
theorem gX11_swab_X0_init : GoodIn wsX11_swab (wsX0_init) := ggX11_swab_X0_init
set_option maxRecDepth 20000 in
theorem ggX11_swab_X11_isHidden : GoodIn wsX11_swab wsX11_isHidden := goodIn_r _ [83] (by decide +kernel) (by decide +kernel)
set_option maxRecDepth 20000 in
theorem gX11_swab_X11_isHidden : GoodIn wsX11_swab (va_wsS RX11 331 yX11_isHidden wsX11_isHidden) := goodIn_app (goodIn_of _ (by decide +kernel)) ggX11_swab_X11_isHidden
set_option maxRecDepth 20000 in
theorem ggX11_swab_X11_isHarmless : GoodIn wsX11_swab wsX11_isHarmless := goodIn_r _ [87, 88, 89, 90, 8, 91, 10, 12, 92, 93, 94, 95, 96, 97, 98, 25, 99, 100, 101, 102, 103, 104, 105, 106, 107, 108, 109, 110, 15, 111, 112, 113, 114, 115, 116, 117, 118, 119, 120, 121, 122, 123, 124, 125, 126, 127, 128, 129, 130, 131, 132, 133, 134, 135, 136, 137, 138, 139, 140, 141, 142, 143, 144, 145, 146, 147, 14, 16, 148, 149, 150, 151, 152, 153, 154, 155, 156, 157, 158, 159, 160, 161, 162, 163, 164, 165, 166, 167, 168, 169, 170, 171, 172, 173, 174, 175, 176, 53, 177, 178, 179, 180, 181, 182, 183, 184, 185, 186, 187, 188, 189, 190, 191, 192, 193, 194, 195, 196, 197, 198, 199, 200, 201, 202, 203, 204, 205, 206, 442, 443, 444, 445, 446, 447, 448, 449, 450, 451, 452, 453, 454, 455, 456, 457, 458, 459, 460, 461, 462, 463, 464, 465, 466, 467, 468, 469, 470, 477, 478, 479, 480, 481, 482, 483, 484, 485, 486, 487, 488, 489, 490, 491, 492, 493, 494, 495, 496, 497, 498, 499, 500, 501, 502, 503, 504] (by decide +kernel) (by decide +kernel)
set_option maxRecDepth 20000 in
theorem gX11_swab_X11_isHarmless : GoodIn wsX11_swab (wsV RX11 334 RX11 yX11_isHarmless wsX11_isHarmless) := goodIn_app (goodIn_of _ (by decide +kernel)) ggX11_swab_X11_isHarmless
set_option maxRecDepth 20000 in
theorem ggX11_swab_X11_demandPossible : GoodIn wsX11_swab wsX11_demandPossible := goodIn_ca (goodIn_r _ [209, 210, 211] (by decide +kernel) (by decide +kernel)) (goodIn_sub (fun _ h => List.mem_cons_of_mem _ (List.mem_append_left _ (List.mem_append_left _ (List.mem_append_right _ h)))) (by decide +kernel))
set_option maxRecDepth 20000 in
theorem gX11_swab_X11_demandPossible : GoodIn wsX11_swab (va_wsS RX11 142 yX11_demandPossible wsX11_demandPossible) := goodIn_app (goodIn_of _ (by decide +kernel)) ggX11_swab_X11_demandPossible
set_option maxRecDepth 20000 in
theorem ggX11_swab_X11_enter : GoodIn wsX11_swab wsX11_enter := goodIn_ca (goodIn_ca (goodIn_ca (goodIn_r _ [215, 88, 216, 217, 218, 219, 95, 220, 221, 222, 223, 224, 225, 226, 227, 93, 94, 96, 97, 98, 25, 99, 228, 229, 230, 231, 232, 233, 234, 235, 236, 103, 237, 105, 238, 239, 240, 241, 242, 14, 15, 16, 243, 110, 111, 35, 36, 244, 245, 246, 247, 106, 108, 207, 208, 209, 210, 211, 17, 18, 19, 20, 21, 22, 248, 249, 250, 251, 252, 253, 254, 255, 256, 257, 258, 59, 259, 260, 261, 262, 263, 264, 265, 266, 267, 268, 269, 270, 271, 272, 273, 274, 275, 276, 277, 278, 279, 280, 281, 282, 283, 284, 285, 286, 287, 288, 289, 290, 291, 292, 293, 294, 295, 296, 297, 298, 299, 300, 301, 302, 303, 304, 305, 306, 307, 308, 309, 310, 311, 312, 313, 314, 315, 107, 316, 317, 318, 319, 320, 321, 322, 323, 324, 325, 326, 327, 328, 329, 330, 331, 332, 333, 334, 206, 335, 336, 337, 115, 338, 339, 340, 341, 342, 343, 344, 345, 346, 347, 348, 349, 350, 351, 352, 353, 354, 355, 356, 357, 358, 359, 360, 361, 109, 362, 363, 364, 365, 366, 367, 368, 369, 370, 371, 372, 373, 374, 375, 376, 377, 378, 379, 380, 381, 382, 383, 384, 385, 386, 387, 388, 389, 390, 391, 392, 393, 101, 102, 104, 112, 113, 114, 116, 117, 118, 119, 120, 121, 122, 123, 124, 125, 126, 127, 128, 129, 130, 131, 132, 133, 134, 135, 136, 137, 138, 139, 140, 141, 142, 143, 144, 145, 146, 147, 148, 149, 150, 151, 152, 153, 154, 155, 156, 157, 158, 159, 160, 161, 162, 163, 164, 165, 166, 167, 168, 169, 170, 171, 172, 173, 174, 175, 176, 53, 177, 178, 179, 180, 181, 182, 183, 184, 185, 186, 187, 188, 189, 190, 191, 192, 193, 194, 195, 196, 197, 198, 199, 200, 201, 394, 395, 396, 397, 398, 399, 400, 401, 402, 403, 404, 405, 406, 407, 408, 409, 410, 411, 412, 413, 414, 415, 416, 417, 418, 419, 420, 421, 422, 423, 424, 425, 426, 427, 428, 429, 430, 431, 432, 433, 434, 435, 436, 437, 438, 439, 440, 441, 442, 443, 444, 445, 446, 447, 448, 449, 450, 451, 452, 453, 454, 455, 456, 457, 458, 459, 460, 461, 462, 463, 464, 465, 466, 467, 482, 483, 484, 474, 475, 476, 477, 478, 479, 480, 481, 485, 486, 487, 488, 489, 471, 472, 473, 490, 491, 492, 493, 494, 495, 496, 497, 498, 499, 500, 501, 502, 503, 504] (by decide +kernel) (by decide +kernel)) (goodIn_sub (fun _ h => List.mem_cons_of_mem _ (List.mem_append_left _ (List.mem_append_right _ h))) (by decide +kernel))) (goodIn_sub (fun _ h => List.mem_cons_of_mem _ (List.mem_append_left _ (List.mem_append_left _ (List.mem_append_right _ h)))) (by decide +kernel))) (goodIn_sub (fun _ h => List.mem_cons_of_mem _ (List.mem_append_right _ h)) (by decide +kernel))
set_option maxRecDepth 20000 in
theorem gX11_swab_X11_enter : GoodIn wsX11_swab (wsV RX11 172 RX11 yX11_enter wsX11_enter) := goodIn_app (goodIn_of _ (by decide +kernel)) ggX11_swab_X11_enter
theorem dX11_swab_0 : decode cX11_swab 0 = .ok (.iload_n 1, 1) := by decide +kernel
theorem dX11_swab_1 : decode cX11_swab 1 = .ok (.aload_n 0, 1) := by decide +kernel
theorem dX11_swab_2 : decode cX11_swab 2 = .ok (.getfield 16, 3) := by decide +kernel
theorem dX11_swab_5 : decode cX11_swab 5 = .ok (.invokevirtual 95, 3) := by decide +kernel
theorem dX11_swab_8 : decode cX11_swab 8 = .ok (.invokestatic 134, 3) := by decide +kernel
theorem dX11_swab_11 : decode cX11_swab 11 = .ok (.iload_n 2, 1) := by decide +kernel
theorem dX11_swab_12 : decode cX11_swab 12 = .ok (.iload_n 3, 1) := by decide +kernel
theorem dX11_swab_13 : decode cX11_swab 13 = .ok (.invokestatic 176, 3) := by decide +kernel
theorem dX11_swab_16 : decode cX11_swab 16 = .ok (.iload 4, 2) := by decide +kernel
theorem dX11_swab_18 : decode cX11_swab 18 = .ok (.iconst 1, 1) := by decide +kernel
theorem dX11_swab_19 : decode cX11_swab 19 = .ok (.bipush 60, 2) := by decide +kernel
theorem dX11_swab_21 : decode cX11_swab 21 = .ok (.invokestatic 91, 3) := by decide +kernel
theorem dX11_swab_24 : decode cX11_swab 24 = .ok (.invokestatic 87, 3) := by decide +kernel
theorem dX11_swab_27 : decode cX11_swab 27 = .ok (.aload_n 0, 1) := by decide +kernel
theorem dX11_swab_28 : decode cX11_swab 28 = .ok (.getfield 16, 3) := by decide +kernel
theorem dX11_swab_31 : decode cX11_swab 31 = .ok (.iload_n 1, 1) := by decide +kernel
theorem dX11_swab_32 : decode cX11_swab 32 = .ok (.invokevirtual 145, 3) := by decide +kernel
theorem dX11_swab_35 : decode cX11_swab 35 = .ok (.checkcast 313, 3) := by decide +kernel
theorem dX11_swab_38 : decode cX11_swab 38 = .ok (.astore 5, 2) := by decide +kernel
theorem dX11_swab_40 : decode cX11_swab 40 = .ok (.new 161, 3) := by decide +kernel
theorem dX11_swab_43 : decode cX11_swab 43 = .ok (.dup, 1) := by decide +kernel
theorem dX11_swab_44 : decode cX11_swab 44 = .ok (.bipush 119, 2) := by decide +kernel
theorem dX11_swab_46 : decode cX11_swab 46 = .ok (.aload_n 0, 1) := by decide +kernel
theorem dX11_swab_47 : decode cX11_swab 47 = .ok (.getfield 55, 3) := by decide +kernel
theorem dX11_swab_50 : decode cX11_swab 50 = .ok (.iload 4, 2) := by decide +kernel
theorem dX11_swab_52 : decode cX11_swab 52 = .ok (.iload_n 2, 1) := by decide +kernel
theorem dX11_swab_53 : decode cX11_swab 53 = .ok (.iload_n 3, 1) := by decide +kernel
theorem dX11_swab_54 : decode cX11_swab 54 = .ok (.invokespecial 163, 3) := by decide +kernel
theorem dX11_swab_57 : decode cX11_swab 57 = .ok (.astore 6, 2) := by decide +kernel
theorem dX11_swab_59 : decode cX11_swab 59 = .ok (.aload 6, 2) := by decide +kernel
theorem dX11_swab_61 : decode cX11_swab 61 = .ok (.aload 5, 2) := by decide +kernel
theorem dX11_swab_63 : decode cX11_swab 63 = .ok (.getfield 323, 3) := by decide +kernel
theorem dX11_swab_66 : decode cX11_swab 66 = .ok (.putfield 326, 3) := by decide +kernel
theorem dX11_swab_69 : decode cX11_swab 69 = .ok (.aload 6, 2) := by decide +kernel
theorem dX11_swab_71 : decode cX11_swab 71 = .ok (.aload 5, 2) := by decide +kernel
theorem dX11_swab_73 : decode cX11_swab 73 = .ok (.getfield 327, 3) := by decide +kernel
theorem dX11_swab_76 : decode cX11_swab 76 = .ok (.putfield 330, 3) := by decide +kernel
theorem dX11_swab_79 : decode cX11_swab 79 = .ok (.iload_n 2, 1) := by decide +kernel
theorem dX11_swab_80 : decode cX11_swab 80 = .ok (.iload_n 3, 1) := by decide +kernel
theorem dX11_swab_81 : decode cX11_swab 81 = .ok (.invokestatic 331, 3) := by decide +kernel
theorem dX11_swab_84 : decode cX11_swab 84 = .ok (.ifCond .ne 21, 3) := by decide +kernel
theorem dX11_swab_87 : decode cX11_swab 87 = .ok (.aload_n 0, 1) := by decide +kernel
theorem dX11_swab_88 : decode cX11_swab 88 = .ok (.getfield 320, 3) := by decide +kernel
theorem dX11_swab_91 : decode cX11_swab 91 = .ok (.ifCond .ne 14, 3) := by decide +kernel
theorem dX11_swab_94 : decode cX11_swab 94 = .ok (.aload_n 0, 1) := by decide +kernel
theorem dX11_swab_95 : decode cX11_swab 95 = .ok (.aload 5, 2) := by decide +kernel
theorem dX11_swab_97 : decode cX11_swab 97 = .ok (.aload 6, 2) := by decide +kernel
theorem dX11_swab_99 : decode cX11_swab 99 = .ok (.invokevirtual 334, 3) := by decide +kernel
theorem dX11_swab_102 : decode cX11_swab 102 = .ok (.ifCond .eq 7, 3) := by decide +kernel
theorem dX11_swab_105 : decode cX11_swab 105 = .ok (.iconst 1, 1) := by decide +kernel
theorem dX11_swab_106 : decode cX11_swab 106 = .ok (.goto 4, 3) := by decide +kernel
theorem dX11_swab_109 : decode cX11_swab 109 = .ok (.iconst 0, 1) := by decide +kernel
theorem dX11_swab_110 : decode cX11_swab 110 = .ok (.invokestatic 142, 3) := by decide +kernel
theorem dX11_swab_113 : decode cX11_swab 113 = .ok (.aload_n 0, 1) := by decide +kernel
theorem dX11_swab_114 : decode cX11_swab 114 = .ok (.aload 6, 2) := by decide +kernel
theorem dX11_swab_116 : decode cX11_swab 116 = .ok (.invokevirtual 172, 3) := by decide +kernel
theorem dX11_swab_119 : decode cX11_swab 119 = .ok (.istore 7, 2) := by decide +kernel
theorem dX11_swab_121 : decode cX11_swab 121 = .ok (.iload_n 2, 1) := by decide +kernel
theorem dX11_swab_122 : decode cX11_swab 122 = .ok (.iload_n 3, 1) := by decide +kernel
theorem dX11_swab_123 : decode cX11_swab 123 = .ok (.invokestatic 331, 3) := by decide +kernel
theorem dX11_swab_126 : decode cX11_swab 126 = .ok (.ifCond .eq 21, 3) := by decide +kernel
theorem dX11_swab_129 : decode cX11_swab 129 = .ok (.aload 5, 2) := by decide +kernel
theorem dX11_swab_131 : decode cX11_swab 131 = .ok (.aload 5, 2) := by decide +kernel
theorem dX11_swab_133 : decode cX11_swab 133 = .ok (.getfield 317, 3) := by decide +kernel
theorem dX11_swab_136 : decode cX11_swab 136 = .ok (.iload 7, 2) := by decide +kernel
theorem dX11_swab_138 : decode cX11_swab 138 = .ok (.invokestatic 338, 3) := by decide +kernel
theorem dX11_swab_141 : decode cX11_swab 141 = .ok (.putfield 317, 3) := by decide +kernel
theorem dX11_swab_144 : decode cX11_swab 144 = .ok (.goto 8, 3) := by decide +kernel
theorem dX11_swab_147 : decode cX11_swab 147 = .ok (.aload_n 0, 1) := by decide +kernel
theorem dX11_swab_148 : decode cX11_swab 148 = .ok (.iconst 0, 1) := by decide +kernel
theorem dX11_swab_149 : decode cX11_swab 149 = .ok (.putfield 320, 3) := by decide +kernel
theorem dX11_swab_152 : decode cX11_swab 152 = .ok (.iload 7, 2) := by decide +kernel
theorem dX11_swab_154 : decode cX11_swab 154 = .ok (.ireturn, 1) := by decide +kernel
set_option maxRecDepth 20000 in
theorem ggX11_fill_Jx4a65c_size_8abf5 : GoodIn wsX11_fill wsJx4a65c_size_8abf5 := goodIn_r _ [11, 12, 453, 454, 455] (by decide +kernel) (by decide +kernel)
set_option maxRecDepth 20000 in
theorem gX11_fill_Jx4a65c_size_8abf5 : GoodIn wsX11_fill (wsV RX11 95 RJx4a65c yJx4a65c_size_8abf5 wsJx4a65c_size_8abf5) := goodIn_app (goodIn_of _ (by decide +kernel)) ggX11_fill_Jx4a65c_size_8abf5
set_option maxRecDepth 20000 in
theorem ggX11_fill_X11_demandIndex : GoodIn wsX11_fill wsX11_demandIndex := goodIn_ca (goodIn_r _ [16, 17, 18] (by decide +kernel) (by decide +kernel)) (goodIn_sub (fun _ h => List.mem_cons_of_mem _ (List.mem_append_left _ (List.mem_append_left _ (List.mem_append_left _ (List.mem_append_left _ (List.mem_append_right _ h)))))) (by decide +kernel))
set_option maxRecDepth 20000 in
theorem gX11_fill_X11_demandIndex : GoodIn wsX11_fill (va_wsS RX11 134 yX11_demandIndex wsX11_demandIndex) := goodIn_app (goodIn_of _ (by decide +kernel)) ggX11_fill_X11_demandIndex
set_option maxRecDepth 20000 in
theorem ggX11_fill_Jx4a65c_get_915e3 : GoodIn wsX11_fill wsJx4a65c_get_915e3 := goodIn_r _ [22, 12, 23, 24, 25, 26, 27, 28, 29, 30, 31, 32, 33, 10, 34, 35, 453, 454, 455] (by decide +kernel) (by decide +kernel)
set_option maxRecDepth 20000 in
theorem gX11_fill_Jx4a65c_get_915e3 : GoodIn wsX11_fill (wsV RX11 145 RJx4a65c yJx4a65c_get_915e3 wsJx4a65c_get_915e3) := goodIn_app (goodIn_of _ (by decide +kernel)) ggX11_fill_Jx4a65c_get_915e3
set_option maxRecDepth 20000 in
theorem ggX11_fill_X11_demandArgument : GoodIn wsX11_fill wsX11_demandArgument := goodIn_ca (goodIn_r _ [38, 39, 40] (by decide +kernel) (by decide +kernel)) (goodIn_sub (fun _ h => List.mem_cons_of_mem _ (List.mem_append_left _ (List.mem_append_left _ (List.mem_append_left _ (List.mem_append_right _ h))))) (by decide +kernel))
set_option maxRecDepth 20000 in
theorem gX11_fill_X11_demandArgument : GoodIn wsX11_fill (va_wsS RX11 87 yX11_demandArgument wsX11_demandArgument) := goodIn_app (goodIn_of _ (by decide +kernel)) ggX11_fill_X11_demandArgument
set_option maxRecDepth 20000 in
theorem ggX11_fill_X11_demandPlace : GoodIn wsX11_fill wsX11_demandPlace := goodIn_ca (goodIn_r _ [43, 39, 40, 44, 45, 15, 46] (by decide +kernel) (by decide +kernel)) (goodIn_sub (fun _ h => List.mem_cons_of_mem _ (List.mem_append_left _ (List.mem_append_left _ (List.mem_append_left _ (List.mem_append_right _ h))))) (by decide +kernel))
set_option maxRecDepth 20000 in
theorem gX11_fill_X11_demandPlace : GoodIn wsX11_fill (va_wsS RX11 176 yX11_demandPlace wsX11_demandPlace) := goodIn_app (goodIn_of _ (by decide +kernel)) ggX11_fill_X11_demandPlace
set_option maxRecDepth 20000 in
theorem ggX11_fill_X0_init : GoodIn wsX11_fill wsX0_init := goodIn_r _ [49, 50, 51, 52, 53, 54, 55, 56, 57, 58, 59, 60, 61, 62, 63, 64, 65, 66, 67, 456, 457, 458, 441, 442, 443, 444, 445, 446, 447, 448, 449, 450, 451, 452] (by decide +kernel) (by decide +kernel)
set_option maxRecDepth 20000 in
theorem gX11_fill_X0_init : GoodIn wsX11_fill (wsX0_init) := ggX11_fill_X0_init
set_option maxRecDepth 20000 in
theorem ggX11_fill_X11_enter : GoodIn wsX11_fill wsX11_enter := goodIn_ca (goodIn_ca (goodIn_ca (goodIn_r _ [71, 72, 73, 74, 75, 76, 77, 78, 79, 80, 81, 82, 83, 84, 85, 86, 87, 88, 89, 90, 15, 91, 92, 93, 94, 95, 96, 97, 98, 99, 100, 101, 102, 103, 104, 105, 106, 107, 108, 109, 110, 111, 112, 113, 114, 45, 46, 115, 116, 117, 118, 119, 120, 121, 122, 123, 124, 125, 7, 8, 9, 10, 11, 12, 126, 127, 128, 129, 130, 131, 132, 133, 134, 135, 136, 35, 137, 138, 139, 140, 141, 142, 143, 144, 145, 146, 147, 148, 149, 150, 151, 152, 153, 154, 155, 156, 157, 158, 159, 160, 161, 162, 163, 164, 165, 166, 167, 168, 169, 170, 171, 172, 173, 174, 175, 176, 177, 178, 179, 180, 181, 182, 183, 184, 185, 186, 187, 188, 189, 190, 191, 192, 193, 194, 195, 196, 197, 198, 199, 200, 201, 202, 203, 204, 205, 206, 207, 208, 209, 210, 211, 212, 213, 214, 215, 216, 217, 218, 219, 220, 221, 222, 223, 224, 225, 226, 227, 228, 229, 230, 231, 232, 233, 234, 235, 236, 237, 238, 239, 240, 241, 242, 243, 244, 245, 246, 247, 248, 249, 250, 251, 252, 253, 254, 255, 256, 257, 258, 259, 260, 261, 262, 263, 264, 265, 266, 267, 268, 269, 270, 271, 272, 273, 274, 275, 276, 277, 278, 279, 280, 281, 282, 283, 284, 285, 286, 287, 288, 289, 290, 291, 292, 293, 294, 295, 296, 297, 298, 299, 300, 301, 302, 303, 304, 305, 306, 307, 308, 309, 310, 311, 312, 313, 314, 315, 316, 317, 318, 319, 320, 321, 322, 323, 324, 325, 326, 327, 328, 329, 330, 331, 332, 333, 334, 335, 336, 337, 338, 339, 340, 341, 342, 29, 343, 344, 345, 346, 347, 348, 349, 350, 351, 352, 353, 354, 355, 356, 357, 358, 359, 360, 361, 362, 363, 364, 365, 366, 367, 368, 369, 370, 371, 372, 373, 374, 375, 376, 377, 378, 379, 380, 381, 382, 383, 384, 385, 386, 387, 388, 389, 390, 391, 392, 393, 394, 395, 396, 397, 398, 399, 400, 401, 402, 403, 404, 405, 406, 407, 408, 409, 410, 411, 412, 413, 414, 415, 416, 417, 418, 419, 420, 421, 422, 423, 424, 425, 426, 427, 428, 429, 441, 442, 443, 444, 445, 446, 447, 448, 449, 450, 451, 452, 459, 460, 461, 456, 457, 458, 462, 463, 464, 465, 466, 467, 468, 469, 470, 471, 453, 454, 455, 430, 431, 432, 433, 434, 435, 436, 437, 438, 439, 440, 472, 473, 474, 475] (by decide +kernel) (by decide +kernel)) (goodIn_sub (fun _ h => List.mem_cons_of_mem _ (List.mem_append_left _ (List.mem_append_left _ (List.mem_append_right _ h)))) (by decide +kernel))) (goodIn_sub (fun _ h => List.mem_cons_of_mem _ (List.mem_append_left _ (List.mem_append_right _ h))) (by decide +kernel))) (goodIn_sub (fun _ h => List.mem_cons_of_mem _ (List.mem_append_right _ h)) (by decide +kernel))
set_option maxRecDepth 20000 in
theorem gX11_fill_X11_enter : GoodIn wsX11_fill (wsV RX11 172 RX11 yX11_enter wsX11_enter) := goodIn_app (goodIn_of _ (by decide +kernel)) ggX11_fill_X11_enter
theorem dX11_fill_0 : decode cX11_fill 0 = .ok (.iload_n 1, 1) := by decide +kernel
theorem dX11_fill_1 : decode cX11_fill 1 = .ok (.aload_n 0, 1) := by decide +kernel
theorem dX11_fill_2 : decode cX11_fill 2 = .ok (.getfield 10, 3) := by decide +kernel
theorem dX11_fill_5 : decode cX11_fill 5 = .ok (.invokevirtual 95, 3) := by decide +kernel
theorem dX11_fill_8 : decode cX11_fill 8 = .ok (.invokestatic 134, 3) := by decide +kernel
theorem dX11_fill_11 : decode cX11_fill 11 = .ok (.aload_n 0, 1) := by decide +kernel
theorem dX11_fill_12 : decode cX11_fill 12 = .ok (.getfield 10, 3) := by decide +kernel
theorem dX11_fill_15 : decode cX11_fill 15 = .ok (.iload_n 1, 1) := by decide +kernel
theorem dX11_fill_16 : decode cX11_fill 16 = .ok (.invokevirtual 145, 3) := by decide +kernel
theorem dX11_fill_19 : decode cX11_fill 19 = .ok (.checkcast 50, 3) := by decide +kernel
theorem dX11_fill_22 : decode cX11_fill 22 = .ok (.getfield 341, 3) := by decide +kernel
theorem dX11_fill_25 : decode cX11_fill 25 = .ok (.bipush 102, 2) := by decide +kernel
theorem dX11_fill_27 : decode cX11_fill 27 = .ok (.if_icmp .ne 7, 3) := by decide +kernel
theorem dX11_fill_30 : decode cX11_fill 30 = .ok (.iconst 1, 1) := by decide +kernel
theorem dX11_fill_31 : decode cX11_fill 31 = .ok (.goto 4, 3) := by decide +kernel
theorem dX11_fill_34 : decode cX11_fill 34 = .ok (.iconst 0, 1) := by decide +kernel
theorem dX11_fill_35 : decode cX11_fill 35 = .ok (.invokestatic 87, 3) := by decide +kernel
theorem dX11_fill_38 : decode cX11_fill 38 = .ok (.iload_n 2, 1) := by decide +kernel
theorem dX11_fill_39 : decode cX11_fill 39 = .ok (.iload_n 3, 1) := by decide +kernel
theorem dX11_fill_40 : decode cX11_fill 40 = .ok (.invokestatic 176, 3) := by decide +kernel
theorem dX11_fill_43 : decode cX11_fill 43 = .ok (.aload_n 0, 1) := by decide +kernel
theorem dX11_fill_44 : decode cX11_fill 44 = .ok (.new 161, 3) := by decide +kernel
theorem dX11_fill_47 : decode cX11_fill 47 = .ok (.dup, 1) := by decide +kernel
theorem dX11_fill_48 : decode cX11_fill 48 = .ok (.bipush 102, 2) := by decide +kernel
theorem dX11_fill_50 : decode cX11_fill 50 = .ok (.aload_n 0, 1) := by decide +kernel
theorem dX11_fill_51 : decode cX11_fill 51 = .ok (.getfield 10, 3) := by decide +kernel
theorem dX11_fill_54 : decode cX11_fill 54 = .ok (.iload_n 1, 1) := by decide +kernel
theorem dX11_fill_55 : decode cX11_fill 55 = .ok (.invokevirtual 145, 3) := by decide +kernel
theorem dX11_fill_58 : decode cX11_fill 58 = .ok (.checkcast 50, 3) := by decide +kernel
theorem dX11_fill_61 : decode cX11_fill 61 = .ok (.iconst 0, 1) := by decide +kernel
theorem dX11_fill_62 : decode cX11_fill 62 = .ok (.iload_n 2, 1) := by decide +kernel
theorem dX11_fill_63 : decode cX11_fill 63 = .ok (.iload_n 3, 1) := by decide +kernel
theorem dX11_fill_64 : decode cX11_fill 64 = .ok (.invokespecial 163, 3) := by decide +kernel
theorem dX11_fill_67 : decode cX11_fill 67 = .ok (.invokevirtual 172, 3) := by decide +kernel
theorem dX11_fill_70 : decode cX11_fill 70 = .ok (.ireturn, 1) := by decide +kernel
set_option maxRecDepth 20000 in
theorem ggX11_retouch_Jx4a65c_size_8abf5 : GoodIn wsX11_retouch wsJx4a65c_size_8abf5 := goodIn_r _ [11, 12, 456, 457, 458] (by decide +kernel) (by decide +kernel)
set_option maxRecDepth 20000 in
theorem gX11_retouch_Jx4a65c_size_8abf5 : GoodIn wsX11_retouch (wsV RX11 95 RJx4a65c yJx4a65c_size_8abf5 wsJx4a65c_size_8abf5) := goodIn_app (goodIn_of _ (by decide +kernel)) ggX11_retouch_Jx4a65c_size_8abf5
set_option maxRecDepth 20000 in
theorem ggX11_retouch_X11_demandIndex : GoodIn wsX11_retouch wsX11_demandIndex := goodIn_ca (goodIn_r _ [16, 17, 18] (by decide +kernel) (by decide +kernel)) (goodIn_sub (fun _ h => List.mem_cons_of_mem _ (List.mem_append_left _ (List.mem_append_left _ (List.mem_append_left _ (List.mem_append_left _ (List.mem_append_right _ h)))))) (by decide +kernel))
set_option maxRecDepth 20000 in
theorem gX11_retouch_X11_demandIndex : GoodIn wsX11_retouch (va_wsS RX11 134 yX11_demandIndex wsX11_demandIndex) := goodIn_app (goodIn_of _ (by decide +kernel)) ggX11_retouch_X11_demandIndex
set_option maxRecDepth 20000 in
theorem ggX11_retouch_Jx4a65c_get_915e3 : GoodIn wsX11_retouch wsJx4a65c_get_915e3 := goodIn_r _ [22, 12, 23, 24, 25, 26, 27, 28, 29, 30, 31, 32, 33, 10, 34, 35, 456, 457, 458] (by decide +kernel) (by decide +kernel)
set_option maxRecDepth 20000 in
theorem gX11_retouch_Jx4a65c_get_915e3 : GoodIn wsX11_retouch (wsV RX11 145 RJx4a65c yJx4a65c_get_915e3 wsJx4a65c_get_915e3) := goodIn_app (goodIn_of _ (by decide +kernel)) ggX11_retouch_Jx4a65c_get_915e3
set_option maxRecDepth 20000 in
theorem ggX11_retouch_X11_isWithin : GoodIn wsX11_retouch wsX11_isWithin := goodIn_r _ [38] (by decide +kernel) (by decide +kernel)
set_option maxRecDepth 20000 in
theorem gX11_retouch_X11_isWithin : GoodIn wsX11_retouch (va_wsS RX11 91 yX11_isWithin wsX11_isWithin) := goodIn_app (goodIn_of _ (by decide +kernel)) ggX11_retouch_X11_isWithin
set_option maxRecDepth 20000 in
theorem ggX11_retouch_X11_demandArgument : GoodIn wsX11_retouch wsX11_demandArgument := goodIn_ca (goodIn_r _ [41, 42, 43] (by decide +kernel) (by decide +kernel)) (goodIn_sub (fun _ h => List.mem_cons_of_mem _ (List.mem_append_left _ (List.mem_append_left _ (List.mem_append_left _ (List.mem_append_right _ h))))) (by decide +kernel))
set_option maxRecDepth 20000 in
theorem gX11_retouch_X11_demandArgument : GoodIn wsX11_retouch (va_wsS RX11 87 yX11_demandArgument wsX11_demandArgument) := goodIn_app (goodIn_of _ (by decide +kernel)) ggX11_retouch_X11_demandArgument
set_option maxRecDepth 20000 in
theorem ggX11_retouch_X11_demandPlace : GoodIn wsX11_retouch wsX11_demandPlace := goodIn_ca (goodIn_r _ [46, 42, 43, 47, 48, 15, 49] (by decide +kernel) (by decide +kernel)) (goodIn_sub (fun _ h => List.mem_cons_of_mem _ (List.mem_append_left _ (List.mem_append_left _ (List.mem_append_left _ (List.mem_append_right _ h))))) (by decide +kernel))
set_option maxRecDepth 20000 in
theorem gX11_retouch_X11_demandPlace : GoodIn wsX11_retouch (va_wsS RX11 176 yX11_demandPlace wsX11_demandPlace) := goodIn_app (goodIn_of _ (by decide +kernel)) ggX11_retouch_X11_demandPlace
set_option maxRecDepth 20000 in
theorem ggX11_retouch_X0_init : GoodIn wsX11_retouch wsX0_init := goodIn_r _ [52, 53, 54, 55, 56, 57, 58, 59, 60, 61, 62, 63, 64, 65, 66, 67, 68, 69, 70, 459, 460, 461, 444, 445, 446, 447, 448, 449, 450, 451, 452, 453, 454, 455] (by decide +kernel) (by decide +kernel)
set_option maxRecDepth 20000 in
theorem gX11_retouch_X0_init : GoodIn wsX11_retouch (wsX0_init) := ggX11_retouch_X0_init
set_option maxRecDepth 20000 in
theorem ggX11_retouch_X11_enter : GoodIn wsX11_retouch wsX11_enter := goodIn_ca (goodIn_ca (goodIn_ca (goodIn_r _ [74, 75, 76, 77, 78, 79, 80, 81, 82, 83, 84, 85, 86, 87, 88, 89, 90, 91, 92, 93, 15, 94, 95, 96, 97, 98, 99, 100, 101, 102, 103, 104, 105, 106, 107, 108, 109, 110, 111, 112, 113, 114, 115, 116, 117, 48, 49, 118, 119, 120, 121, 122, 123, 124, 125, 126, 127, 128, 7, 8, 9, 10, 11, 12, 129, 130, 131, 132, 133, 134, 135, 136, 137, 138, 139, 35, 140, 141, 142, 143, 144, 145, 146, 147, 148, 149, 150, 151, 152, 153, 154, 155, 156, 157, 158, 159, 160, 161, 162, 163, 164, 165, 166, 167, 168, 169, 170, 171, 172, 173, 174, 175, 176, 177, 178, 179, 180, 181, 182, 183, 184, 185, 186, 187, 188, 189, 190, 191, 192, 193, 194, 195, 196, 197, 198, 199, 200, 201, 202, 203, 204, 205, 206, 207, 208, 209, 210, 211, 212, 213, 214, 215, 216, 217, 218, 219, 220, 221, 222, 223, 224, 225, 226, 227, 228, 229, 230, 231, 232, 233, 234, 235, 236, 237, 238, 239, 240, 241, 242, 243, 244, 245, 246, 247, 248, 249, 250, 251, 252, 253, 254, 255, 256, 257, 258, 259, 260, 261, 262, 263, 264, 265, 266, 267, 268, 269, 270, 271, 272, 273, 274, 275, 276, 277, 278, 279, 280, 281, 282, 283, 284, 285, 286, 287, 288, 289, 290, 291, 292, 293, 294, 295, 296, 297, 298, 299, 300, 301, 302, 303, 304, 305, 306, 307, 308, 309, 310, 311, 312, 313, 314, 315, 316, 317, 318, 319, 320, 321, 322, 323, 324, 325, 326, 327, 328, 329, 330, 331, 332, 333, 334, 335, 336, 337, 338, 339, 340, 341, 342, 343, 344, 345, 29, 346, 347, 348, 349, 350, 351, 352, 353, 354, 355, 356, 357, 358, 359, 360, 361, 362, 363, 364, 365, 366, 367, 368, 369, 370, 371, 372, 373, 374, 375, 376, 377, 378, 379, 380, 381, 382, 383, 384, 385, 386, 387, 388, 389, 390, 391, 392, 393, 394, 395, 396, 397, 398, 399, 400, 401, 402, 403, 404, 405, 406, 407, 408, 409, 410, 411, 412, 413, 414, 415, 416, 417, 418, 419, 420, 421, 422, 423, 424, 425, 426, 427, 428, 429, 430, 431, 432, 444, 445, 446, 447, 448, 449, 450, 451, 452, 453, 454, 455, 462, 463, 464, 459, 460, 461, 465, 466, 467, 468, 469, 470, 471, 472, 473, 474, 456, 457, 458, 433, 434, 435, 436, 437, 438, 439, 440, 441, 442, 443, 475, 476, 477, 478] (by decide +kernel) (by decide +kernel)) (goodIn_sub (fun _ h => List.mem_cons_of_mem _ (List.mem_append_left _ (List.mem_append_left _ (List.mem_append_right _ h)))) (by decide +kernel))) (goodIn_sub (fun _ h => List.mem_cons_of_mem _ (List.mem_append_left _ (List.mem_append_right _ h))) (by decide +kernel))) (goodIn_sub (fun _ h => List.mem_cons_of_mem _ (List.mem_append_right _ h)) (by decide +kernel))
set_option maxRecDepth 20000 in
theorem gX11_retouch_X11_enter : GoodIn wsX11_retouch (wsV RX11 172 RX11 yX11_enter wsX11_enter) := goodIn_app (goodIn_of _ (by decide +kernel)) ggX11_retouch_X11_enter
theorem dX11_retouch_0 : decode cX11_retouch 0 = .ok (.iload_n 1, 1) := by decide +kernel
theorem dX11_retouch_1 : decode cX11_retouch 1 = .ok (.aload_n 0, 1) := by decide +kernel
theorem dX11_retouch_2 : decode cX11_retouch 2 = .ok (.getfield 10, 3) := by decide +kernel
theorem dX11_retouch_5 : decode cX11_retouch 5 = .ok (.invokevirtual 95, 3) := by decide +kernel
theorem dX11_retouch_8 : decode cX11_retouch 8 = .ok (.invokestatic 134, 3) := by decide +kernel
theorem dX11_retouch_11 : decode cX11_retouch 11 = .ok (.aload_n 0, 1) := by decide +kernel
theorem dX11_retouch_12 : decode cX11_retouch 12 = .ok (.getfield 10, 3) := by decide +kernel
theorem dX11_retouch_15 : decode cX11_retouch 15 = .ok (.iload_n 1, 1) := by decide +kernel
theorem dX11_retouch_16 : decode cX11_retouch 16 = .ok (.invokevirtual 145, 3) := by decide +kernel
theorem dX11_retouch_19 : decode cX11_retouch 19 = .ok (.checkcast 50, 3) := by decide +kernel
theorem dX11_retouch_22 : decode cX11_retouch 22 = .ok (.getfield 341, 3) := by decide +kernel
theorem dX11_retouch_25 : decode cX11_retouch 25 = .ok (.bipush 114, 2) := by decide +kernel
theorem dX11_retouch_27 : decode cX11_retouch 27 = .ok (.if_icmp .ne 18, 3) := by decide +kernel
theorem dX11_retouch_30 : decode cX11_retouch 30 = .ok (.iload 4, 2) := by decide +kernel
theorem dX11_retouch_32 : decode cX11_retouch 32 = .ok (.iconst 0, 1) := by decide +kernel
theorem dX11_retouch_33 : decode cX11_retouch 33 = .ok (.bipush 99, 2) := by decide +kernel
theorem dX11_retouch_35 : decode cX11_retouch 35 = .ok (.invokestatic 91, 3) := by decide +kernel
theorem dX11_retouch_38 : decode cX11_retouch 38 = .ok (.ifCond .eq 7, 3) := by decide +kernel
theorem dX11_retouch_41 : decode cX11_retouch 41 = .ok (.iconst 1, 1) := by decide +kernel
theorem dX11_retouch_42 : decode cX11_retouch 42 = .ok (.goto 4, 3) := by decide +kernel
theorem dX11_retouch_45 : decode cX11_retouch 45 = .ok (.iconst 0, 1) := by decide +kernel
theorem dX11_retouch_46 : decode cX11_retouch 46 = .ok (.invokestatic 87, 3) := by decide +kernel
theorem dX11_retouch_49 : decode cX11_retouch 49 = .ok (.iload_n 2, 1) := by decide +kernel
theorem dX11_retouch_50 : decode cX11_retouch 50 = .ok (.iload_n 3, 1) := by decide +kernel
theorem dX11_retouch_51 : decode cX11_retouch 51 = .ok (.invokestatic 176, 3) := by decide +kernel
theorem dX11_retouch_54 : decode cX11_retouch 54 = .ok (.aload_n 0, 1) := by decide +kernel
theorem dX11_retouch_55 : decode cX11_retouch 55 = .ok (.new 161, 3) := by decide +kernel
theorem dX11_retouch_58 : decode cX11_retouch 58 = .ok (.dup, 1) := by decide +kernel
theorem dX11_retouch_59 : decode cX11_retouch 59 = .ok (.bipush 114, 2) := by decide +kernel
theorem dX11_retouch_61 : decode cX11_retouch 61 = .ok (.aload_n 0, 1) := by decide +kernel
theorem dX11_retouch_62 : decode cX11_retouch 62 = .ok (.getfield 10, 3) := by decide +kernel
theorem dX11_retouch_65 : decode cX11_retouch 65 = .ok (.iload_n 1, 1) := by decide +kernel
theorem dX11_retouch_66 : decode cX11_retouch 66 = .ok (.invokevirtual 145, 3) := by decide +kernel
theorem dX11_retouch_69 : decode cX11_retouch 69 = .ok (.checkcast 50, 3) := by decide +kernel
theorem dX11_retouch_72 : decode cX11_retouch 72 = .ok (.iload 4, 2) := by decide +kernel
theorem dX11_retouch_74 : decode cX11_retouch 74 = .ok (.iload_n 2, 1) := by decide +kernel
theorem dX11_retouch_75 : decode cX11_retouch 75 = .ok (.iload_n 3, 1) := by decide +kernel
theorem dX11_retouch_76 : decode cX11_retouch 76 = .ok (.invokespecial 163, 3) := by decide +kernel
theorem dX11_retouch_79 : decode cX11_retouch 79 = .ok (.invokevirtual 172, 3) := by decide +kernel
theorem dX11_retouch_82 : decode cX11_retouch 82 = .ok (.ireturn, 1) := by decide +kernel
set_option maxRecDepth 20000 in
theorem ggX11_isTold_X11_demandPlace : GoodIn wsX11_isTold wsX11_demandPlace := goodIn_ca (goodIn_r _ [12, 13, 14, 15, 16, 11, 17] (by decide +kernel) (by decide +kernel)) (goodIn_sub (fun _ h => List.mem_cons_of_mem _ (List.mem_append_left _ (List.mem_append_right _ h))) (by decide +kernel))
set_option maxRecDepth 20000 in
theorem gX11_isTold_X11_demandPlace : GoodIn wsX11_isTold (va_wsS RX11 176 yX11_demandPlace wsX11_demandPlace) := goodIn_app (goodIn_of _ (by decide +kernel)) ggX11_isTold_X11_demandPlace
set_option maxRecDepth 20000 in
theorem ggX11_isTold_X5_at : GoodIn wsX11_isTold wsX5_at := goodIn_r _ [22, 23, 24, 11, 25, 82, 83, 84, 85, 86] (by decide +kernel) (by decide +kernel)
set_option maxRecDepth 20000 in
theorem gX11_isTold_X5_at : GoodIn wsX11_isTold (wsV RX11 179 RX5 yX5_at wsX5_at) := goodIn_app (goodIn_of _ (by decide +kernel)) ggX11_isTold_X5_at
set_option maxRecDepth 20000 in
theorem ggX11_isTold_X8_isTopmost : GoodIn wsX11_isTold wsX8_isTopmost := goodIn_r _ [30, 31, 32, 33, 34, 35, 36, 29, 37, 38, 63, 64, 65, 66, 67, 68, 69, 70, 71, 72, 73, 74, 75, 76, 77, 78, 79, 80, 81] (by decide +kernel) (by decide +kernel)
set_option maxRecDepth 20000 in
theorem gX11_isTold_X8_isTopmost : GoodIn wsX11_isTold (wsV RX11 345 RX8 yX8_isTopmost wsX8_isTopmost) := goodIn_app (goodIn_of _ (by decide +kernel)) ggX11_isTold_X8_isTopmost
set_option maxRecDepth 20000 in
theorem ggX11_isTold_X11_demandElement : GoodIn wsX11_isTold wsX11_demandElement := goodIn_ca (goodIn_r _ [41, 42, 43] (by decide +kernel) (by decide +kernel)) (goodIn_sub (fun _ h => List.mem_cons_of_mem _ (List.mem_append_right _ h)) (by decide +kernel))
set_option maxRecDepth 20000 in
theorem gX11_isTold_X11_demandElement : GoodIn wsX11_isTold (va_wsS RX11 187 yX11_demandElement wsX11_demandElement) := goodIn_app (goodIn_of _ (by decide +kernel)) ggX11_isTold_X11_demandElement
set_option maxRecDepth 20000 in
theorem ggX11_isTold_X8_top : GoodIn wsX11_isTold wsX8_top := goodIn_r _ [37, 38, 31, 63, 64, 65] (by decide +kernel) (by decide +kernel)
set_option maxRecDepth 20000 in
theorem gX11_isTold_X8_top : GoodIn wsX11_isTold (wsV RX11 349 RX8 yX8_top wsX8_top) := goodIn_app (goodIn_of _ (by decide +kernel)) ggX11_isTold_X8_top
set_option maxRecDepth 20000 in
theorem ggX11_isTold_X8_belowTop : GoodIn wsX11_isTold wsX8_belowTop := goodIn_r _ [48, 38, 31, 63, 64, 65] (by decide +kernel) (by decide +kernel)
set_option maxRecDepth 20000 in
theorem gX11_isTold_X8_belowTop : GoodIn wsX11_isTold (wsV RX11 353 RX8 yX8_belowTop wsX8_belowTop) := goodIn_app (goodIn_of _ (by decide +kernel)) ggX11_isTold_X8_belowTop
theorem dX11_isTold_0 : decode cX11_isTold 0 = .ok (.iload_n 1, 1) := by decide +kernel
theorem dX11_isTold_1 : decode cX11_isTold 1 = .ok (.iload_n 2, 1) := by decide +kernel
theorem dX11_isTold_2 : decode cX11_isTold 2 = .ok (.invokestatic 176, 3) := by decide +kernel
theorem dX11_isTold_5 : decode cX11_isTold 5 = .ok (.aload_n 0, 1) := by decide +kernel
theorem dX11_isTold_6 : decode cX11_isTold 6 = .ok (.getfield 62, 3) := by decide +kernel
theorem dX11_isTold_9 : decode cX11_isTold 9 = .ok (.iload_n 1, 1) := by decide +kernel
theorem dX11_isTold_10 : decode cX11_isTold 10 = .ok (.iload_n 2, 1) := by decide +kernel
theorem dX11_isTold_11 : decode cX11_isTold 11 = .ok (.invokevirtual 179, 3) := by decide +kernel
theorem dX11_isTold_14 : decode cX11_isTold 14 = .ok (.astore_n 3, 1) := by decide +kernel
theorem dX11_isTold_15 : decode cX11_isTold 15 = .ok (.aload_n 3, 1) := by decide +kernel
theorem dX11_isTold_16 : decode cX11_isTold 16 = .ok (.bipush 114, 2) := by decide +kernel
theorem dX11_isTold_18 : decode cX11_isTold 18 = .ok (.invokevirtual 345, 3) := by decide +kernel
theorem dX11_isTold_21 : decode cX11_isTold 21 = .ok (.invokestatic 187, 3) := by decide +kernel
theorem dX11_isTold_24 : decode cX11_isTold 24 = .ok (.aload_n 3, 1) := by decide +kernel
theorem dX11_isTold_25 : decode cX11_isTold 25 = .ok (.getfield 183, 3) := by decide +kernel
theorem dX11_isTold_28 : decode cX11_isTold 28 = .ok (.iconst 2, 1) := by decide +kernel
theorem dX11_isTold_29 : decode cX11_isTold 29 = .ok (.if_icmp .lt 31, 3) := by decide +kernel
theorem dX11_isTold_32 : decode cX11_isTold 32 = .ok (.aload_n 3, 1) := by decide +kernel
theorem dX11_isTold_33 : decode cX11_isTold 33 = .ok (.invokevirtual 349, 3) := by decide +kernel
theorem dX11_isTold_36 : decode cX11_isTold 36 = .ok (.getfield 245, 3) := by decide +kernel
theorem dX11_isTold_39 : decode cX11_isTold 39 = .ok (.getfield 111, 3) := by decide +kernel
theorem dX11_isTold_42 : decode cX11_isTold 42 = .ok (.aload_n 3, 1) := by decide +kernel
theorem dX11_isTold_43 : decode cX11_isTold 43 = .ok (.invokevirtual 353, 3) := by decide +kernel
theorem dX11_isTold_46 : decode cX11_isTold 46 = .ok (.getfield 245, 3) := by decide +kernel
theorem dX11_isTold_49 : decode cX11_isTold 49 = .ok (.getfield 111, 3) := by decide +kernel
theorem dX11_isTold_52 : decode cX11_isTold 52 = .ok (.isub, 1) := by decide +kernel
theorem dX11_isTold_53 : decode cX11_isTold 53 = .ok (.invokestatic 356, 3) := by decide +kernel
theorem dX11_isTold_56 : decode cX11_isTold 56 = .ok (.iconst 2, 1) := by decide +kernel
theorem dX11_isTold_57 : decode cX11_isTold 57 = .ok (.if_icmp .lt 7, 3) := by decide +kernel
theorem dX11_isTold_60 : decode cX11_isTold 60 = .ok (.iconst 1, 1) := by decide +kernel
theorem dX11_isTold_61 : decode cX11_isTold 61 = .ok (.goto 4, 3) := by decide +kernel
theorem dX11_isTold_64 : decode cX11_isTold 64 = .ok (.iconst 0, 1) := by decide +kernel
theorem dX11_isTold_65 : decode cX11_isTold 65 = .ok (.ireturn, 1) := by decide +kernel
set_option maxRecDepth 20000 in
theorem ggX11_comesOff_X11_demandPlace : GoodIn wsX11_comesOff wsX11_demandPlace := goodIn_ca (goodIn_r _ [8, 9, 10, 11, 12, 7, 13] (by decide +kernel) (by decide +kernel)) (goodIn_sub (fun _ h => List.mem_cons_of_mem _ (List.mem_append_left _ (List.mem_append_right _ h))) (by decide +kernel))
set_option maxRecDepth 20000 in
theorem gX11_comesOff_X11_demandPlace : GoodIn wsX11_comesOff (va_wsS RX11 176 yX11_demandPlace wsX11_demandPlace) := goodIn_app (goodIn_of _ (by decide +kernel)) ggX11_comesOff_X11_demandPlace
set_option maxRecDepth 20000 in
theorem ggX11_comesOff_X5_at : GoodIn wsX11_comesOff wsX5_at := goodIn_r _ [18, 19, 20, 7, 21, 187, 188, 189, 190, 191] (by decide +kernel) (by decide +kernel)
set_option maxRecDepth 20000 in
theorem gX11_comesOff_X5_at : GoodIn wsX11_comesOff (wsV RX11 179 RX5 yX5_at wsX5_at) := goodIn_app (goodIn_of _ (by decide +kernel)) ggX11_comesOff_X5_at
set_option maxRecDepth 20000 in
theorem ggX11_comesOff_X8_isTopmost : GoodIn wsX11_comesOff wsX8_isTopmost := goodIn_r _ [26, 27, 28, 29, 30, 31, 32, 25, 33, 34, 192, 193, 194, 195, 196, 197, 198, 199, 200, 201, 202, 203, 204, 205, 206, 207, 208, 209, 210] (by decide +kernel) (by decide +kernel)
set_option maxRecDepth 20000 in
theorem gX11_comesOff_X8_isTopmost : GoodIn wsX11_comesOff (wsV RX11 345 RX8 yX8_isTopmost wsX8_isTopmost) := goodIn_app (goodIn_of _ (by decide +kernel)) ggX11_comesOff_X8_isTopmost
set_option maxRecDepth 20000 in
theorem ggX11_comesOff_X11_demandElement : GoodIn wsX11_comesOff wsX11_demandElement := goodIn_ca (goodIn_r _ [37, 38, 39] (by decide +kernel) (by decide +kernel)) (goodIn_sub (fun _ h => List.mem_cons_of_mem _ (List.mem_append_right _ h)) (by decide +kernel))
set_option maxRecDepth 20000 in
theorem gX11_comesOff_X11_demandElement : GoodIn wsX11_comesOff (va_wsS RX11 187 yX11_demandElement wsX11_demandElement) := goodIn_app (goodIn_of _ (by decide +kernel)) ggX11_comesOff_X11_demandElement
set_option maxRecDepth 20000 in
theorem ggX11_comesOff_Jx4a65c_size_8abf5 : GoodIn wsX11_comesOff wsJx4a65c_size_8abf5 := goodIn_r _ [44, 45, 211, 212, 213] (by decide +kernel) (by decide +kernel)
set_option maxRecDepth 20000 in
theorem gX11_comesOff_Jx4a65c_size_8abf5 : GoodIn wsX11_comesOff (wsV RX11 95 RJx4a65c yJx4a65c_size_8abf5 wsJx4a65c_size_8abf5) := goodIn_app (goodIn_of _ (by decide +kernel)) ggX11_comesOff_Jx4a65c_size_8abf5
set_option maxRecDepth 20000 in
theorem ggX11_comesOff_Jx4a65c_get_915e3 : GoodIn wsX11_comesOff wsJx4a65c_get_915e3 := goodIn_r _ [49, 45, 50, 51, 52, 53, 54, 55, 56, 57, 58, 59, 60, 43, 61, 62, 211, 212, 213] (by decide +kernel) (by decide +kernel)
set_option maxRecDepth 20000 in
theorem gX11_comesOff_Jx4a65c_get_915e3 : GoodIn wsX11_comesOff (wsV RX11 145 RJx4a65c yJx4a65c_get_915e3 wsJx4a65c_get_915e3) := goodIn_app (goodIn_of _ (by decide +kernel)) ggX11_comesOff_Jx4a65c_get_915e3
set_option maxRecDepth 20000 in
theorem ggX11_comesOff_X8_losesTopAlone : GoodIn wsX11_comesOff wsX8_losesTopAlone := goodIn_r _ [66, 27, 28, 30, 31, 32, 25, 33, 34, 67, 68, 69, 70, 71, 72, 73, 74, 75, 76, 77, 78, 79, 80, 81, 82, 83, 84, 85, 86, 87, 88, 89, 90, 91, 92, 93, 94, 95, 96, 97, 98, 99, 100, 101, 102, 103, 104, 105, 106, 107, 108, 109, 110, 111, 112, 113, 114, 115, 116, 117, 118, 119, 120, 121, 122, 123, 124, 125, 126, 127, 128, 129, 130, 131, 132, 133, 134, 135, 136, 56, 137, 138, 139, 140, 141, 142, 143, 144, 145, 146, 147, 148, 149, 150, 151, 152, 153, 154, 155, 156, 157, 158, 159, 160, 161, 162, 163, 164, 165, 166, 167, 168, 169, 192, 193, 194, 195, 196, 197, 198, 199, 200, 201, 202, 203, 204, 205, 206, 207, 208, 209, 210, 214, 215, 216, 217] (by decide +kernel) (by decide +kernel)
set_option maxRecDepth 20000 in
theorem gX11_comesOff_X8_losesTopAlone : GoodIn wsX11_comesOff (wsV RX11 359 RX8 yX8_losesTopAlone wsX8_losesTopAlone) := goodIn_app (goodIn_of _ (by decide +kernel)) ggX11_comesOff_X8_losesTopAlone
theorem dX11_comesOff_0 : decode cX11_comesOff 0 = .ok (.iload_n 1, 1) := by decide +kernel
theorem dX11_comesOff_1 : decode cX11_comesOff 1 = .ok (.iload_n 2, 1) := by decide +kernel
theorem dX11_comesOff_2 : decode cX11_comesOff 2 = .ok (.invokestatic 176, 3) := by decide +kernel
theorem dX11_comesOff_5 : decode cX11_comesOff 5 = .ok (.aload_n 0, 1) := by decide +kernel
theorem dX11_comesOff_6 : decode cX11_comesOff 6 = .ok (.getfield 62, 3) := by decide +kernel
theorem dX11_comesOff_9 : decode cX11_comesOff 9 = .ok (.iload_n 1, 1) := by decide +kernel
theorem dX11_comesOff_10 : decode cX11_comesOff 10 = .ok (.iload_n 2, 1) := by decide +kernel
theorem dX11_comesOff_11 : decode cX11_comesOff 11 = .ok (.invokevirtual 179, 3) := by decide +kernel
theorem dX11_comesOff_14 : decode cX11_comesOff 14 = .ok (.astore_n 3, 1) := by decide +kernel
theorem dX11_comesOff_15 : decode cX11_comesOff 15 = .ok (.aload_n 3, 1) := by decide +kernel
theorem dX11_comesOff_16 : decode cX11_comesOff 16 = .ok (.bipush 114, 2) := by decide +kernel
theorem dX11_comesOff_18 : decode cX11_comesOff 18 = .ok (.invokevirtual 345, 3) := by decide +kernel
theorem dX11_comesOff_21 : decode cX11_comesOff 21 = .ok (.invokestatic 187, 3) := by decide +kernel
theorem dX11_comesOff_24 : decode cX11_comesOff 24 = .ok (.iconst 0, 1) := by decide +kernel
theorem dX11_comesOff_25 : decode cX11_comesOff 25 = .ok (.istore 4, 2) := by decide +kernel
theorem dX11_comesOff_27 : decode cX11_comesOff 27 = .ok (.iload 4, 2) := by decide +kernel
theorem dX11_comesOff_29 : decode cX11_comesOff 29 = .ok (.aload_n 0, 1) := by decide +kernel
theorem dX11_comesOff_30 : decode cX11_comesOff 30 = .ok (.getfield 16, 3) := by decide +kernel
theorem dX11_comesOff_33 : decode cX11_comesOff 33 = .ok (.invokevirtual 95, 3) := by decide +kernel
theorem dX11_comesOff_36 : decode cX11_comesOff 36 = .ok (.if_icmp .ge 34, 3) := by decide +kernel
theorem dX11_comesOff_39 : decode cX11_comesOff 39 = .ok (.aload_n 3, 1) := by decide +kernel
theorem dX11_comesOff_40 : decode cX11_comesOff 40 = .ok (.aload_n 0, 1) := by decide +kernel
theorem dX11_comesOff_41 : decode cX11_comesOff 41 = .ok (.getfield 16, 3) := by decide +kernel
theorem dX11_comesOff_44 : decode cX11_comesOff 44 = .ok (.iload 4, 2) := by decide +kernel
theorem dX11_comesOff_46 : decode cX11_comesOff 46 = .ok (.invokevirtual 145, 3) := by decide +kernel
theorem dX11_comesOff_49 : decode cX11_comesOff 49 = .ok (.checkcast 313, 3) := by decide +kernel
theorem dX11_comesOff_52 : decode cX11_comesOff 52 = .ok (.getfield 323, 3) := by decide +kernel
theorem dX11_comesOff_55 : decode cX11_comesOff 55 = .ok (.invokevirtual 359, 3) := by decide +kernel
theorem dX11_comesOff_58 : decode cX11_comesOff 58 = .ok (.ifCond .eq 6, 3) := by decide +kernel
theorem dX11_comesOff_61 : decode cX11_comesOff 61 = .ok (.iload 4, 2) := by decide +kernel
theorem dX11_comesOff_63 : decode cX11_comesOff 63 = .ok (.ireturn, 1) := by decide +kernel
theorem dX11_comesOff_64 : decode cX11_comesOff 64 = .ok (.iinc 4 1, 3) := by decide +kernel
theorem dX11_comesOff_67 : decode cX11_comesOff 67 = .ok (.goto (-40), 3) := by decide +kernel
theorem dX11_comesOff_70 : decode cX11_comesOff 70 = .ok (.iconst (-1), 1) := by decide +kernel
theorem dX11_comesOff_71 : decode cX11_comesOff 71 = .ok (.ireturn, 1) := by decide +kernel
set_option maxRecDepth 20000 in
theorem ggX11_glue_X11_demandPlace : GoodIn wsX11_glue wsX11_demandPlace := goodIn_ca (goodIn_r _ [8, 9, 10, 11, 12, 7, 13] (by decide +kernel) (by decide +kernel)) (goodIn_sub (fun _ h => List.mem_cons_of_mem _ (List.mem_append_left _ (List.mem_append_left _ (List.mem_append_left _ (List.mem_append_right _ h))))) (by decide +kernel))
set_option maxRecDepth 20000 in
theorem gX11_glue_X11_demandPlace : GoodIn wsX11_glue (va_wsS RX11 176 yX11_demandPlace wsX11_demandPlace) := goodIn_app (goodIn_of _ (by decide +kernel)) ggX11_glue_X11_demandPlace
set_option maxRecDepth 20000 in
theorem ggX11_glue_X0_init : GoodIn wsX11_glue wsX0_init := goodIn_r _ [16, 17, 18, 19, 20, 21, 22, 23, 24, 25, 26, 27, 28, 29, 30, 31, 32, 33, 34, 417, 418, 419, 391, 392, 393, 394, 395, 396, 397, 398, 399, 400, 401, 402] (by decide +kernel) (by decide +kernel)
set_option maxRecDepth 20000 in
theorem gX11_glue_X0_init : GoodIn wsX11_glue (wsX0_init) := ggX11_glue_X0_init
set_option maxRecDepth 20000 in
theorem ggX11_glue_X11_enter : GoodIn wsX11_glue wsX11_enter := goodIn_ca (goodIn_ca (goodIn_ca (goodIn_r _ [38, 39, 40, 41, 42, 43, 44, 45, 46, 47, 48, 49, 50, 51, 52, 53, 54, 55, 56, 57, 7, 58, 59, 60, 61, 62, 63, 64, 65, 66, 67, 68, 69, 70, 71, 72, 73, 74, 75, 76, 77, 78, 79, 80, 81, 12, 13, 82, 83, 84, 85, 86, 87, 88, 89, 90, 91, 92, 93, 94, 95, 96, 97, 98, 99, 100, 101, 102, 103, 104, 105, 106, 107, 108, 109, 110, 111, 112, 113, 114, 115, 116, 117, 118, 119, 120, 121, 122, 123, 124, 125, 126, 127, 128, 129, 130, 131, 132, 133, 134, 135, 136, 137, 138, 139, 140, 141, 142, 143, 144, 145, 146, 147, 148, 149, 150, 151, 152, 153, 154, 155, 156, 157, 158, 159, 160, 161, 162, 163, 164, 165, 166, 167, 168, 169, 170, 171, 172, 173, 174, 175, 176, 177, 178, 179, 180, 181, 182, 183, 184, 185, 186, 187, 188, 189, 190, 191, 192, 193, 194, 195, 196, 197, 198, 199, 200, 201, 202, 203, 204, 205, 206, 207, 208, 209, 210, 211, 212, 213, 214, 215, 216, 217, 218, 219, 220, 221, 222, 223, 224, 225, 226, 227, 228, 229, 230, 231, 232, 233, 234, 235, 236, 237, 238, 239, 240, 241, 242, 243, 244, 245, 246, 247, 248, 249, 250, 251, 252, 253, 254, 255, 256, 257, 258, 259, 260, 261, 262, 263, 264, 265, 266, 267, 268, 269, 270, 271, 272, 273, 274, 275, 276, 277, 278, 279, 280, 281, 282, 283, 284, 285, 286, 287, 288, 289, 290, 291, 292, 293, 294, 295, 296, 297, 298, 299, 300, 301, 302, 303, 304, 305, 306, 307, 308, 309, 310, 311, 312, 313, 314, 315, 316, 317, 318, 319, 320, 321, 322, 323, 324, 325, 326, 327, 328, 329, 330, 331, 332, 333, 334, 335, 336, 337, 338, 339, 340, 341, 342, 343, 344, 345, 346, 347, 348, 349, 350, 351, 352, 353, 354, 355, 356, 357, 358, 359, 360, 361, 362, 363, 364, 365, 366, 367, 368, 369, 370, 371, 372, 373, 374, 375, 376, 377, 378, 379, 380, 381, 382, 383, 384, 385, 386, 387, 388, 389, 390, 403, 404, 405, 406, 407, 408, 409, 410, 411, 412, 413, 414, 415, 416, 391, 392, 393, 394, 395, 396, 397, 398, 399, 400, 401, 402, 420, 421, 422, 417, 418, 419, 423, 424, 425, 426, 427, 428, 429, 430, 431, 432, 433, 434, 435, 436, 437, 438, 439, 440, 441, 442, 443, 444, 445, 446, 447, 448, 449, 450] (by decide +kernel) (by decide +kernel)) (goodIn_sub (fun _ h => List.mem_cons_of_mem _ (List.mem_append_left _ (List.mem_append_left _ (List.mem_append_right _ h)))) (by decide +kernel))) (goodIn_sub (fun _ h => List.mem_cons_of_mem _ (List.mem_append_left _ (List.mem_append_right _ h))) (by decide +kernel))) (goodIn_sub (fun _ h => List.mem_cons_of_mem _ (List.mem_append_right _ h)) (by decide +kernel))
set_option maxRecDepth 20000 in
theorem gX11_glue_X11_enter : GoodIn wsX11_glue (wsV RX11 172 RX11 yX11_enter wsX11_enter) := goodIn_app (goodIn_of _ (by decide +kernel)) ggX11_glue_X11_enter
theorem dX11_glue_0 : decode cX11_glue 0 = .ok (.iload_n 1, 1) := by decide +kernel
theorem dX11_glue_1 : decode cX11_glue 1 = .ok (.iload_n 2, 1) := by decide +kernel
theorem dX11_glue_2 : decode cX11_glue 2 = .ok (.invokestatic 176, 3) := by decide +kernel
theorem dX11_glue_5 : decode cX11_glue 5 = .ok (.aload_n 0, 1) := by decide +kernel
theorem dX11_glue_6 : decode cX11_glue 6 = .ok (.new 161, 3) := by decide +kernel
theorem dX11_glue_9 : decode cX11_glue 9 = .ok (.dup, 1) := by decide +kernel
theorem dX11_glue_10 : decode cX11_glue 10 = .ok (.bipush 103, 2) := by decide +kernel
theorem dX11_glue_12 : decode cX11_glue 12 = .ok (.aload_n 0, 1) := by decide +kernel
theorem dX11_glue_13 : decode cX11_glue 13 = .ok (.getfield 55, 3) := by decide +kernel
theorem dX11_glue_16 : decode cX11_glue 16 = .ok (.iconst 0, 1) := by decide +kernel
theorem dX11_glue_17 : decode cX11_glue 17 = .ok (.iload_n 1, 1) := by decide +kernel
theorem dX11_glue_18 : decode cX11_glue 18 = .ok (.iload_n 2, 1) := by decide +kernel
theorem dX11_glue_19 : decode cX11_glue 19 = .ok (.invokespecial 163, 3) := by decide +kernel
theorem dX11_glue_22 : decode cX11_glue 22 = .ok (.invokevirtual 172, 3) := by decide +kernel
theorem dX11_glue_25 : decode cX11_glue 25 = .ok (.ireturn, 1) := by decide +kernel
set_option maxRecDepth 20000 in
theorem ggX11_threads_X11_isWithin : GoodIn wsX11_threads wsX11_isWithin := goodIn_r _ [5] (by decide +kernel) (by decide +kernel)
set_option maxRecDepth 20000 in
theorem gX11_threads_X11_isWithin : GoodIn wsX11_threads (va_wsS RX11 91 yX11_isWithin wsX11_isWithin) := goodIn_app (goodIn_of _ (by decide +kernel)) ggX11_threads_X11_isWithin
set_option maxRecDepth 20000 in
theorem ggX11_threads_X11_demandArgument : GoodIn wsX11_threads wsX11_demandArgument := goodIn_ca (goodIn_r _ [8, 9, 10] (by decide +kernel) (by decide +kernel)) (goodIn_sub (fun _ h => List.mem_cons_of_mem _ (List.mem_append_right _ h)) (by decide +kernel))
set_option maxRecDepth 20000 in
theorem gX11_threads_X11_demandArgument : GoodIn wsX11_threads (va_wsS RX11 87 yX11_demandArgument wsX11_demandArgument) := goodIn_app (goodIn_of _ (by decide +kernel)) ggX11_threads_X11_demandArgument
set_option maxRecDepth 20000 in
theorem ggX11_threads_J6_bitCount_0f7a4 : GoodIn wsX11_threads wsJ6_bitCount_0f7a4 := goodIn_r _ [14, 15, 16, 17] (by decide +kernel) (by decide +kernel)
set_option maxRecDepth 20000 in
theorem gX11_threads_J6_bitCount_0f7a4 : GoodIn wsX11_threads (va_wsS RX11 364 yJ6_bitCount_0f7a4 wsJ6_bitCount_0f7a4) := goodIn_app (goodIn_of _ (by decide +kernel)) ggX11_threads_J6_bitCount_0f7a4
theorem dX11_threads_0 : decode cX11_threads 0 = .ok (.iload_n 1, 1) := by decide +kernel
theorem dX11_threads_1 : decode cX11_threads 1 = .ok (.iconst 0, 1) := by decide +kernel
theorem dX11_threads_2 : decode cX11_threads 2 = .ok (.ldc_w 363, 3) := by decide +kernel
theorem dX11_threads_5 : decode cX11_threads 5 = .ok (.invokestatic 91, 3) := by decide +kernel
theorem dX11_threads_8 : decode cX11_threads 8 = .ok (.invokestatic 87, 3) := by decide +kernel
theorem dX11_threads_11 : decode cX11_threads 11 = .ok (.iload_n 1, 1) := by decide +kernel
theorem dX11_threads_12 : decode cX11_threads 12 = .ok (.invokestatic 364, 3) := by decide +kernel
theorem dX11_threads_15 : decode cX11_threads 15 = .ok (.iload_n 1, 1) := by decide +kernel
theorem dX11_threads_16 : decode cX11_threads 16 = .ok (.iload_n 1, 1) := by decide +kernel
theorem dX11_threads_17 : decode cX11_threads 17 = .ok (.iconst 1, 1) := by decide +kernel
theorem dX11_threads_18 : decode cX11_threads 18 = .ok (.ishr, 1) := by decide +kernel
theorem dX11_threads_19 : decode cX11_threads 19 = .ok (.iand, 1) := by decide +kernel
theorem dX11_threads_20 : decode cX11_threads 20 = .ok (.invokestatic 364, 3) := by decide +kernel
theorem dX11_threads_23 : decode cX11_threads 23 = .ok (.iadd, 1) := by decide +kernel
theorem dX11_threads_24 : decode cX11_threads 24 = .ok (.ireturn, 1) := by decide +kernel
set_option maxRecDepth 20000 in
theorem ggX11_ballot_J0_indexOf_0f7a4 : GoodIn wsX11_ballot wsJ0_indexOf_0f7a4 := goodIn_r _ [7, 8, 9, 10, 6, 11, 12, 13, 14, 15, 16, 17, 18, 19, 20, 21, 22, 23, 24, 25, 26, 27, 28, 29, 30, 31, 32, 33, 34, 35, 36, 37, 38, 39, 40, 41, 42, 43, 44, 45, 46, 47, 48, 49, 50, 51, 52, 53, 54, 55, 56, 57, 58, 59, 60, 61, 62, 63, 64, 65, 66, 67, 68, 69, 70, 71, 72, 73, 74, 75, 76, 77, 78, 79, 80, 81, 82, 83, 84, 85, 86, 87, 88, 89, 90, 91, 126, 127, 128, 129] (by decide +kernel) (by decide +kernel)
set_option maxRecDepth 20000 in
theorem gX11_ballot_J0_indexOf_0f7a4 : GoodIn wsX11_ballot (wsV RX11 81 RJ0 yJ0_indexOf_0f7a4 wsJ0_indexOf_0f7a4) := goodIn_app (goodIn_of _ (by decide +kernel)) ggX11_ballot_J0_indexOf_0f7a4
set_option maxRecDepth 20000 in
theorem ggX11_ballot_X11_demandArgument : GoodIn wsX11_ballot wsX11_demandArgument := goodIn_ca (goodIn_r _ [95, 96, 97] (by decide +kernel) (by decide +kernel)) (goodIn_sub (fun _ h => List.mem_cons_of_mem _ (List.mem_append_left _ (List.mem_append_left _ (List.mem_append_right _ h)))) (by decide +kernel))
set_option maxRecDepth 20000 in
theorem gX11_ballot_X11_demandArgument : GoodIn wsX11_ballot (va_wsS RX11 87 yX11_demandArgument wsX11_demandArgument) := goodIn_app (goodIn_of _ (by decide +kernel)) ggX11_ballot_X11_demandArgument
set_option maxRecDepth 20000 in
theorem ggX11_ballot_X11_demandRoom : GoodIn wsX11_ballot wsX11_demandRoom := goodIn_ca (goodIn_r _ [100, 101, 102] (by decide +kernel) (by decide +kernel)) (goodIn_sub (fun _ h => List.mem_cons_of_mem _ (List.mem_append_left _ (List.mem_append_right _ h))) (by decide +kernel))
set_option maxRecDepth 20000 in
theorem gX11_ballot_X11_demandRoom : GoodIn wsX11_ballot (va_wsS RX11 99 yX11_demandRoom wsX11_demandRoom) := goodIn_app (goodIn_of _ (by decide +kernel)) ggX11_ballot_X11_demandRoom
set_option maxRecDepth 20000 in
theorem ggX11_ballot_X10_add : GoodIn wsX11_ballot wsX10_add := goodIn_ca (goodIn_r _ [107, 108, 109, 124, 125] (by decide +kernel) (by decide +kernel)) (goodIn_sub (fun _ h => List.mem_cons_of_mem _ (List.mem_append_right _ h)) (by decide +kernel))
set_option maxRecDepth 20000 in
theorem gX11_ballot_X10_add : GoodIn wsX11_ballot (wsV RX11 374 RX10 yX10_add wsX10_add) := goodIn_app (goodIn_of _ (by decide +kernel)) ggX11_ballot_X10_add
theorem dX11_ballot_0 : decode cX11_ballot 0 = .ok (.ldc_w 369, 3) := by decide +kernel
theorem dX11_ballot_3 : decode cX11_ballot 3 = .ok (.iload_n 1, 1) := by decide +kernel
theorem dX11_ballot_4 : decode cX11_ballot 4 = .ok (.invokevirtual 81, 3) := by decide +kernel
theorem dX11_ballot_7 : decode cX11_ballot 7 = .ok (.istore_n 3, 1) := by decide +kernel
theorem dX11_ballot_8 : decode cX11_ballot 8 = .ok (.ldc_w 369, 3) := by decide +kernel
theorem dX11_ballot_11 : decode cX11_ballot 11 = .ok (.iload_n 2, 1) := by decide +kernel
theorem dX11_ballot_12 : decode cX11_ballot 12 = .ok (.invokevirtual 81, 3) := by decide +kernel
theorem dX11_ballot_15 : decode cX11_ballot 15 = .ok (.istore 4, 2) := by decide +kernel
theorem dX11_ballot_17 : decode cX11_ballot 17 = .ok (.iload_n 3, 1) := by decide +kernel
theorem dX11_ballot_18 : decode cX11_ballot 18 = .ok (.ifCond .lt 18, 3) := by decide +kernel
theorem dX11_ballot_21 : decode cX11_ballot 21 = .ok (.iload 4, 2) := by decide +kernel
theorem dX11_ballot_23 : decode cX11_ballot 23 = .ok (.ifCond .lt 13, 3) := by decide +kernel
theorem dX11_ballot_26 : decode cX11_ballot 26 = .ok (.iload_n 3, 1) := by decide +kernel
theorem dX11_ballot_27 : decode cX11_ballot 27 = .ok (.iload 4, 2) := by decide +kernel
theorem dX11_ballot_29 : decode cX11_ballot 29 = .ok (.if_icmp .eq 7, 3) := by decide +kernel
theorem dX11_ballot_32 : decode cX11_ballot 32 = .ok (.iconst 1, 1) := by decide +kernel
theorem dX11_ballot_33 : decode cX11_ballot 33 = .ok (.goto 4, 3) := by decide +kernel
theorem dX11_ballot_36 : decode cX11_ballot 36 = .ok (.iconst 0, 1) := by decide +kernel
theorem dX11_ballot_37 : decode cX11_ballot 37 = .ok (.invokestatic 87, 3) := by decide +kernel
theorem dX11_ballot_40 : decode cX11_ballot 40 = .ok (.aload_n 0, 1) := by decide +kernel
theorem dX11_ballot_41 : decode cX11_ballot 41 = .ok (.getfield 39, 3) := by decide +kernel
theorem dX11_ballot_44 : decode cX11_ballot 44 = .ok (.getfield 371, 3) := by decide +kernel
theorem dX11_ballot_47 : decode cX11_ballot 47 = .ok (.bipush 9, 2) := by decide +kernel
theorem dX11_ballot_49 : decode cX11_ballot 49 = .ok (.if_icmp .ge 7, 3) := by decide +kernel
theorem dX11_ballot_52 : decode cX11_ballot 52 = .ok (.iconst 1, 1) := by decide +kernel
theorem dX11_ballot_53 : decode cX11_ballot 53 = .ok (.goto 4, 3) := by decide +kernel
theorem dX11_ballot_56 : decode cX11_ballot 56 = .ok (.iconst 0, 1) := by decide +kernel
theorem dX11_ballot_57 : decode cX11_ballot 57 = .ok (.invokestatic 99, 3) := by decide +kernel
theorem dX11_ballot_60 : decode cX11_ballot 60 = .ok (.aload_n 0, 1) := by decide +kernel
theorem dX11_ballot_61 : decode cX11_ballot 61 = .ok (.getfield 39, 3) := by decide +kernel
theorem dX11_ballot_64 : decode cX11_ballot 64 = .ok (.iload_n 3, 1) := by decide +kernel
theorem dX11_ballot_65 : decode cX11_ballot 65 = .ok (.iload 4, 2) := by decide +kernel
theorem dX11_ballot_67 : decode cX11_ballot 67 = .ok (.invokevirtual 374, 3) := by decide +kernel
theorem dX11_ballot_70 : decode cX11_ballot 70 = .ok (.ireturn, 1) := by decide +kernel
set_option maxRecDepth 20000 in
theorem ggX11_winner_X10_best : GoodIn wsX11_winner wsX10_best := goodIn_ca (goodIn_r _ [6, 7, 8, 70, 71] (by decide +kernel) (by decide +kernel)) (goodIn_sub (fun _ h => List.mem_cons_of_mem _ (List.mem_append_left _ (List.mem_append_right _ h))) (by decide +kernel))
set_option maxRecDepth 20000 in
theorem gX11_winner_X10_best : GoodIn wsX11_winner (wsV RX11 376 RX10 yX10_best wsX10_best) := goodIn_app (goodIn_of _ (by decide +kernel)) ggX11_winner_X10_best
set_option maxRecDepth 20000 in
theorem ggX11_winner_X11_demandElement : GoodIn wsX11_winner wsX11_demandElement := goodIn_ca (goodIn_r _ [12, 13, 14] (by decide +kernel) (by decide +kernel)) (goodIn_sub (fun _ h => List.mem_cons_of_mem _ (List.mem_append_right _ h)) (by decide +kernel))
set_option maxRecDepth 20000 in
theorem gX11_winner_X11_demandElement : GoodIn wsX11_winner (va_wsS RX11 187 yX11_demandElement wsX11_demandElement) := goodIn_app (goodIn_of _ (by decide +kernel)) ggX11_winner_X11_demandElement
set_option maxRecDepth 20000 in
theorem ggX11_winner_J0_charAt_5068e : GoodIn wsX11_winner wsJ0_charAt_5068e := goodIn_r _ [19, 20, 21, 22, 23, 18, 24, 25, 26, 27, 28, 29, 30, 31, 32, 33, 34, 35, 36, 37, 38, 39, 40, 41, 42, 43, 44, 45, 46, 47, 48, 49, 50, 51, 52, 53, 54, 55, 72, 73, 74, 75] (by decide +kernel) (by decide +kernel)
set_option maxRecDepth 20000 in
theorem gX11_winner_J0_charAt_5068e : GoodIn wsX11_winner (wsV RX11 379 RJ0 yJ0_charAt_5068e wsJ0_charAt_5068e) := goodIn_app (goodIn_of _ (by decide +kernel)) ggX11_winner_J0_charAt_5068e
theorem dX11_winner_0 : decode cX11_winner 0 = .ok (.aload_n 0, 1) := by decide +kernel
theorem dX11_winner_1 : decode cX11_winner 1 = .ok (.getfield 39, 3) := by decide +kernel
theorem dX11_winner_4 : decode cX11_winner 4 = .ok (.invokevirtual 376, 3) := by decide +kernel
theorem dX11_winner_7 : decode cX11_winner 7 = .ok (.istore_n 1, 1) := by decide +kernel
theorem dX11_winner_8 : decode cX11_winner 8 = .ok (.iload_n 1, 1) := by decide +kernel
theorem dX11_winner_9 : decode cX11_winner 9 = .ok (.iconst (-1), 1) := by decide +kernel
theorem dX11_winner_10 : decode cX11_winner 10 = .ok (.if_icmp .eq 7, 3) := by decide +kernel
theorem dX11_winner_13 : decode cX11_winner 13 = .ok (.iconst 1, 1) := by decide +kernel
theorem dX11_winner_14 : decode cX11_winner 14 = .ok (.goto 4, 3) := by decide +kernel
theorem dX11_winner_17 : decode cX11_winner 17 = .ok (.iconst 0, 1) := by decide +kernel
theorem dX11_winner_18 : decode cX11_winner 18 = .ok (.invokestatic 187, 3) := by decide +kernel
theorem dX11_winner_21 : decode cX11_winner 21 = .ok (.ldc_w 369, 3) := by decide +kernel
theorem dX11_winner_24 : decode cX11_winner 24 = .ok (.iload_n 1, 1) := by decide +kernel
theorem dX11_winner_25 : decode cX11_winner 25 = .ok (.invokevirtual 379, 3) := by decide +kernel
theorem dX11_winner_28 : decode cX11_winner 28 = .ok (.ireturn, 1) := by decide +kernel
set_option maxRecDepth 20000 in
theorem ggX11_leg_X11_isWithin : GoodIn wsX11_leg wsX11_isWithin := goodIn_r _ [6] (by decide +kernel) (by decide +kernel)
set_option maxRecDepth 20000 in
theorem gX11_leg_X11_isWithin : GoodIn wsX11_leg (va_wsS RX11 91 yX11_isWithin wsX11_isWithin) := goodIn_app (goodIn_of _ (by decide +kernel)) ggX11_leg_X11_isWithin
set_option maxRecDepth 20000 in
theorem ggX11_leg_X11_demandArgument : GoodIn wsX11_leg wsX11_demandArgument := goodIn_ca (goodIn_r _ [9, 10, 11] (by decide +kernel) (by decide +kernel)) (goodIn_sub (fun _ h => List.mem_cons_of_mem _ (List.mem_append_left _ (List.mem_append_left _ (List.mem_append_right _ h)))) (by decide +kernel))
set_option maxRecDepth 20000 in
theorem gX11_leg_X11_demandArgument : GoodIn wsX11_leg (va_wsS RX11 87 yX11_demandArgument wsX11_demandArgument) := goodIn_app (goodIn_of _ (by decide +kernel)) ggX11_leg_X11_demandArgument
set_option maxRecDepth 20000 in
theorem ggX11_leg_X11_demandRoom : GoodIn wsX11_leg wsX11_demandRoom := goodIn_ca (goodIn_r _ [14, 15, 16] (by decide +kernel) (by decide +kernel)) (goodIn_sub (fun _ h => List.mem_cons_of_mem _ (List.mem_append_left _ (List.mem_append_right _ h))) (by decide +kernel))
set_option maxRecDepth 20000 in
theorem gX11_leg_X11_demandRoom : GoodIn wsX11_leg (va_wsS RX11 99 yX11_demandRoom wsX11_demandRoom) := goodIn_app (goodIn_of _ (by decide +kernel)) ggX11_leg_X11_demandRoom
set_option maxRecDepth 20000 in
theorem ggX11_leg_X3_add : GoodIn wsX11_leg wsX3_add := goodIn_ca (goodIn_r _ [21, 22, 23, 24, 39, 40, 41] (by decide +kernel) (by decide +kernel)) (goodIn_sub (fun _ h => List.mem_cons_of_mem _ (List.mem_append_right _ h)) (by decide +kernel))
set_option maxRecDepth 20000 in
theorem gX11_leg_X3_add : GoodIn wsX11_leg (wsV RX11 384 RX3 yX3_add wsX3_add) := goodIn_app (goodIn_of _ (by decide +kernel)) ggX11_leg_X3_add
theorem dX11_leg_0 : decode cX11_leg 0 = .ok (.iload_n 1, 1) := by decide +kernel
theorem dX11_leg_1 : decode cX11_leg 1 = .ok (.iconst 0, 1) := by decide +kernel
theorem dX11_leg_2 : decode cX11_leg 2 = .ok (.bipush 9, 2) := by decide +kernel
theorem dX11_leg_4 : decode cX11_leg 4 = .ok (.invokestatic 91, 3) := by decide +kernel
theorem dX11_leg_7 : decode cX11_leg 7 = .ok (.ifCond .eq 17, 3) := by decide +kernel
theorem dX11_leg_10 : decode cX11_leg 10 = .ok (.iload_n 2, 1) := by decide +kernel
theorem dX11_leg_11 : decode cX11_leg 11 = .ok (.iconst 0, 1) := by decide +kernel
theorem dX11_leg_12 : decode cX11_leg 12 = .ok (.bipush 99, 2) := by decide +kernel
theorem dX11_leg_14 : decode cX11_leg 14 = .ok (.invokestatic 91, 3) := by decide +kernel
theorem dX11_leg_17 : decode cX11_leg 17 = .ok (.ifCond .eq 7, 3) := by decide +kernel
theorem dX11_leg_20 : decode cX11_leg 20 = .ok (.iconst 1, 1) := by decide +kernel
theorem dX11_leg_21 : decode cX11_leg 21 = .ok (.goto 4, 3) := by decide +kernel
theorem dX11_leg_24 : decode cX11_leg 24 = .ok (.iconst 0, 1) := by decide +kernel
theorem dX11_leg_25 : decode cX11_leg 25 = .ok (.invokestatic 87, 3) := by decide +kernel
theorem dX11_leg_28 : decode cX11_leg 28 = .ok (.aload_n 0, 1) := by decide +kernel
theorem dX11_leg_29 : decode cX11_leg 29 = .ok (.getfield 46, 3) := by decide +kernel
theorem dX11_leg_32 : decode cX11_leg 32 = .ok (.getfield 383, 3) := by decide +kernel
theorem dX11_leg_35 : decode cX11_leg 35 = .ok (.bipush 8, 2) := by decide +kernel
theorem dX11_leg_37 : decode cX11_leg 37 = .ok (.if_icmp .ge 7, 3) := by decide +kernel
theorem dX11_leg_40 : decode cX11_leg 40 = .ok (.iconst 1, 1) := by decide +kernel
theorem dX11_leg_41 : decode cX11_leg 41 = .ok (.goto 4, 3) := by decide +kernel
theorem dX11_leg_44 : decode cX11_leg 44 = .ok (.iconst 0, 1) := by decide +kernel
theorem dX11_leg_45 : decode cX11_leg 45 = .ok (.invokestatic 99, 3) := by decide +kernel
theorem dX11_leg_48 : decode cX11_leg 48 = .ok (.aload_n 0, 1) := by decide +kernel
theorem dX11_leg_49 : decode cX11_leg 49 = .ok (.getfield 46, 3) := by decide +kernel
theorem dX11_leg_52 : decode cX11_leg 52 = .ok (.iload_n 1, 1) := by decide +kernel
theorem dX11_leg_53 : decode cX11_leg 53 = .ok (.iload_n 2, 1) := by decide +kernel
theorem dX11_leg_54 : decode cX11_leg 54 = .ok (.invokevirtual 384, 3) := by decide +kernel
theorem dX11_leg_57 : decode cX11_leg 57 = .ok (.ireturn, 1) := by decide +kernel
set_option maxRecDepth 20000 in
theorem ggX11_risk_X5_copyFrom : GoodIn wsX11_risk wsX5_copyFrom := goodIn_ca (goodIn_r _ [8, 9, 10, 11, 12, 13, 14, 15, 16, 17, 18, 19, 20, 21, 22, 23, 24, 25, 26, 27, 28, 29, 30, 31, 78, 79, 80, 81, 82, 83, 84, 85, 86, 87, 88, 89, 90] (by decide +kernel) (by decide +kernel)) (goodIn_sub (fun _ h => List.mem_cons_of_mem _ (List.mem_append_right _ h)) (by decide +kernel))
set_option maxRecDepth 20000 in
theorem gX11_risk_X5_copyFrom : GoodIn wsX11_risk (wsV RX11 385 RX5 yX5_copyFrom wsX5_copyFrom) := goodIn_app (goodIn_of _ (by decide +kernel)) ggX11_risk_X5_copyFrom
set_option maxRecDepth 20000 in
theorem ggX11_risk_X5_travel : GoodIn wsX11_risk wsX5_travel := goodIn_ca (goodIn_r _ [35, 36, 13, 37, 38, 39, 40, 41, 17, 42, 20, 43, 44, 45, 46, 19, 47, 48, 49, 50, 51, 52, 53, 54, 55, 56, 57, 58, 59, 60, 61, 62, 63, 21, 91, 92, 93, 78, 79, 80, 81, 82, 83, 84, 85, 86, 87, 88, 89, 90, 94, 95, 96, 97, 98, 99, 100, 101, 102, 103, 104] (by decide +kernel) (by decide +kernel)) (goodIn_sub (fun _ h => List.mem_cons_of_mem _ (List.mem_append_right _ h)) (by decide +kernel))
set_option maxRecDepth 20000 in
theorem gX11_risk_X5_travel : GoodIn wsX11_risk (wsV RX11 389 RX5 yX5_travel wsX5_travel) := goodIn_app (goodIn_of _ (by decide +kernel)) ggX11_risk_X5_travel
theorem dX11_risk_0 : decode cX11_risk 0 = .ok (.aload_n 0, 1) := by decide +kernel
theorem dX11_risk_1 : decode cX11_risk 1 = .ok (.getfield 66, 3) := by decide +kernel
theorem dX11_risk_4 : decode cX11_risk 4 = .ok (.aload_n 0, 1) := by decide +kernel
theorem dX11_risk_5 : decode cX11_risk 5 = .ok (.getfield 62, 3) := by decide +kernel
theorem dX11_risk_8 : decode cX11_risk 8 = .ok (.invokevirtual 385, 3) := by decide +kernel
theorem dX11_risk_11 : decode cX11_risk 11 = .ok (.aload_n 0, 1) := by decide +kernel
theorem dX11_risk_12 : decode cX11_risk 12 = .ok (.getfield 66, 3) := by decide +kernel
theorem dX11_risk_15 : decode cX11_risk 15 = .ok (.aload_n 0, 1) := by decide +kernel
theorem dX11_risk_16 : decode cX11_risk 16 = .ok (.getfield 46, 3) := by decide +kernel
theorem dX11_risk_19 : decode cX11_risk 19 = .ok (.invokevirtual 389, 3) := by decide +kernel
theorem dX11_risk_22 : decode cX11_risk 22 = .ok (.ireturn, 1) := by decide +kernel
set_option maxRecDepth 20000 in
theorem ggX11_lend_X0_init : GoodIn wsX11_lend wsX0_init := goodIn_r _ [10, 11, 12, 13, 14, 15, 16, 17, 18, 19, 20, 21, 22, 23, 24, 25, 26, 27, 28, 419, 420, 421, 393, 394, 395, 396, 397, 398, 399, 400, 401, 402, 403, 404] (by decide +kernel) (by decide +kernel)
set_option maxRecDepth 20000 in
theorem gX11_lend_X0_init : GoodIn wsX11_lend (wsX0_init) := ggX11_lend_X0_init
set_option maxRecDepth 20000 in
theorem ggX11_lend_X3_copyFrom : GoodIn wsX11_lend wsX3_copyFrom := goodIn_ca (goodIn_r _ [32, 33, 27, 28, 419, 420, 421] (by decide +kernel) (by decide +kernel)) (goodIn_sub (fun _ h => List.mem_cons_of_mem _ (List.mem_append_left _ (List.mem_append_left _ (List.mem_append_right _ h)))) (by decide +kernel))
set_option maxRecDepth 20000 in
theorem gX11_lend_X3_copyFrom : GoodIn wsX11_lend (wsV RX11 394 RX3 yX3_copyFrom wsX3_copyFrom) := goodIn_app (goodIn_of _ (by decide +kernel)) ggX11_lend_X3_copyFrom
set_option maxRecDepth 20000 in
theorem ggX11_lend_X11_enter : GoodIn wsX11_lend wsX11_enter := goodIn_ca (goodIn_ca (goodIn_ca (goodIn_r _ [38, 39, 40, 41, 42, 43, 44, 45, 46, 47, 48, 49, 50, 51, 52, 53, 54, 55, 56, 57, 37, 58, 59, 60, 61, 62, 63, 64, 65, 66, 67, 68, 69, 70, 71, 72, 73, 74, 75, 76, 77, 78, 79, 80, 81, 82, 83, 84, 85, 86, 87, 88, 89, 90, 91, 92, 93, 94, 95, 96, 97, 98, 99, 100, 101, 102, 103, 104, 105, 106, 107, 108, 109, 110, 111, 112, 113, 114, 115, 116, 117, 118, 119, 120, 121, 122, 123, 124, 125, 126, 127, 128, 129, 130, 131, 132, 133, 134, 135, 136, 137, 138, 139, 140, 141, 142, 143, 144, 145, 146, 147, 148, 149, 150, 151, 152, 153, 154, 155, 156, 157, 158, 159, 160, 161, 162, 163, 164, 165, 166, 167, 168, 169, 170, 171, 172, 173, 174, 175, 176, 177, 178, 179, 180, 181, 182, 183, 184, 185, 186, 187, 188, 189, 190, 191, 192, 193, 194, 195, 196, 197, 198, 199, 200, 201, 202, 203, 204, 205, 206, 207, 208, 209, 210, 211, 212, 213, 214, 215, 216, 217, 218, 219, 220, 221, 222, 223, 224, 225, 226, 227, 228, 229, 230, 231, 232, 233, 234, 235, 236, 237, 238, 239, 240, 241, 242, 243, 244, 245, 246, 247, 248, 249, 250, 251, 252, 253, 254, 255, 256, 257, 258, 259, 260, 261, 262, 263, 264, 265, 266, 267, 268, 269, 270, 271, 272, 273, 274, 275, 276, 277, 278, 279, 280, 281, 282, 283, 284, 285, 286, 287, 288, 289, 290, 291, 292, 293, 294, 295, 296, 297, 298, 299, 300, 301, 302, 303, 304, 305, 306, 307, 308, 309, 310, 311, 312, 313, 314, 315, 316, 317, 318, 319, 320, 321, 322, 323, 324, 325, 326, 327, 328, 329, 330, 331, 332, 333, 334, 335, 336, 337, 338, 339, 340, 341, 342, 343, 344, 345, 346, 347, 348, 349, 350, 351, 352, 353, 354, 355, 356, 357, 358, 359, 360, 361, 362, 363, 364, 365, 366, 367, 368, 369, 370, 371, 372, 373, 374, 375, 376, 377, 378, 379, 380, 381, 382, 383, 384, 385, 386, 387, 388, 389, 390, 391, 392, 405, 406, 407, 408, 409, 410, 411, 412, 413, 414, 415, 416, 417, 418, 393, 394, 395, 396, 397, 398, 399, 400, 401, 402, 403, 404, 422, 423, 424, 419, 420, 421, 425, 426, 427, 428, 429, 430, 431, 432, 433, 434, 435, 436, 437, 438, 439, 440, 441, 442, 443, 444, 445, 446, 447, 448, 449, 450, 451, 452] (by decide +kernel) (by decide +kernel)) (goodIn_sub (fun _ h => List.mem_cons_of_mem _ (List.mem_append_left _ (List.mem_append_left _ (List.mem_append_right _ h)))) (by decide +kernel))) (goodIn_sub (fun _ h => List.mem_cons_of_mem _ (List.mem_append_left _ (List.mem_append_right _ h))) (by decide +kernel))) (goodIn_sub (fun _ h => List.mem_cons_of_mem _ (List.mem_append_right _ h)) (by decide +kernel))
set_option maxRecDepth 20000 in
theorem gX11_lend_X11_enter : GoodIn wsX11_lend (wsV RX11 172 RX11 yX11_enter wsX11_enter) := goodIn_app (goodIn_of _ (by decide +kernel)) ggX11_lend_X11_enter
theorem dX11_lend_0 : decode cX11_lend 0 = .ok (.new 161, 3) := by decide +kernel
theorem dX11_lend_3 : decode cX11_lend 3 = .ok (.dup, 1) := by decide +kernel
theorem dX11_lend_4 : decode cX11_lend 4 = .ok (.bipush 111, 2) := by decide +kernel
theorem dX11_lend_6 : decode cX11_lend 6 = .ok (.aload_n 0, 1) := by decide +kernel
theorem dX11_lend_7 : decode cX11_lend 7 = .ok (.getfield 55, 3) := by decide +kernel
theorem dX11_lend_10 : decode cX11_lend 10 = .ok (.iconst 0, 1) := by decide +kernel
theorem dX11_lend_11 : decode cX11_lend 11 = .ok (.iconst 0, 1) := by decide +kernel
theorem dX11_lend_12 : decode cX11_lend 12 = .ok (.iconst 0, 1) := by decide +kernel
theorem dX11_lend_13 : decode cX11_lend 13 = .ok (.invokespecial 163, 3) := by decide +kernel
theorem dX11_lend_16 : decode cX11_lend 16 = .ok (.astore_n 1, 1) := by decide +kernel
theorem dX11_lend_17 : decode cX11_lend 17 = .ok (.aload_n 1, 1) := by decide +kernel
theorem dX11_lend_18 : decode cX11_lend 18 = .ok (.getfield 393, 3) := by decide +kernel
theorem dX11_lend_21 : decode cX11_lend 21 = .ok (.aload_n 0, 1) := by decide +kernel
theorem dX11_lend_22 : decode cX11_lend 22 = .ok (.getfield 46, 3) := by decide +kernel
theorem dX11_lend_25 : decode cX11_lend 25 = .ok (.invokevirtual 394, 3) := by decide +kernel
theorem dX11_lend_28 : decode cX11_lend 28 = .ok (.aload_n 0, 1) := by decide +kernel
theorem dX11_lend_29 : decode cX11_lend 29 = .ok (.aload_n 1, 1) := by decide +kernel
theorem dX11_lend_30 : decode cX11_lend 30 = .ok (.invokevirtual 172, 3) := by decide +kernel
theorem dX11_lend_33 : decode cX11_lend 33 = .ok (.istore_n 2, 1) := by decide +kernel
theorem dX11_lend_34 : decode cX11_lend 34 = .ok (.aload_n 0, 1) := by decide +kernel
theorem dX11_lend_35 : decode cX11_lend 35 = .ok (.getfield 46, 3) := by decide +kernel
theorem dX11_lend_38 : decode cX11_lend 38 = .ok (.iconst 0, 1) := by decide +kernel
theorem dX11_lend_39 : decode cX11_lend 39 = .ok (.putfield 383, 3) := by decide +kernel
theorem dX11_lend_42 : decode cX11_lend 42 = .ok (.iload_n 2, 1) := by decide +kernel
theorem dX11_lend_43 : decode cX11_lend 43 = .ok (.ireturn, 1) := by decide +kernel
set_option maxRecDepth 20000 in
theorem ggX11_acts_Jx4a65c_size_8abf5 : GoodIn wsX11_acts wsJx4a65c_size_8abf5 := goodIn_r _ [6, 7, 22, 23, 24] (by decide +kernel) (by decide +kernel)
set_option maxRecDepth 20000 in
theorem gX11_acts_Jx4a65c_size_8abf5 : GoodIn wsX11_acts (wsV RX11 95 RJx4a65c yJx4a65c_size_8abf5 wsJx4a65c_size_8abf5) := goodIn_app (goodIn_of _ (by decide +kernel)) ggX11_acts_Jx4a65c_size_8abf5
theorem dX11_acts_0 : decode cX11_acts 0 = .ok (.aload_n 0, 1) := by decide +kernel
theorem dX11_acts_1 : decode cX11_acts 1 = .ok (.getfield 19, 3) := by decide +kernel
theorem dX11_acts_4 : decode cX11_acts 4 = .ok (.invokevirtual 95, 3) := by decide +kernel
theorem dX11_acts_7 : decode cX11_acts 7 = .ok (.ireturn, 1) := by decide +kernel
set_option maxRecDepth 20000 in
theorem ggX11_actAt_Jx4a65c_size_8abf5 : GoodIn wsX11_actAt wsJx4a65c_size_8abf5 := goodIn_r _ [8, 9, 59, 60, 61] (by decide +kernel) (by decide +kernel)
set_option maxRecDepth 20000 in
theorem gX11_actAt_Jx4a65c_size_8abf5 : GoodIn wsX11_actAt (wsV RX11 95 RJx4a65c yJx4a65c_size_8abf5 wsJx4a65c_size_8abf5) := goodIn_app (goodIn_of _ (by decide +kernel)) ggX11_actAt_Jx4a65c_size_8abf5
set_option maxRecDepth 20000 in
theorem ggX11_actAt_X11_demandIndex : GoodIn wsX11_actAt wsX11_demandIndex := goodIn_ca (goodIn_r _ [13, 14, 15] (by decide +kernel) (by decide +kernel)) (goodIn_sub (fun _ h => List.mem_cons_of_mem _ (List.mem_append_right _ h)) (by decide +kernel))
set_option maxRecDepth 20000 in
theorem gX11_actAt_X11_demandIndex : GoodIn wsX11_actAt (va_wsS RX11 134 yX11_demandIndex wsX11_demandIndex) := goodIn_app (goodIn_of _ (by decide +kernel)) ggX11_actAt_X11_demandIndex
set_option maxRecDepth 20000 in
theorem ggX11_actAt_Jx4a65c_get_915e3 : GoodIn wsX11_actAt wsJx4a65c_get_915e3 := goodIn_r _ [19, 9, 20, 21, 22, 23, 24, 25, 26, 27, 28, 29, 30, 7, 31, 32, 59, 60, 61] (by decide +kernel) (by decide +kernel)
set_option maxRecDepth 20000 in
theorem gX11_actAt_Jx4a65c_get_915e3 : GoodIn wsX11_actAt (wsV RX11 145 RJx4a65c yJx4a65c_get_915e3 wsJx4a65c_get_915e3) := goodIn_app (goodIn_of _ (by decide +kernel)) ggX11_actAt_Jx4a65c_get_915e3
theorem dX11_actAt_0 : decode cX11_actAt 0 = .ok (.iload_n 1, 1) := by decide +kernel
theorem dX11_actAt_1 : decode cX11_actAt 1 = .ok (.aload_n 0, 1) := by decide +kernel
theorem dX11_actAt_2 : decode cX11_actAt 2 = .ok (.getfield 19, 3) := by decide +kernel
theorem dX11_actAt_5 : decode cX11_actAt 5 = .ok (.invokevirtual 95, 3) := by decide +kernel
theorem dX11_actAt_8 : decode cX11_actAt 8 = .ok (.invokestatic 134, 3) := by decide +kernel
theorem dX11_actAt_11 : decode cX11_actAt 11 = .ok (.aload_n 0, 1) := by decide +kernel
theorem dX11_actAt_12 : decode cX11_actAt 12 = .ok (.getfield 19, 3) := by decide +kernel
theorem dX11_actAt_15 : decode cX11_actAt 15 = .ok (.iload_n 1, 1) := by decide +kernel
theorem dX11_actAt_16 : decode cX11_actAt 16 = .ok (.invokevirtual 145, 3) := by decide +kernel
theorem dX11_actAt_19 : decode cX11_actAt 19 = .ok (.checkcast 161, 3) := by decide +kernel
theorem dX11_actAt_22 : decode cX11_actAt 22 = .ok (.getfield 397, 3) := by decide +kernel
theorem dX11_actAt_25 : decode cX11_actAt 25 = .ok (.i2c, 1) := by decide +kernel
theorem dX11_actAt_26 : decode cX11_actAt 26 = .ok (.ireturn, 1) := by decide +kernel
set_option maxRecDepth 20000 in
theorem ggX11_takeBack_Jx4a65c_size_8abf5 : GoodIn wsX11_takeBack wsJx4a65c_size_8abf5 := goodIn_r _ [8, 9, 361, 362, 363] (by decide +kernel) (by decide +kernel)
set_option maxRecDepth 20000 in
theorem gX11_takeBack_Jx4a65c_size_8abf5 : GoodIn wsX11_takeBack (wsV RX11 95 RJx4a65c yJx4a65c_size_8abf5 wsJx4a65c_size_8abf5) := goodIn_app (goodIn_of _ (by decide +kernel)) ggX11_takeBack_Jx4a65c_size_8abf5
set_option maxRecDepth 20000 in
theorem ggX11_takeBack_X11_demandIndex : GoodIn wsX11_takeBack wsX11_demandIndex := goodIn_ca (goodIn_r _ [13, 14, 15] (by decide +kernel) (by decide +kernel)) (goodIn_sub (fun _ h => List.mem_cons_of_mem _ (List.mem_append_left _ (List.mem_append_left _ (List.mem_append_right _ h)))) (by decide +kernel))
set_option maxRecDepth 20000 in
theorem gX11_takeBack_X11_demandIndex : GoodIn wsX11_takeBack (va_wsS RX11 134 yX11_demandIndex wsX11_demandIndex) := goodIn_app (goodIn_of _ (by decide +kernel)) ggX11_takeBack_X11_demandIndex
set_option maxRecDepth 20000 in
theorem ggX11_takeBack_X11_redoAllBut : GoodIn wsX11_takeBack wsX11_redoAllBut := goodIn_ca (goodIn_r _ [19, 3, 1, 20, 21, 22, 23, 24, 25, 26, 27, 28, 29, 30, 4, 5, 6, 7, 8, 9, 31, 32, 33, 34, 35, 36, 37, 38, 39, 40, 41, 42, 43, 44, 45, 46, 47, 48, 49, 50, 51, 52, 53, 54, 55, 56, 57, 58, 59, 60, 61, 12, 62, 63, 64, 65, 66, 67, 68, 69, 70, 71, 72, 73, 74, 75, 76, 77, 78, 79, 80, 81, 82, 83, 84, 85, 86, 87, 88, 89, 90, 91, 92, 93, 94, 95, 96, 97, 98, 99, 100, 101, 102, 103, 104, 105, 106, 107, 108, 109, 110, 111, 112, 113, 114, 115, 116, 117, 118, 119, 120, 121, 122, 123, 124, 125, 126, 127, 128, 129, 130, 131, 132, 133, 134, 135, 136, 137, 138, 139, 140, 141, 142, 143, 144, 145, 146, 147, 148, 149, 150, 151, 152, 153, 154, 155, 156, 157, 158, 159, 160, 161, 162, 163, 164, 165, 166, 167, 168, 169, 170, 171, 172, 173, 174, 175, 176, 177, 178, 179, 180, 181, 182, 183, 184, 185, 186, 187, 188, 189, 190, 191, 192, 193, 194, 195, 196, 197, 198, 199, 200, 201, 202, 203, 204, 205, 206, 207, 208, 209, 210, 211, 212, 213, 214, 215, 216, 217, 218, 219, 220, 221, 222, 223, 224, 225, 226, 227, 228, 229, 230, 231, 232, 233, 234, 235, 236, 237, 238, 239, 240, 241, 242, 243, 244, 245, 246, 247, 248, 249, 250, 251, 252, 253, 254, 255, 256, 257, 258, 259, 260, 261, 262, 263, 264, 265, 266, 267, 268, 269, 270, 271, 272, 273, 274, 275, 276, 277, 278, 279, 280, 281, 282, 283, 284, 285, 286, 287, 288, 289, 290, 291, 292, 293, 294, 295, 296, 297, 298, 299, 300, 301, 302, 303, 304, 305, 306, 307, 308, 309, 310, 311, 312, 313, 314, 315, 316, 317, 318, 319, 320, 321, 322, 323, 324, 325, 326, 327, 347, 348, 349, 350, 351, 352, 353, 354, 355, 356, 357, 358, 359, 360, 364, 365, 366, 367, 368, 369, 370, 371, 361, 362, 363, 372, 373, 374, 375, 376, 377, 378, 379, 380, 381, 382, 383, 384, 385, 386, 387, 388, 389, 390, 391, 392, 393, 394, 395, 396, 397, 398, 399, 400, 401, 402, 403, 404, 405, 406] (by decide +kernel) (by decide +kernel)) (goodIn_sub (fun _ h => List.mem_cons_of_mem _ (List.mem_append_left _ (List.mem_append_right _ h))) (by decide +kernel))
set_option maxRecDepth 20000 in
theorem gX11_takeBack_X11_redoAllBut : GoodIn wsX11_takeBack (wsV RX11 400 RX11 yX11_redoAllBut wsX11_redoAllBut) := goodIn_app (goodIn_of _ (by decide +kernel)) ggX11_takeBack_X11_redoAllBut
set_option maxRecDepth 20000 in
theorem ggX11_takeBack_X11_demandPossible : GoodIn wsX11_takeBack wsX11_demandPossible := goodIn_ca (goodIn_r _ [330, 331, 332] (by decide +kernel) (by decide +kernel)) (goodIn_sub (fun _ h => List.mem_cons_of_mem _ (List.mem_append_right _ h)) (by decide +kernel))
set_option maxRecDepth 20000 in
theorem gX11_takeBack_X11_demandPossible : GoodIn wsX11_takeBack (va_wsS RX11 142 yX11_demandPossible wsX11_demandPossible) := goodIn_app (goodIn_of _ (by decide +kernel)) ggX11_takeBack_X11_demandPossible
set_option maxRecDepth 20000 in
theorem ggX11_takeBack_Jx4a65c_remove_915e3 : GoodIn wsX11_takeBack wsJx4a65c_remove_915e3 := goodIn_r _ [336, 9, 47, 35, 36, 37, 38, 39, 40, 41, 42, 337, 338, 339, 7, 340, 341, 342, 343, 344, 345, 346, 361, 362, 363] (by decide +kernel) (by decide +kernel)
set_option maxRecDepth 20000 in
theorem gX11_takeBack_Jx4a65c_remove_915e3 : GoodIn wsX11_takeBack (wsV RX11 403 RJx4a65c yJx4a65c_remove_915e3 wsJx4a65c_remove_915e3) := goodIn_app (goodIn_of _ (by decide +kernel)) ggX11_takeBack_Jx4a65c_remove_915e3
theorem dX11_takeBack_0 : decode cX11_takeBack 0 = .ok (.iload_n 1, 1) := by decide +kernel
theorem dX11_takeBack_1 : decode cX11_takeBack 1 = .ok (.aload_n 0, 1) := by decide +kernel
theorem dX11_takeBack_2 : decode cX11_takeBack 2 = .ok (.getfield 19, 3) := by decide +kernel
theorem dX11_takeBack_5 : decode cX11_takeBack 5 = .ok (.invokevirtual 95, 3) := by decide +kernel
theorem dX11_takeBack_8 : decode cX11_takeBack 8 = .ok (.invokestatic 134, 3) := by decide +kernel
theorem dX11_takeBack_11 : decode cX11_takeBack 11 = .ok (.aload_n 0, 1) := by decide +kernel
theorem dX11_takeBack_12 : decode cX11_takeBack 12 = .ok (.iload_n 1, 1) := by decide +kernel
theorem dX11_takeBack_13 : decode cX11_takeBack 13 = .ok (.invokevirtual 400, 3) := by decide +kernel
theorem dX11_takeBack_16 : decode cX11_takeBack 16 = .ok (.invokestatic 142, 3) := by decide +kernel
theorem dX11_takeBack_19 : decode cX11_takeBack 19 = .ok (.aload_n 0, 1) := by decide +kernel
theorem dX11_takeBack_20 : decode cX11_takeBack 20 = .ok (.getfield 19, 3) := by decide +kernel
theorem dX11_takeBack_23 : decode cX11_takeBack 23 = .ok (.iload_n 1, 1) := by decide +kernel
theorem dX11_takeBack_24 : decode cX11_takeBack 24 = .ok (.invokevirtual 403, 3) := by decide +kernel
theorem dX11_takeBack_27 : decode cX11_takeBack 27 = .ok (.pop, 1) := by decide +kernel
theorem dX11_takeBack_28 : decode cX11_takeBack 28 = .ok (.aload_n 0, 1) := by decide +kernel
theorem dX11_takeBack_29 : decode cX11_takeBack 29 = .ok (.getfield 62, 3) := by decide +kernel
theorem dX11_takeBack_32 : decode cX11_takeBack 32 = .ok (.astore_n 2, 1) := by decide +kernel
theorem dX11_takeBack_33 : decode cX11_takeBack 33 = .ok (.aload_n 0, 1) := by decide +kernel
theorem dX11_takeBack_34 : decode cX11_takeBack 34 = .ok (.aload_n 0, 1) := by decide +kernel
theorem dX11_takeBack_35 : decode cX11_takeBack 35 = .ok (.getfield 66, 3) := by decide +kernel
theorem dX11_takeBack_38 : decode cX11_takeBack 38 = .ok (.putfield 62, 3) := by decide +kernel
theorem dX11_takeBack_41 : decode cX11_takeBack 41 = .ok (.aload_n 0, 1) := by decide +kernel
theorem dX11_takeBack_42 : decode cX11_takeBack 42 = .ok (.aload_n 2, 1) := by decide +kernel
theorem dX11_takeBack_43 : decode cX11_takeBack 43 = .ok (.putfield 66, 3) := by decide +kernel
theorem dX11_takeBack_46 : decode cX11_takeBack 46 = .ok (.aload_n 0, 1) := by decide +kernel
theorem dX11_takeBack_47 : decode cX11_takeBack 47 = .ok (.getfield 19, 3) := by decide +kernel
theorem dX11_takeBack_50 : decode cX11_takeBack 50 = .ok (.invokevirtual 95, 3) := by decide +kernel
theorem dX11_takeBack_53 : decode cX11_takeBack 53 = .ok (.ireturn, 1) := by decide +kernel
set_option maxRecDepth 20000 in
theorem ggX11_checksum_X5_sumUp : GoodIn wsX11_checksum wsX5_sumUp := goodIn_r _ [6, 7, 8, 9, 10, 11, 12, 13, 14, 15, 16, 17, 32, 33, 34, 35, 36, 37, 38, 39, 40, 41, 42, 43, 44, 45, 46, 47, 48, 49, 50, 51, 52, 53, 54, 55] (by decide +kernel) (by decide +kernel)
set_option maxRecDepth 20000 in
theorem gX11_checksum_X5_sumUp : GoodIn wsX11_checksum (wsV RX11 406 RX5 yX5_sumUp wsX5_sumUp) := goodIn_app (goodIn_of _ (by decide +kernel)) ggX11_checksum_X5_sumUp
theorem dX11_checksum_0 : decode cX11_checksum 0 = .ok (.aload_n 0, 1) := by decide +kernel
theorem dX11_checksum_1 : decode cX11_checksum 1 = .ok (.getfield 62, 3) := by decide +kernel
theorem dX11_checksum_4 : decode cX11_checksum 4 = .ok (.invokevirtual 406, 3) := by decide +kernel
theorem dX11_checksum_7 : decode cX11_checksum 7 = .ok (.lreturn, 1) := by decide +kernel
set_option maxRecDepth 20000 in
theorem ggX11_coveredShare_X5_covered : GoodIn wsX11_coveredShare wsX5_covered := goodIn_r _ [7, 8, 9, 24, 25, 26, 27, 28, 29, 30, 31] (by decide +kernel) (by decide +kernel)
set_option maxRecDepth 20000 in
theorem gX11_coveredShare_X5_covered : GoodIn wsX11_coveredShare (wsV RX11 410 RX5 yX5_covered wsX5_covered) := goodIn_app (goodIn_of _ (by decide +kernel)) ggX11_coveredShare_X5_covered
theorem dX11_coveredShare_0 : decode cX11_coveredShare 0 = .ok (.aload_n 0, 1) := by decide +kernel
theorem dX11_coveredShare_1 : decode cX11_coveredShare 1 = .ok (.getfield 62, 3) := by decide +kernel
theorem dX11_coveredShare_4 : decode cX11_coveredShare 4 = .ok (.invokevirtual 410, 3) := by decide +kernel
theorem dX11_coveredShare_7 : decode cX11_coveredShare 7 = .ok (.i2f, 1) := by decide +kernel
theorem dX11_coveredShare_8 : decode cX11_coveredShare 8 = .ok (.ldc_w 413, 3) := by decide +kernel
theorem dX11_coveredShare_11 : decode cX11_coveredShare 11 = .ok (.fdiv, 1) := by decide +kernel
theorem dX11_coveredShare_12 : decode cX11_coveredShare 12 = .ok (.freturn, 1) := by decide +kernel
set_option maxRecDepth 20000 in
theorem ggX11_meanTone_X5_covered : GoodIn wsX11_meanTone wsX5_covered := goodIn_r _ [6, 7, 8, 54, 55, 56, 57, 58, 59, 60, 61] (by decide +kernel) (by decide +kernel)
set_option maxRecDepth 20000 in
theorem gX11_meanTone_X5_covered : GoodIn wsX11_meanTone (wsV RX11 410 RX5 yX5_covered wsX5_covered) := goodIn_app (goodIn_of _ (by decide +kernel)) ggX11_meanTone_X5_covered
set_option maxRecDepth 20000 in
theorem ggX11_meanTone_X11_demandCovered : GoodIn wsX11_meanTone wsX11_demandCovered := goodIn_ca (goodIn_r _ [12, 13, 14] (by decide +kernel) (by decide +kernel)) (goodIn_sub (fun _ h => List.mem_cons_of_mem _ (List.mem_append_right _ h)) (by decide +kernel))
set_option maxRecDepth 20000 in
theorem gX11_meanTone_X11_demandCovered : GoodIn wsX11_meanTone (va_wsS RX11 414 yX11_demandCovered wsX11_demandCovered) := goodIn_app (goodIn_of _ (by decide +kernel)) ggX11_meanTone_X11_demandCovered
set_option maxRecDepth 20000 in
theorem ggX11_meanTone_X5_tonesSeen : GoodIn wsX11_meanTone wsX5_tonesSeen := goodIn_r _ [18, 7, 8, 19, 20, 21, 22, 23, 24, 25, 26, 27, 28, 29, 30, 31, 32, 33, 34, 35, 36, 37, 38, 39, 54, 55, 56, 57, 58, 59, 60, 61, 62, 63, 64, 65, 66, 67, 68, 69, 70, 71, 72, 73, 74, 75, 76, 77] (by decide +kernel) (by decide +kernel)
set_option maxRecDepth 20000 in
theorem gX11_meanTone_X5_tonesSeen : GoodIn wsX11_meanTone (wsV RX11 417 RX5 yX5_tonesSeen wsX5_tonesSeen) := goodIn_app (goodIn_of _ (by decide +kernel)) ggX11_meanTone_X5_tonesSeen
theorem dX11_meanTone_0 : decode cX11_meanTone 0 = .ok (.aload_n 0, 1) := by decide +kernel
theorem dX11_meanTone_1 : decode cX11_meanTone 1 = .ok (.getfield 62, 3) := by decide +kernel
theorem dX11_meanTone_4 : decode cX11_meanTone 4 = .ok (.invokevirtual 410, 3) := by decide +kernel
theorem dX11_meanTone_7 : decode cX11_meanTone 7 = .ok (.istore_n 1, 1) := by decide +kernel
theorem dX11_meanTone_8 : decode cX11_meanTone 8 = .ok (.iload_n 1, 1) := by decide +kernel
theorem dX11_meanTone_9 : decode cX11_meanTone 9 = .ok (.ifCond .le 7, 3) := by decide +kernel
theorem dX11_meanTone_12 : decode cX11_meanTone 12 = .ok (.iconst 1, 1) := by decide +kernel
theorem dX11_meanTone_13 : decode cX11_meanTone 13 = .ok (.goto 4, 3) := by decide +kernel
theorem dX11_meanTone_16 : decode cX11_meanTone 16 = .ok (.iconst 0, 1) := by decide +kernel
theorem dX11_meanTone_17 : decode cX11_meanTone 17 = .ok (.invokestatic 414, 3) := by decide +kernel
theorem dX11_meanTone_20 : decode cX11_meanTone 20 = .ok (.aload_n 0, 1) := by decide +kernel
theorem dX11_meanTone_21 : decode cX11_meanTone 21 = .ok (.getfield 62, 3) := by decide +kernel
theorem dX11_meanTone_24 : decode cX11_meanTone 24 = .ok (.invokevirtual 417, 3) := by decide +kernel
theorem dX11_meanTone_27 : decode cX11_meanTone 27 = .ok (.i2d, 1) := by decide +kernel
theorem dX11_meanTone_28 : decode cX11_meanTone 28 = .ok (.iload_n 1, 1) := by decide +kernel
theorem dX11_meanTone_29 : decode cX11_meanTone 29 = .ok (.i2d, 1) := by decide +kernel
theorem dX11_meanTone_30 : decode cX11_meanTone 30 = .ok (.ddiv, 1) := by decide +kernel
theorem dX11_meanTone_31 : decode cX11_meanTone 31 = .ok (.dreturn, 1) := by decide +kernel
set_option maxRecDepth 20000 in
theorem ggX11_isSound_X11_redoAllBut : GoodIn wsX11_isSound wsX11_redoAllBut := goodIn_ca (goodIn_r _ [7, 1, 8, 9, 10, 11, 12, 13, 14, 15, 16, 17, 18, 19, 20, 21, 22, 23, 24, 25, 26, 27, 28, 29, 30, 31, 32, 33, 34, 35, 36, 37, 38, 39, 40, 41, 42, 43, 44, 45, 46, 47, 48, 49, 50, 51, 52, 53, 54, 55, 56, 6, 57, 58, 59, 60, 61, 62, 63, 64, 65, 66, 67, 68, 69, 70, 71, 72, 73, 74, 75, 76, 77, 78, 79, 80, 81, 82, 83, 84, 85, 86, 87, 88, 89, 90, 91, 92, 93, 94, 95, 96, 97, 98, 99, 100, 101, 102, 103, 104, 105, 106, 107, 108, 109, 110, 111, 112, 113, 114, 115, 116, 117, 118, 119, 120, 121, 122, 123, 124, 125, 126, 127, 128, 129, 130, 131, 132, 133, 134, 135, 136, 137, 138, 139, 140, 141, 142, 143, 144, 145, 146, 147, 148, 149, 150, 151, 152, 153, 154, 155, 156, 157, 158, 159, 160, 161, 162, 163, 164, 165, 166, 167, 168, 169, 170, 171, 172, 173, 174, 175, 176, 177, 178, 179, 180, 181, 182, 183, 184, 185, 186, 187, 188, 189, 190, 191, 192, 193, 194, 195, 196, 197, 198, 199, 200, 201, 202, 203, 204, 205, 206, 207, 208, 209, 210, 211, 212, 213, 214, 215, 216, 217, 218, 219, 220, 221, 222, 223, 224, 225, 226, 227, 228, 229, 230, 231, 232, 233, 234, 235, 236, 237, 238, 239, 240, 241, 242, 243, 244, 245, 246, 247, 248, 249, 250, 251, 252, 253, 254, 255, 256, 257, 258, 259, 260, 261, 262, 263, 264, 265, 266, 267, 268, 269, 270, 271, 272, 273, 274, 275, 276, 277, 278, 279, 280, 281, 282, 283, 284, 285, 286, 287, 288, 289, 290, 291, 292, 293, 294, 295, 296, 297, 298, 299, 300, 301, 302, 303, 304, 305, 306, 307, 308, 309, 310, 311, 312, 313, 314, 315, 316, 317, 318, 319, 320, 321, 322, 341, 342, 343, 344, 345, 346, 347, 348, 349, 350, 351, 352, 353, 354, 355, 356, 357, 358, 359, 360, 361, 362, 363, 364, 365, 366, 367, 368, 369, 370, 371, 372, 373, 374, 375, 376, 377, 378, 379, 380, 381, 382, 383, 384, 385, 386, 387, 388, 389, 390, 391, 392, 393, 394, 395, 396, 397, 398, 399, 400] (by decide +kernel) (by decide +kernel)) (goodIn_sub (fun _ h => List.mem_cons_of_mem _ (List.mem_append_right _ h)) (by decide +kernel))
set_option maxRecDepth 20000 in
theorem gX11_isSound_X11_redoAllBut : GoodIn wsX11_isSound (wsV RX11 400 RX11 yX11_redoAllBut wsX11_redoAllBut) := goodIn_app (goodIn_of _ (by decide +kernel)) ggX11_isSound_X11_redoAllBut
set_option maxRecDepth 20000 in
theorem ggX11_isSound_X5_isSameAs : GoodIn wsX11_isSound wsX5_isSameAs := goodIn_ca (goodIn_r _ [326, 15, 16, 169, 170, 17, 327, 328, 329, 67, 330, 69, 151, 87, 331, 332, 333, 134, 334, 301, 335, 303, 336, 136, 304, 355, 356, 357, 358, 359, 360, 361, 362, 381, 382, 383, 384, 385, 386, 387, 388, 389, 390, 391, 392, 393, 394, 395, 396] (by decide +kernel) (by decide +kernel)) (goodIn_sub (fun _ h => List.mem_cons_of_mem _ (List.mem_append_right _ h)) (by decide +kernel))
set_option maxRecDepth 20000 in
theorem gX11_isSound_X5_isSameAs : GoodIn wsX11_isSound (wsV RX11 420 RX5 yX5_isSameAs wsX5_isSameAs) := goodIn_app (goodIn_of _ (by decide +kernel)) ggX11_isSound_X5_isSameAs
set_option maxRecDepth 20000 in
theorem ggX11_isSound_X5_isBounded : GoodIn wsX11_isSound wsX5_isBounded := goodIn_r _ [340, 17, 19, 18, 355, 356, 357, 358, 359, 360, 361, 362] (by decide +kernel) (by decide +kernel)
set_option maxRecDepth 20000 in
theorem gX11_isSound_X5_isBounded : GoodIn wsX11_isSound (wsV RX11 424 RX5 yX5_isBounded wsX5_isBounded) := goodIn_app (goodIn_of _ (by decide +kernel)) ggX11_isSound_X5_isBounded
theorem dX11_isSound_0 : decode cX11_isSound 0 = .ok (.aload_n 0, 1) := by decide +kernel
theorem dX11_isSound_1 : decode cX11_isSound 1 = .ok (.iconst (-1), 1) := by decide +kernel
theorem dX11_isSound_2 : decode cX11_isSound 2 = .ok (.invokevirtual 400, 3) := by decide +kernel
theorem dX11_isSound_5 : decode cX11_isSound 5 = .ok (.ifCond .eq 31, 3) := by decide +kernel
theorem dX11_isSound_8 : decode cX11_isSound 8 = .ok (.aload_n 0, 1) := by decide +kernel
theorem dX11_isSound_9 : decode cX11_isSound 9 = .ok (.getfield 66, 3) := by decide +kernel
theorem dX11_isSound_12 : decode cX11_isSound 12 = .ok (.aload_n 0, 1) := by decide +kernel
theorem dX11_isSound_13 : decode cX11_isSound 13 = .ok (.getfield 62, 3) := by decide +kernel
theorem dX11_isSound_16 : decode cX11_isSound 16 = .ok (.invokevirtual 420, 3) := by decide +kernel
theorem dX11_isSound_19 : decode cX11_isSound 19 = .ok (.ifCond .eq 17, 3) := by decide +kernel
theorem dX11_isSound_22 : decode cX11_isSound 22 = .ok (.aload_n 0, 1) := by decide +kernel
theorem dX11_isSound_23 : decode cX11_isSound 23 = .ok (.getfield 62, 3) := by decide +kernel
theorem dX11_isSound_26 : decode cX11_isSound 26 = .ok (.invokevirtual 424, 3) := by decide +kernel
theorem dX11_isSound_29 : decode cX11_isSound 29 = .ok (.ifCond .eq 7, 3) := by decide +kernel
theorem dX11_isSound_32 : decode cX11_isSound 32 = .ok (.iconst 1, 1) := by decide +kernel
theorem dX11_isSound_33 : decode cX11_isSound 33 = .ok (.goto 4, 3) := by decide +kernel
theorem dX11_isSound_36 : decode cX11_isSound 36 = .ok (.iconst 0, 1) := by decide +kernel
theorem dX11_isSound_37 : decode cX11_isSound 37 = .ok (.ireturn, 1) := by decide +kernel
set_option maxRecDepth 20000 in
theorem ggX11_enter_X5_canBear : GoodIn wsX11_enter wsX5_canBear := goodIn_ca (goodIn_r _ [7, 8, 9, 10, 11, 12, 13, 14, 15, 16, 6, 17, 18, 19, 20, 21, 22, 23, 24, 25, 26, 27, 28, 29, 30, 31, 32, 33, 34, 35, 36, 37, 38, 39, 40, 41, 42, 43, 44, 45, 46, 47, 48, 49, 50, 51, 52, 370, 371, 372, 373, 374, 375, 376, 377, 378, 379, 380, 381, 382, 383, 384, 385, 386, 387, 388, 389, 390, 391, 392, 393, 394, 395, 396, 397] (by decide +kernel) (by decide +kernel)) (goodIn_sub (fun _ h => List.mem_cons_of_mem _ (List.mem_append_left _ (List.mem_append_left _ (List.mem_append_right _ h)))) (by decide +kernel))
set_option maxRecDepth 20000 in
theorem gX11_enter_X5_canBear : GoodIn wsX11_enter (wsV RX11 427 RX5 yX5_canBear wsX5_canBear) := goodIn_app (goodIn_of _ (by decide +kernel)) ggX11_enter_X5_canBear
set_option maxRecDepth 20000 in
theorem ggX11_enter_X11_demandPossible : GoodIn wsX11_enter wsX11_demandPossible := goodIn_ca (goodIn_r _ [55, 56, 57] (by decide +kernel) (by decide +kernel)) (goodIn_sub (fun _ h => List.mem_cons_of_mem _ (List.mem_append_left _ (List.mem_append_right _ h))) (by decide +kernel))
set_option maxRecDepth 20000 in
theorem gX11_enter_X11_demandPossible : GoodIn wsX11_enter (va_wsS RX11 142 yX11_demandPossible wsX11_demandPossible) := goodIn_app (goodIn_of _ (by decide +kernel)) ggX11_enter_X11_demandPossible
set_option maxRecDepth 20000 in
theorem ggX11_enter_Jx4a65c_size_8abf5 : GoodIn wsX11_enter wsJx4a65c_size_8abf5 := goodIn_r _ [62, 63, 398, 399, 400] (by decide +kernel) (by decide +kernel)
set_option maxRecDepth 20000 in
theorem gX11_enter_Jx4a65c_size_8abf5 : GoodIn wsX11_enter (wsV RX11 95 RJx4a65c yJx4a65c_size_8abf5 wsJx4a65c_size_8abf5) := goodIn_app (goodIn_of _ (by decide +kernel)) ggX11_enter_Jx4a65c_size_8abf5
set_option maxRecDepth 20000 in
theorem ggX11_enter_X11_demandRoom : GoodIn wsX11_enter wsX11_demandRoom := goodIn_ca (goodIn_r _ [66, 67, 68] (by decide +kernel) (by decide +kernel)) (goodIn_sub (fun _ h => List.mem_cons_of_mem _ (List.mem_append_right _ h)) (by decide +kernel))
set_option maxRecDepth 20000 in
theorem gX11_enter_X11_demandRoom : GoodIn wsX11_enter (va_wsS RX11 99 yX11_demandRoom wsX11_demandRoom) := goodIn_app (goodIn_of _ (by decide +kernel)) ggX11_enter_X11_demandRoom
set_option maxRecDepth 20000 in
theorem ggX11_enter_Jx4a65c_add_9ea2d : GoodIn wsX11_enter wsJx4a65c_add_9ea2d := goodIn_r _ [72, 73, 74, 75, 63, 76, 77, 78, 61, 79, 80, 81, 82, 83, 84, 85, 86, 87, 88, 89, 39, 40, 41, 90, 91, 92, 93, 94, 95, 96, 97, 98, 99, 100, 101, 102, 103, 104, 105, 106, 107, 108, 109, 110, 111, 112, 113, 43, 44, 114, 115, 116, 117, 398, 399, 400] (by decide +kernel) (by decide +kernel)
set_option maxRecDepth 20000 in
theorem gX11_enter_Jx4a65c_add_9ea2d : GoodIn wsX11_enter (wsV RX11 127 RJx4a65c yJx4a65c_add_9ea2d wsJx4a65c_add_9ea2d) := goodIn_app (goodIn_of _ (by decide +kernel)) ggX11_enter_Jx4a65c_add_9ea2d
set_option maxRecDepth 20000 in
theorem ggX11_enter_X5_perform : GoodIn wsX11_enter wsX5_perform := goodIn_ca (goodIn_r _ [121, 10, 12, 122, 123, 124, 6, 125, 9, 26, 8, 27, 126, 127, 128, 14, 15, 16, 17, 18, 19, 20, 21, 129, 130, 131, 31, 132, 33, 51, 133, 52, 134, 135, 136, 137, 138, 139, 140, 141, 142, 143, 144, 145, 146, 147, 148, 149, 150, 151, 152, 153, 154, 155, 156, 157, 158, 159, 160, 161, 162, 163, 164, 165, 166, 167, 43, 40, 44, 168, 39, 41, 169, 170, 171, 172, 173, 174, 175, 176, 177, 178, 179, 180, 181, 182, 183, 184, 185, 186, 187, 188, 189, 190, 191, 192, 193, 194, 195, 196, 197, 198, 199, 200, 201, 11, 202, 203, 204, 205, 206, 207, 208, 209, 210, 211, 212, 213, 214, 215, 216, 217, 218, 219, 220, 221, 222, 223, 224, 225, 226, 227, 228, 229, 230, 231, 232, 233, 234, 235, 236, 237, 238, 239, 240, 241, 242, 243, 244, 245, 246, 247, 248, 249, 250, 251, 252, 253, 254, 255, 256, 257, 258, 259, 260, 261, 262, 263, 264, 265, 266, 267, 268, 269, 270, 271, 272, 273, 274, 275, 276, 277, 278, 279, 280, 281, 282, 283, 284, 285, 286, 287, 288, 289, 290, 291, 292, 293, 294, 295, 296, 297, 298, 299, 300, 301, 302, 303, 304, 305, 306, 307, 308, 309, 310, 311, 312, 313, 314, 315, 316, 317, 34, 35, 36, 37, 38, 42, 45, 46, 47, 48, 49, 50, 318, 319, 320, 321, 322, 323, 324, 325, 326, 327, 328, 329, 330, 331, 332, 333, 334, 335, 336, 337, 338, 339, 340, 341, 342, 343, 344, 345, 346, 347, 348, 349, 13, 350, 351, 352, 353, 354, 355, 370, 371, 372, 373, 374, 375, 376, 377, 378, 379, 380, 381, 388, 389, 390, 391, 392, 382, 383, 384, 393, 394, 395, 396, 397, 401, 402, 403, 404, 405, 406, 407, 408, 409, 410, 411, 412, 413, 414, 415, 385, 386, 387] (by decide +kernel) (by decide +kernel)) (goodIn_sub (fun _ h => List.mem_cons_of_mem _ (List.mem_append_left _ (List.mem_append_left _ (List.mem_append_right _ h)))) (by decide +kernel))
set_option maxRecDepth 20000 in
theorem gX11_enter_X5_perform : GoodIn wsX11_enter (wsV RX11 431 RX5 yX5_perform wsX5_perform) := goodIn_app (goodIn_of _ (by decide +kernel)) ggX11_enter_X5_perform
theorem dX11_enter_0 : decode cX11_enter 0 = .ok (.aload_n 0, 1) := by decide +kernel
theorem dX11_enter_1 : decode cX11_enter 1 = .ok (.getfield 62, 3) := by decide +kernel
theorem dX11_enter_4 : decode cX11_enter 4 = .ok (.aload_n 1, 1) := by decide +kernel
theorem dX11_enter_5 : decode cX11_enter 5 = .ok (.invokevirtual 427, 3) := by decide +kernel
theorem dX11_enter_8 : decode cX11_enter 8 = .ok (.invokestatic 142, 3) := by decide +kernel
theorem dX11_enter_11 : decode cX11_enter 11 = .ok (.aload_n 0, 1) := by decide +kernel
theorem dX11_enter_12 : decode cX11_enter 12 = .ok (.getfield 19, 3) := by decide +kernel
theorem dX11_enter_15 : decode cX11_enter 15 = .ok (.invokevirtual 95, 3) := by decide +kernel
theorem dX11_enter_18 : decode cX11_enter 18 = .ok (.bipush 40, 2) := by decide +kernel
theorem dX11_enter_20 : decode cX11_enter 20 = .ok (.if_icmp .ge 7, 3) := by decide +kernel
theorem dX11_enter_23 : decode cX11_enter 23 = .ok (.iconst 1, 1) := by decide +kernel
theorem dX11_enter_24 : decode cX11_enter 24 = .ok (.goto 4, 3) := by decide +kernel
theorem dX11_enter_27 : decode cX11_enter 27 = .ok (.iconst 0, 1) := by decide +kernel
theorem dX11_enter_28 : decode cX11_enter 28 = .ok (.invokestatic 99, 3) := by decide +kernel
theorem dX11_enter_31 : decode cX11_enter 31 = .ok (.aload_n 0, 1) := by decide +kernel
theorem dX11_enter_32 : decode cX11_enter 32 = .ok (.getfield 19, 3) := by decide +kernel
theorem dX11_enter_35 : decode cX11_enter 35 = .ok (.aload_n 1, 1) := by decide +kernel
theorem dX11_enter_36 : decode cX11_enter 36 = .ok (.invokevirtual 127, 3) := by decide +kernel
theorem dX11_enter_39 : decode cX11_enter 39 = .ok (.pop, 1) := by decide +kernel
theorem dX11_enter_40 : decode cX11_enter 40 = .ok (.aload_n 0, 1) := by decide +kernel
theorem dX11_enter_41 : decode cX11_enter 41 = .ok (.getfield 62, 3) := by decide +kernel
theorem dX11_enter_44 : decode cX11_enter 44 = .ok (.aload_n 1, 1) := by decide +kernel
theorem dX11_enter_45 : decode cX11_enter 45 = .ok (.invokevirtual 431, 3) := by decide +kernel
theorem dX11_enter_48 : decode cX11_enter 48 = .ok (.ireturn, 1) := by decide +kernel
set_option maxRecDepth 20000 in
theorem ggX11_redoAllBut_X5_empty : GoodIn wsX11_redoAllBut wsX5_empty := goodIn_r _ [8, 9, 10, 11, 12, 13, 332, 333, 334, 335, 336, 337, 338, 339] (by decide +kernel) (by decide +kernel)
set_option maxRecDepth 20000 in
theorem gX11_redoAllBut_X5_empty : GoodIn wsX11_redoAllBut (wsV RX11 434 RX5 yX5_empty wsX5_empty) := goodIn_app (goodIn_of _ (by decide +kernel)) ggX11_redoAllBut_X5_empty
set_option maxRecDepth 20000 in
theorem ggX11_redoAllBut_Jx4a65c_size_8abf5 : GoodIn wsX11_redoAllBut wsJx4a65c_size_8abf5 := goodIn_r _ [18, 19, 340, 341, 342] (by decide +kernel) (by decide +kernel)
set_option maxRecDepth 20000 in
theorem gX11_redoAllBut_Jx4a65c_size_8abf5 : GoodIn wsX11_redoAllBut (wsV RX11 95 RJx4a65c yJx4a65c_size_8abf5 wsJx4a65c_size_8abf5) := goodIn_app (goodIn_of _ (by decide +kernel)) ggX11_redoAllBut_Jx4a65c_size_8abf5
set_option maxRecDepth 20000 in
theorem ggX11_redoAllBut_Jx4a65c_get_915e3 : GoodIn wsX11_redoAllBut wsJx4a65c_get_915e3 := goodIn_r _ [23, 19, 24, 25, 26, 27, 28, 29, 30, 31, 32, 33, 34, 17, 35, 36, 340, 341, 342] (by decide +kernel) (by decide +kernel)
set_option maxRecDepth 20000 in
theorem gX11_redoAllBut_Jx4a65c_get_915e3 : GoodIn wsX11_redoAllBut (wsV RX11 145 RJx4a65c yJx4a65c_get_915e3 wsJx4a65c_get_915e3) := goodIn_app (goodIn_of _ (by decide +kernel)) ggX11_redoAllBut_Jx4a65c_get_915e3
set_option maxRecDepth 20000 in
theorem ggX11_redoAllBut_X5_canBear : GoodIn wsX11_redoAllBut wsX5_canBear := goodIn_ca (goodIn_r _ [40, 41, 42, 43, 12, 44, 45, 46, 47, 48, 7, 49, 11, 50, 51, 52, 53, 54, 55, 56, 57, 58, 59, 60, 61, 62, 63, 64, 65, 66, 67, 68, 69, 70, 71, 72, 73, 74, 75, 76, 77, 78, 79, 80, 81, 82, 83, 343, 344, 345, 346, 347, 348, 349, 350, 351, 352, 353, 354, 337, 338, 339, 355, 356, 357, 332, 333, 334, 335, 336, 358, 359, 360, 361, 362] (by decide +kernel) (by decide +kernel)) (goodIn_sub (fun _ h => List.mem_cons_of_mem _ (List.mem_append_right _ h)) (by decide +kernel))
set_option maxRecDepth 20000 in
theorem gX11_redoAllBut_X5_canBear : GoodIn wsX11_redoAllBut (wsV RX11 427 RX5 yX5_canBear wsX5_canBear) := goodIn_app (goodIn_of _ (by decide +kernel)) ggX11_redoAllBut_X5_canBear
set_option maxRecDepth 20000 in
theorem ggX11_redoAllBut_X5_perform : GoodIn wsX11_redoAllBut wsX5_perform := goodIn_ca (goodIn_r _ [87, 43, 44, 88, 89, 90, 7, 91, 42, 57, 41, 58, 92, 93, 9, 46, 47, 48, 49, 11, 50, 51, 52, 94, 95, 96, 62, 97, 64, 82, 98, 83, 99, 100, 101, 102, 103, 104, 105, 106, 107, 108, 109, 110, 111, 112, 113, 114, 115, 116, 117, 118, 119, 120, 121, 122, 123, 124, 125, 126, 127, 128, 129, 130, 131, 132, 74, 71, 75, 133, 70, 72, 134, 135, 136, 137, 138, 139, 140, 141, 142, 143, 144, 145, 146, 147, 148, 149, 150, 151, 152, 153, 154, 155, 156, 157, 158, 159, 160, 161, 162, 163, 10, 164, 165, 12, 166, 167, 168, 169, 170, 171, 172, 173, 174, 175, 176, 177, 178, 179, 180, 181, 182, 183, 184, 185, 186, 187, 188, 189, 190, 191, 192, 193, 194, 195, 196, 197, 198, 199, 200, 201, 202, 203, 204, 205, 206, 207, 208, 209, 210, 211, 212, 213, 214, 215, 216, 217, 218, 219, 220, 221, 222, 223, 224, 225, 226, 227, 228, 229, 230, 231, 232, 233, 234, 235, 236, 237, 238, 239, 240, 241, 242, 243, 244, 245, 30, 246, 247, 248, 249, 250, 251, 252, 253, 254, 255, 256, 257, 258, 259, 260, 261, 262, 263, 264, 265, 266, 267, 268, 269, 270, 271, 272, 273, 274, 275, 276, 277, 278, 279, 280, 65, 66, 67, 68, 69, 73, 76, 77, 78, 79, 80, 81, 281, 282, 283, 284, 285, 286, 287, 288, 289, 290, 291, 292, 293, 294, 295, 296, 297, 298, 299, 300, 301, 302, 303, 304, 305, 306, 307, 13, 308, 309, 310, 311, 45, 312, 313, 314, 315, 316, 317, 343, 344, 345, 346, 347, 348, 349, 350, 351, 352, 353, 354, 332, 333, 334, 335, 336, 337, 338, 339, 358, 359, 360, 361, 362, 363, 364, 365, 366, 367, 368, 369, 370, 371, 372, 373, 374, 375, 376, 377, 355, 356, 357] (by decide +kernel) (by decide +kernel)) (goodIn_sub (fun _ h => List.mem_cons_of_mem _ (List.mem_append_right _ h)) (by decide +kernel))
set_option maxRecDepth 20000 in
theorem gX11_redoAllBut_X5_perform : GoodIn wsX11_redoAllBut (wsV RX11 431 RX5 yX5_perform wsX5_perform) := goodIn_app (goodIn_of _ (by decide +kernel)) ggX11_redoAllBut_X5_perform
theorem dX11_redoAllBut_0 : decode cX11_redoAllBut 0 = .ok (.aload_n 0, 1) := by decide +kernel
theorem dX11_redoAllBut_1 : decode cX11_redoAllBut 1 = .ok (.getfield 66, 3) := by decide +kernel
theorem dX11_redoAllBut_4 : decode cX11_redoAllBut 4 = .ok (.invokevirtual 434, 3) := by decide +kernel
theorem dX11_redoAllBut_7 : decode cX11_redoAllBut 7 = .ok (.iconst 0, 1) := by decide +kernel
theorem dX11_redoAllBut_8 : decode cX11_redoAllBut 8 = .ok (.istore_n 2, 1) := by decide +kernel
theorem dX11_redoAllBut_9 : decode cX11_redoAllBut 9 = .ok (.iload_n 2, 1) := by decide +kernel
theorem dX11_redoAllBut_10 : decode cX11_redoAllBut 10 = .ok (.aload_n 0, 1) := by decide +kernel
theorem dX11_redoAllBut_11 : decode cX11_redoAllBut 11 = .ok (.getfield 19, 3) := by decide +kernel
theorem dX11_redoAllBut_14 : decode cX11_redoAllBut 14 = .ok (.invokevirtual 95, 3) := by decide +kernel
theorem dX11_redoAllBut_17 : decode cX11_redoAllBut 17 = .ok (.if_icmp .ge 56, 3) := by decide +kernel
theorem dX11_redoAllBut_20 : decode cX11_redoAllBut 20 = .ok (.iload_n 2, 1) := by decide +kernel
theorem dX11_redoAllBut_21 : decode cX11_redoAllBut 21 = .ok (.iload_n 1, 1) := by decide +kernel
theorem dX11_redoAllBut_22 : decode cX11_redoAllBut 22 = .ok (.if_icmp .eq 45, 3) := by decide +kernel
theorem dX11_redoAllBut_25 : decode cX11_redoAllBut 25 = .ok (.aload_n 0, 1) := by decide +kernel
theorem dX11_redoAllBut_26 : decode cX11_redoAllBut 26 = .ok (.getfield 66, 3) := by decide +kernel
theorem dX11_redoAllBut_29 : decode cX11_redoAllBut 29 = .ok (.aload_n 0, 1) := by decide +kernel
theorem dX11_redoAllBut_30 : decode cX11_redoAllBut 30 = .ok (.getfield 19, 3) := by decide +kernel
theorem dX11_redoAllBut_33 : decode cX11_redoAllBut 33 = .ok (.iload_n 2, 1) := by decide +kernel
theorem dX11_redoAllBut_34 : decode cX11_redoAllBut 34 = .ok (.invokevirtual 145, 3) := by decide +kernel
theorem dX11_redoAllBut_37 : decode cX11_redoAllBut 37 = .ok (.checkcast 161, 3) := by decide +kernel
theorem dX11_redoAllBut_40 : decode cX11_redoAllBut 40 = .ok (.invokevirtual 427, 3) := by decide +kernel
theorem dX11_redoAllBut_43 : decode cX11_redoAllBut 43 = .ok (.ifCond .ne 5, 3) := by decide +kernel
theorem dX11_redoAllBut_46 : decode cX11_redoAllBut 46 = .ok (.iconst 0, 1) := by decide +kernel
theorem dX11_redoAllBut_47 : decode cX11_redoAllBut 47 = .ok (.ireturn, 1) := by decide +kernel
theorem dX11_redoAllBut_48 : decode cX11_redoAllBut 48 = .ok (.aload_n 0, 1) := by decide +kernel
theorem dX11_redoAllBut_49 : decode cX11_redoAllBut 49 = .ok (.getfield 66, 3) := by decide +kernel
theorem dX11_redoAllBut_52 : decode cX11_redoAllBut 52 = .ok (.aload_n 0, 1) := by decide +kernel
theorem dX11_redoAllBut_53 : decode cX11_redoAllBut 53 = .ok (.getfield 19, 3) := by decide +kernel
theorem dX11_redoAllBut_56 : decode cX11_redoAllBut 56 = .ok (.iload_n 2, 1) := by decide +kernel
theorem dX11_redoAllBut_57 : decode cX11_redoAllBut 57 = .ok (.invokevirtual 145, 3) := by decide +kernel
theorem dX11_redoAllBut_60 : decode cX11_redoAllBut 60 = .ok (.checkcast 161, 3) := by decide +kernel
theorem dX11_redoAllBut_63 : decode cX11_redoAllBut 63 = .ok (.invokevirtual 431, 3) := by decide +kernel
theorem dX11_redoAllBut_66 : decode cX11_redoAllBut 66 = .ok (.pop, 1) := by decide +kernel
theorem dX11_redoAllBut_67 : decode cX11_redoAllBut 67 = .ok (.iinc 2 1, 3) := by decide +kernel
theorem dX11_redoAllBut_70 : decode cX11_redoAllBut 70 = .ok (.goto (-61), 3) := by decide +kernel
theorem dX11_redoAllBut_73 : decode cX11_redoAllBut 73 = .ok (.iconst 1, 1) := by decide +kernel
theorem dX11_redoAllBut_74 : decode cX11_redoAllBut 74 = .ok (.ireturn, 1) := by decide +kernel
set_option maxRecDepth 20000 in
theorem ggX11_isHarmless_X5_at : GoodIn wsX11_isHarmless wsX5_at := goodIn_r _ [12, 13, 14, 15, 16, 157, 158, 159, 160, 161] (by decide +kernel) (by decide +kernel)
set_option maxRecDepth 20000 in
theorem gX11_isHarmless_X5_at : GoodIn wsX11_isHarmless (wsV RX11 179 RX5 yX5_at wsX5_at) := goodIn_app (goodIn_of _ (by decide +kernel)) ggX11_isHarmless_X5_at
set_option maxRecDepth 20000 in
theorem ggX11_isHarmless_X8_soluble : GoodIn wsX11_isHarmless wsX8_soluble := goodIn_r _ [21, 22, 23, 24, 25, 26, 27, 28, 29, 30, 31, 32, 33, 34, 35, 36, 37, 38, 39, 40, 41, 42, 43, 44, 45, 46, 47, 48, 49, 50, 51, 52, 53, 54, 55, 56, 57, 58, 59, 60, 61, 62, 63, 64, 65, 66, 67, 68, 69, 70, 71, 72, 73, 74, 75, 76, 77, 78, 79, 80, 81, 82, 83, 84, 85, 86, 87, 88, 89, 90, 91, 92, 93, 94, 95, 96, 97, 98, 99, 100, 101, 102, 103, 104, 105, 106, 107, 108, 109, 110, 111, 112, 113, 114, 115, 116, 117, 118, 119, 120, 121, 122, 162, 163, 164, 165, 166, 167, 168, 169, 170, 171, 172, 173, 174, 175, 176, 177, 178, 179, 180, 181, 182, 183, 184] (by decide +kernel) (by decide +kernel)
set_option maxRecDepth 20000 in
theorem gX11_isHarmless_X8_soluble : GoodIn wsX11_isHarmless (wsV RX11 445 RX8 yX8_soluble wsX8_soluble) := goodIn_app (goodIn_of _ (by decide +kernel)) ggX11_isHarmless_X8_soluble
set_option maxRecDepth 20000 in
theorem ggX11_isHarmless_X8_hasGlazeDownTo : GoodIn wsX11_isHarmless wsX8_hasGlazeDownTo := goodIn_r _ [126, 22, 23, 24, 127, 25, 162, 163, 164, 165, 166, 167, 168, 169, 170, 171, 172, 173, 174, 175, 176, 177, 178, 179, 180] (by decide +kernel) (by decide +kernel)
set_option maxRecDepth 20000 in
theorem gX11_isHarmless_X8_hasGlazeDownTo : GoodIn wsX11_isHarmless (wsV RX11 448 RX8 yX8_hasGlazeDownTo wsX8_hasGlazeDownTo) := goodIn_app (goodIn_of _ (by decide +kernel)) ggX11_isHarmless_X8_hasGlazeDownTo
theorem dX11_isHarmless_0 : decode cX11_isHarmless 0 = .ok (.aload_n 0, 1) := by decide +kernel
theorem dX11_isHarmless_1 : decode cX11_isHarmless 1 = .ok (.getfield 62, 3) := by decide +kernel
theorem dX11_isHarmless_4 : decode cX11_isHarmless 4 = .ok (.aload_n 2, 1) := by decide +kernel
theorem dX11_isHarmless_5 : decode cX11_isHarmless 5 = .ok (.getfield 437, 3) := by decide +kernel
theorem dX11_isHarmless_8 : decode cX11_isHarmless 8 = .ok (.aload_n 2, 1) := by decide +kernel
theorem dX11_isHarmless_9 : decode cX11_isHarmless 9 = .ok (.getfield 440, 3) := by decide +kernel
theorem dX11_isHarmless_12 : decode cX11_isHarmless 12 = .ok (.invokevirtual 179, 3) := by decide +kernel
theorem dX11_isHarmless_15 : decode cX11_isHarmless 15 = .ok (.astore_n 3, 1) := by decide +kernel
theorem dX11_isHarmless_16 : decode cX11_isHarmless 16 = .ok (.aload_n 3, 1) := by decide +kernel
theorem dX11_isHarmless_17 : decode cX11_isHarmless 17 = .ok (.aload_n 2, 1) := by decide +kernel
theorem dX11_isHarmless_18 : decode cX11_isHarmless 18 = .ok (.getfield 326, 3) := by decide +kernel
theorem dX11_isHarmless_21 : decode cX11_isHarmless 21 = .ok (.aload_n 2, 1) := by decide +kernel
theorem dX11_isHarmless_22 : decode cX11_isHarmless 22 = .ok (.getfield 442, 3) := by decide +kernel
theorem dX11_isHarmless_25 : decode cX11_isHarmless 25 = .ok (.aload_n 2, 1) := by decide +kernel
theorem dX11_isHarmless_26 : decode cX11_isHarmless 26 = .ok (.getfield 330, 3) := by decide +kernel
theorem dX11_isHarmless_29 : decode cX11_isHarmless 29 = .ok (.imul, 1) := by decide +kernel
theorem dX11_isHarmless_30 : decode cX11_isHarmless 30 = .ok (.invokevirtual 445, 3) := by decide +kernel
theorem dX11_isHarmless_33 : decode cX11_isHarmless 33 = .ok (.istore 4, 2) := by decide +kernel
theorem dX11_isHarmless_35 : decode cX11_isHarmless 35 = .ok (.iload 4, 2) := by decide +kernel
theorem dX11_isHarmless_37 : decode cX11_isHarmless 37 = .ok (.aload_n 1, 1) := by decide +kernel
theorem dX11_isHarmless_38 : decode cX11_isHarmless 38 = .ok (.getfield 317, 3) := by decide +kernel
theorem dX11_isHarmless_41 : decode cX11_isHarmless 41 = .ok (.if_icmp .gt 16, 3) := by decide +kernel
theorem dX11_isHarmless_44 : decode cX11_isHarmless 44 = .ok (.aload_n 3, 1) := by decide +kernel
theorem dX11_isHarmless_45 : decode cX11_isHarmless 45 = .ok (.iload 4, 2) := by decide +kernel
theorem dX11_isHarmless_47 : decode cX11_isHarmless 47 = .ok (.invokevirtual 448, 3) := by decide +kernel
theorem dX11_isHarmless_50 : decode cX11_isHarmless 50 = .ok (.ifCond .ne 7, 3) := by decide +kernel
theorem dX11_isHarmless_53 : decode cX11_isHarmless 53 = .ok (.iconst 1, 1) := by decide +kernel
theorem dX11_isHarmless_54 : decode cX11_isHarmless 54 = .ok (.goto 4, 3) := by decide +kernel
theorem dX11_isHarmless_57 : decode cX11_isHarmless 57 = .ok (.iconst 0, 1) := by decide +kernel
theorem dX11_isHarmless_58 : decode cX11_isHarmless 58 = .ok (.ireturn, 1) := by decide +kernel
theorem dX11_isWithin_0 : decode cX11_isWithin 0 = .ok (.iload_n 0, 1) := by decide +kernel
theorem dX11_isWithin_1 : decode cX11_isWithin 1 = .ok (.iload_n 1, 1) := by decide +kernel
theorem dX11_isWithin_2 : decode cX11_isWithin 2 = .ok (.if_icmp .lt 12, 3) := by decide +kernel
theorem dX11_isWithin_5 : decode cX11_isWithin 5 = .ok (.iload_n 0, 1) := by decide +kernel
theorem dX11_isWithin_6 : decode cX11_isWithin 6 = .ok (.iload_n 2, 1) := by decide +kernel
theorem dX11_isWithin_7 : decode cX11_isWithin 7 = .ok (.if_icmp .gt 7, 3) := by decide +kernel
theorem dX11_isWithin_10 : decode cX11_isWithin 10 = .ok (.iconst 1, 1) := by decide +kernel
theorem dX11_isWithin_11 : decode cX11_isWithin 11 = .ok (.goto 4, 3) := by decide +kernel
theorem dX11_isWithin_14 : decode cX11_isWithin 14 = .ok (.iconst 0, 1) := by decide +kernel
theorem dX11_isWithin_15 : decode cX11_isWithin 15 = .ok (.ireturn, 1) := by decide +kernel
theorem dX11_isPlace_0 : decode cX11_isPlace 0 = .ok (.iload_n 0, 1) := by decide +kernel
theorem dX11_isPlace_1 : decode cX11_isPlace 1 = .ok (.ifCond .lt 23, 3) := by decide +kernel
theorem dX11_isPlace_4 : decode cX11_isPlace 4 = .ok (.iload_n 0, 1) := by decide +kernel
theorem dX11_isPlace_5 : decode cX11_isPlace 5 = .ok (.bipush 8, 2) := by decide +kernel
theorem dX11_isPlace_7 : decode cX11_isPlace 7 = .ok (.if_icmp .ge 17, 3) := by decide +kernel
theorem dX11_isPlace_10 : decode cX11_isPlace 10 = .ok (.iload_n 1, 1) := by decide +kernel
theorem dX11_isPlace_11 : decode cX11_isPlace 11 = .ok (.ifCond .lt 13, 3) := by decide +kernel
theorem dX11_isPlace_14 : decode cX11_isPlace 14 = .ok (.iload_n 1, 1) := by decide +kernel
theorem dX11_isPlace_15 : decode cX11_isPlace 15 = .ok (.bipush 6, 2) := by decide +kernel
theorem dX11_isPlace_17 : decode cX11_isPlace 17 = .ok (.if_icmp .ge 7, 3) := by decide +kernel
theorem dX11_isPlace_20 : decode cX11_isPlace 20 = .ok (.iconst 1, 1) := by decide +kernel
theorem dX11_isPlace_21 : decode cX11_isPlace 21 = .ok (.goto 4, 3) := by decide +kernel
theorem dX11_isPlace_24 : decode cX11_isPlace 24 = .ok (.iconst 0, 1) := by decide +kernel
theorem dX11_isPlace_25 : decode cX11_isPlace 25 = .ok (.ireturn, 1) := by decide +kernel
theorem dX11_placeOf_0 : decode cX11_placeOf 0 = .ok (.iload_n 1, 1) := by decide +kernel
theorem dX11_placeOf_1 : decode cX11_placeOf 1 = .ok (.bipush 8, 2) := by decide +kernel
theorem dX11_placeOf_3 : decode cX11_placeOf 3 = .ok (.imul, 1) := by decide +kernel
theorem dX11_placeOf_4 : decode cX11_placeOf 4 = .ok (.iload_n 0, 1) := by decide +kernel
theorem dX11_placeOf_5 : decode cX11_placeOf 5 = .ok (.iadd, 1) := by decide +kernel
theorem dX11_placeOf_6 : decode cX11_placeOf 6 = .ok (.ireturn, 1) := by decide +kernel
theorem dX11_isHidden_0 : decode cX11_isHidden 0 = .ok (.iload_n 0, 1) := by decide +kernel
theorem dX11_isHidden_1 : decode cX11_isHidden 1 = .ok (.ifCond .eq 18, 3) := by decide +kernel
theorem dX11_isHidden_4 : decode cX11_isHidden 4 = .ok (.iload_n 0, 1) := by decide +kernel
theorem dX11_isHidden_5 : decode cX11_isHidden 5 = .ok (.bipush 7, 2) := by decide +kernel
theorem dX11_isHidden_7 : decode cX11_isHidden 7 = .ok (.if_icmp .eq 12, 3) := by decide +kernel
theorem dX11_isHidden_10 : decode cX11_isHidden 10 = .ok (.iload_n 1, 1) := by decide +kernel
theorem dX11_isHidden_11 : decode cX11_isHidden 11 = .ok (.ifCond .eq 8, 3) := by decide +kernel
theorem dX11_isHidden_14 : decode cX11_isHidden 14 = .ok (.iload_n 1, 1) := by decide +kernel
theorem dX11_isHidden_15 : decode cX11_isHidden 15 = .ok (.iconst 5, 1) := by decide +kernel
theorem dX11_isHidden_16 : decode cX11_isHidden 16 = .ok (.if_icmp .ne 7, 3) := by decide +kernel
theorem dX11_isHidden_19 : decode cX11_isHidden 19 = .ok (.iconst 1, 1) := by decide +kernel
theorem dX11_isHidden_20 : decode cX11_isHidden 20 = .ok (.goto 4, 3) := by decide +kernel
theorem dX11_isHidden_23 : decode cX11_isHidden 23 = .ok (.iconst 0, 1) := by decide +kernel
theorem dX11_isHidden_24 : decode cX11_isHidden 24 = .ok (.ireturn, 1) := by decide +kernel
theorem dX11_demandArgument_0 : decode cX11_demandArgument 0 = .ok (.iload_n 0, 1) := by decide +kernel
theorem dX11_demandArgument_1 : decode cX11_demandArgument 1 = .ok (.ifCond .ne 14, 3) := by decide +kernel
theorem dX11_demandArgument_4 : decode cX11_demandArgument 4 = .ok (.new 451, 3) := by decide +kernel
theorem dX11_demandArgument_7 : decode cX11_demandArgument 7 = .ok (.dup, 1) := by decide +kernel
theorem dX11_demandArgument_8 : decode cX11_demandArgument 8 = .ok (.ldc_w 453, 3) := by decide +kernel
theorem dX11_demandArgument_11 : decode cX11_demandArgument 11 = .ok (.invokespecial 455, 3) := by decide +kernel
theorem dX11_demandArgument_14 : decode cX11_demandArgument 14 = .ok (.athrow, 1) := by decide +kernel
theorem dX11_demandArgument_15 : decode cX11_demandArgument 15 = .ok (.return_, 1) := by decide +kernel
set_option maxRecDepth 20000 in
theorem ggX11_demandPlace_X11_isPlace : GoodIn wsX11_demandPlace wsX11_isPlace := goodIn_r _ [6] (by decide +kernel) (by decide +kernel)
set_option maxRecDepth 20000 in
theorem gX11_demandPlace_X11_isPlace : GoodIn wsX11_demandPlace (va_wsS RX11 157 yX11_isPlace wsX11_isPlace) := goodIn_app (goodIn_of _ (by decide +kernel)) ggX11_demandPlace_X11_isPlace
theorem dX11_demandPlace_0 : decode cX11_demandPlace 0 = .ok (.iload_n 0, 1) := by decide +kernel
theorem dX11_demandPlace_1 : decode cX11_demandPlace 1 = .ok (.iload_n 1, 1) := by decide +kernel
theorem dX11_demandPlace_2 : decode cX11_demandPlace 2 = .ok (.invokestatic 157, 3) := by decide +kernel
theorem dX11_demandPlace_5 : decode cX11_demandPlace 5 = .ok (.ifCond .ne 14, 3) := by decide +kernel
theorem dX11_demandPlace_8 : decode cX11_demandPlace 8 = .ok (.new 451, 3) := by decide +kernel
theorem dX11_demandPlace_11 : decode cX11_demandPlace 11 = .ok (.dup, 1) := by decide +kernel
theorem dX11_demandPlace_12 : decode cX11_demandPlace 12 = .ok (.ldc_w 458, 3) := by decide +kernel
theorem dX11_demandPlace_15 : decode cX11_demandPlace 15 = .ok (.invokespecial 455, 3) := by decide +kernel
theorem dX11_demandPlace_18 : decode cX11_demandPlace 18 = .ok (.athrow, 1) := by decide +kernel
theorem dX11_demandPlace_19 : decode cX11_demandPlace 19 = .ok (.return_, 1) := by decide +kernel
set_option maxRecDepth 20000 in
theorem ggX11_demandRayAndPlace_J0_indexOf_0f7a4 : GoodIn wsX11_demandRayAndPlace wsJ0_indexOf_0f7a4 := goodIn_r _ [7, 8, 9, 10, 6, 11, 12, 13, 14, 15, 16, 17, 18, 19, 20, 21, 22, 23, 24, 25, 26, 27, 28, 29, 30, 31, 32, 33, 34, 35, 36, 37, 38, 39, 40, 41, 42, 43, 44, 45, 46, 47, 48, 49, 50, 51, 52, 53, 54, 55, 56, 57, 58, 59, 60, 61, 62, 63, 64, 65, 66, 67, 68, 69, 70, 71, 72, 73, 74, 75, 76, 77, 78, 79, 80, 81, 82, 83, 84, 85, 86, 87, 88, 89, 90, 91, 96, 97, 98, 99] (by decide +kernel) (by decide +kernel)
set_option maxRecDepth 20000 in
theorem gX11_demandRayAndPlace_J0_indexOf_0f7a4 : GoodIn wsX11_demandRayAndPlace (wsV RX11 81 RJ0 yJ0_indexOf_0f7a4 wsJ0_indexOf_0f7a4) := goodIn_app (goodIn_of _ (by decide +kernel)) ggX11_demandRayAndPlace_J0_indexOf_0f7a4
set_option maxRecDepth 20000 in
theorem ggX11_demandRayAndPlace_X11_isPlace : GoodIn wsX11_demandRayAndPlace wsX11_isPlace := goodIn_r _ [95] (by decide +kernel) (by decide +kernel)
set_option maxRecDepth 20000 in
theorem gX11_demandRayAndPlace_X11_isPlace : GoodIn wsX11_demandRayAndPlace (va_wsS RX11 157 yX11_isPlace wsX11_isPlace) := goodIn_app (goodIn_of _ (by decide +kernel)) ggX11_demandRayAndPlace_X11_isPlace
theorem dX11_demandRayAndPlace_0 : decode cX11_demandRayAndPlace 0 = .ok (.ldc 216, 2) := by decide +kernel
theorem dX11_demandRayAndPlace_2 : decode cX11_demandRayAndPlace 2 = .ok (.iload_n 0, 1) := by decide +kernel
theorem dX11_demandRayAndPlace_3 : decode cX11_demandRayAndPlace 3 = .ok (.invokevirtual 81, 3) := by decide +kernel
theorem dX11_demandRayAndPlace_6 : decode cX11_demandRayAndPlace 6 = .ok (.ifCond .lt 11, 3) := by decide +kernel
theorem dX11_demandRayAndPlace_9 : decode cX11_demandRayAndPlace 9 = .ok (.iload_n 1, 1) := by decide +kernel
theorem dX11_demandRayAndPlace_10 : decode cX11_demandRayAndPlace 10 = .ok (.iload_n 2, 1) := by decide +kernel
theorem dX11_demandRayAndPlace_11 : decode cX11_demandRayAndPlace 11 = .ok (.invokestatic 157, 3) := by decide +kernel
theorem dX11_demandRayAndPlace_14 : decode cX11_demandRayAndPlace 14 = .ok (.ifCond .ne 14, 3) := by decide +kernel
theorem dX11_demandRayAndPlace_17 : decode cX11_demandRayAndPlace 17 = .ok (.new 451, 3) := by decide +kernel
theorem dX11_demandRayAndPlace_20 : decode cX11_demandRayAndPlace 20 = .ok (.dup, 1) := by decide +kernel
theorem dX11_demandRayAndPlace_21 : decode cX11_demandRayAndPlace 21 = .ok (.ldc_w 460, 3) := by decide +kernel
theorem dX11_demandRayAndPlace_24 : decode cX11_demandRayAndPlace 24 = .ok (.invokespecial 455, 3) := by decide +kernel
theorem dX11_demandRayAndPlace_27 : decode cX11_demandRayAndPlace 27 = .ok (.athrow, 1) := by decide +kernel
theorem dX11_demandRayAndPlace_28 : decode cX11_demandRayAndPlace 28 = .ok (.return_, 1) := by decide +kernel
set_option maxRecDepth 20000 in
theorem ggX11_demandHabits_X11_isWithin : GoodIn wsX11_demandHabits wsX11_isWithin := goodIn_r _ [4] (by decide +kernel) (by decide +kernel)
set_option maxRecDepth 20000 in
theorem gX11_demandHabits_X11_isWithin : GoodIn wsX11_demandHabits (va_wsS RX11 91 yX11_isWithin wsX11_isWithin) := goodIn_app (goodIn_of _ (by decide +kernel)) ggX11_demandHabits_X11_isWithin
set_option maxRecDepth 20000 in
theorem ggX11_demandHabits_X11_demandArgument : GoodIn wsX11_demandHabits wsX11_demandArgument := goodIn_ca (goodIn_r _ [7, 8, 9] (by decide +kernel) (by decide +kernel)) (goodIn_sub (fun _ h => List.mem_cons_of_mem _ (List.mem_append_right _ h)) (by decide +kernel))
set_option maxRecDepth 20000 in
theorem gX11_demandHabits_X11_demandArgument : GoodIn wsX11_demandHabits (va_wsS RX11 87 yX11_demandArgument wsX11_demandArgument) := goodIn_app (goodIn_of _ (by decide +kernel)) ggX11_demandHabits_X11_demandArgument
theorem dX11_demandHabits_0 : decode cX11_demandHabits 0 = .ok (.iload_n 0, 1) := by decide +kernel
theorem dX11_demandHabits_1 : decode cX11_demandHabits 1 = .ok (.iconst 0, 1) := by decide +kernel
theorem dX11_demandHabits_2 : decode cX11_demandHabits 2 = .ok (.bipush 99, 2) := by decide +kernel
theorem dX11_demandHabits_4 : decode cX11_demandHabits 4 = .ok (.invokestatic 91, 3) := by decide +kernel
theorem dX11_demandHabits_7 : decode cX11_demandHabits 7 = .ok (.ifCond .eq 17, 3) := by decide +kernel
theorem dX11_demandHabits_10 : decode cX11_demandHabits 10 = .ok (.iload_n 1, 1) := by decide +kernel
theorem dX11_demandHabits_11 : decode cX11_demandHabits 11 = .ok (.iconst 0, 1) := by decide +kernel
theorem dX11_demandHabits_12 : decode cX11_demandHabits 12 = .ok (.bipush 99, 2) := by decide +kernel
theorem dX11_demandHabits_14 : decode cX11_demandHabits 14 = .ok (.invokestatic 91, 3) := by decide +kernel
theorem dX11_demandHabits_17 : decode cX11_demandHabits 17 = .ok (.ifCond .eq 7, 3) := by decide +kernel
theorem dX11_demandHabits_20 : decode cX11_demandHabits 20 = .ok (.iconst 1, 1) := by decide +kernel
theorem dX11_demandHabits_21 : decode cX11_demandHabits 21 = .ok (.goto 4, 3) := by decide +kernel
theorem dX11_demandHabits_24 : decode cX11_demandHabits 24 = .ok (.iconst 0, 1) := by decide +kernel
theorem dX11_demandHabits_25 : decode cX11_demandHabits 25 = .ok (.invokestatic 87, 3) := by decide +kernel
theorem dX11_demandHabits_28 : decode cX11_demandHabits 28 = .ok (.iload_n 2, 1) := by decide +kernel
theorem dX11_demandHabits_29 : decode cX11_demandHabits 29 = .ok (.iconst 0, 1) := by decide +kernel
theorem dX11_demandHabits_30 : decode cX11_demandHabits 30 = .ok (.bipush 99, 2) := by decide +kernel
theorem dX11_demandHabits_32 : decode cX11_demandHabits 32 = .ok (.invokestatic 91, 3) := by decide +kernel
theorem dX11_demandHabits_35 : decode cX11_demandHabits 35 = .ok (.ifCond .eq 17, 3) := by decide +kernel
theorem dX11_demandHabits_38 : decode cX11_demandHabits 38 = .ok (.iload_n 3, 1) := by decide +kernel
theorem dX11_demandHabits_39 : decode cX11_demandHabits 39 = .ok (.iconst 0, 1) := by decide +kernel
theorem dX11_demandHabits_40 : decode cX11_demandHabits 40 = .ok (.bipush 99, 2) := by decide +kernel
theorem dX11_demandHabits_42 : decode cX11_demandHabits 42 = .ok (.invokestatic 91, 3) := by decide +kernel
theorem dX11_demandHabits_45 : decode cX11_demandHabits 45 = .ok (.ifCond .eq 7, 3) := by decide +kernel
theorem dX11_demandHabits_48 : decode cX11_demandHabits 48 = .ok (.iconst 1, 1) := by decide +kernel
theorem dX11_demandHabits_49 : decode cX11_demandHabits 49 = .ok (.goto 4, 3) := by decide +kernel
theorem dX11_demandHabits_52 : decode cX11_demandHabits 52 = .ok (.iconst 0, 1) := by decide +kernel
theorem dX11_demandHabits_53 : decode cX11_demandHabits 53 = .ok (.invokestatic 87, 3) := by decide +kernel
theorem dX11_demandHabits_56 : decode cX11_demandHabits 56 = .ok (.return_, 1) := by decide +kernel
theorem dX11_demandIndex_0 : decode cX11_demandIndex 0 = .ok (.iload_n 0, 1) := by decide +kernel
theorem dX11_demandIndex_1 : decode cX11_demandIndex 1 = .ok (.ifCond .lt 8, 3) := by decide +kernel
theorem dX11_demandIndex_4 : decode cX11_demandIndex 4 = .ok (.iload_n 0, 1) := by decide +kernel
theorem dX11_demandIndex_5 : decode cX11_demandIndex 5 = .ok (.iload_n 1, 1) := by decide +kernel
theorem dX11_demandIndex_6 : decode cX11_demandIndex 6 = .ok (.if_icmp .lt 14, 3) := by decide +kernel
theorem dX11_demandIndex_9 : decode cX11_demandIndex 9 = .ok (.new 462, 3) := by decide +kernel
theorem dX11_demandIndex_12 : decode cX11_demandIndex 12 = .ok (.dup, 1) := by decide +kernel
theorem dX11_demandIndex_13 : decode cX11_demandIndex 13 = .ok (.ldc_w 464, 3) := by decide +kernel
theorem dX11_demandIndex_16 : decode cX11_demandIndex 16 = .ok (.invokespecial 466, 3) := by decide +kernel
theorem dX11_demandIndex_19 : decode cX11_demandIndex 19 = .ok (.athrow, 1) := by decide +kernel
theorem dX11_demandIndex_20 : decode cX11_demandIndex 20 = .ok (.return_, 1) := by decide +kernel
theorem dX11_demandElement_0 : decode cX11_demandElement 0 = .ok (.iload_n 0, 1) := by decide +kernel
theorem dX11_demandElement_1 : decode cX11_demandElement 1 = .ok (.ifCond .ne 14, 3) := by decide +kernel
theorem dX11_demandElement_4 : decode cX11_demandElement 4 = .ok (.new 467, 3) := by decide +kernel
theorem dX11_demandElement_7 : decode cX11_demandElement 7 = .ok (.dup, 1) := by decide +kernel
theorem dX11_demandElement_8 : decode cX11_demandElement 8 = .ok (.ldc_w 469, 3) := by decide +kernel
theorem dX11_demandElement_11 : decode cX11_demandElement 11 = .ok (.invokespecial 471, 3) := by decide +kernel
theorem dX11_demandElement_14 : decode cX11_demandElement 14 = .ok (.athrow, 1) := by decide +kernel
theorem dX11_demandElement_15 : decode cX11_demandElement 15 = .ok (.return_, 1) := by decide +kernel
theorem dX11_demandPossible_0 : decode cX11_demandPossible 0 = .ok (.iload_n 0, 1) := by decide +kernel
theorem dX11_demandPossible_1 : decode cX11_demandPossible 1 = .ok (.ifCond .ne 14, 3) := by decide +kernel
theorem dX11_demandPossible_4 : decode cX11_demandPossible 4 = .ok (.new 472, 3) := by decide +kernel
theorem dX11_demandPossible_7 : decode cX11_demandPossible 7 = .ok (.dup, 1) := by decide +kernel
theorem dX11_demandPossible_8 : decode cX11_demandPossible 8 = .ok (.ldc_w 474, 3) := by decide +kernel
theorem dX11_demandPossible_11 : decode cX11_demandPossible 11 = .ok (.invokespecial 476, 3) := by decide +kernel
theorem dX11_demandPossible_14 : decode cX11_demandPossible 14 = .ok (.athrow, 1) := by decide +kernel
theorem dX11_demandPossible_15 : decode cX11_demandPossible 15 = .ok (.return_, 1) := by decide +kernel
theorem dX11_demandRoom_0 : decode cX11_demandRoom 0 = .ok (.iload_n 0, 1) := by decide +kernel
theorem dX11_demandRoom_1 : decode cX11_demandRoom 1 = .ok (.ifCond .ne 14, 3) := by decide +kernel
theorem dX11_demandRoom_4 : decode cX11_demandRoom 4 = .ok (.new 477, 3) := by decide +kernel
theorem dX11_demandRoom_7 : decode cX11_demandRoom 7 = .ok (.dup, 1) := by decide +kernel
theorem dX11_demandRoom_8 : decode cX11_demandRoom 8 = .ok (.ldc_w 479, 3) := by decide +kernel
theorem dX11_demandRoom_11 : decode cX11_demandRoom 11 = .ok (.invokespecial 481, 3) := by decide +kernel
theorem dX11_demandRoom_14 : decode cX11_demandRoom 14 = .ok (.athrow, 1) := by decide +kernel
theorem dX11_demandRoom_15 : decode cX11_demandRoom 15 = .ok (.return_, 1) := by decide +kernel
theorem dX11_demandCovered_0 : decode cX11_demandCovered 0 = .ok (.iload_n 0, 1) := by decide +kernel
theorem dX11_demandCovered_1 : decode cX11_demandCovered 1 = .ok (.ifCond .ne 14, 3) := by decide +kernel
theorem dX11_demandCovered_4 : decode cX11_demandCovered 4 = .ok (.new 482, 3) := by decide +kernel
theorem dX11_demandCovered_7 : decode cX11_demandCovered 7 = .ok (.dup, 1) := by decide +kernel
theorem dX11_demandCovered_8 : decode cX11_demandCovered 8 = .ok (.ldc_w 484, 3) := by decide +kernel
theorem dX11_demandCovered_11 : decode cX11_demandCovered 11 = .ok (.invokespecial 486, 3) := by decide +kernel
theorem dX11_demandCovered_14 : decode cX11_demandCovered 14 = .ok (.athrow, 1) := by decide +kernel
theorem dX11_demandCovered_15 : decode cX11_demandCovered 15 = .ok (.return_, 1) := by decide +kernel
theorem dX12_init_0 : decode cX12_init 0 = .ok (.aload_n 0, 1) := by decide +kernel
theorem dX12_init_1 : decode cX12_init 1 = .ok (.invokespecial 1, 3) := by decide +kernel
theorem dX12_init_4 : decode cX12_init 4 = .ok (.aload_n 0, 1) := by decide +kernel
theorem dX12_init_5 : decode cX12_init 5 = .ok (.iload_n 1, 1) := by decide +kernel
theorem dX12_init_6 : decode cX12_init 6 = .ok (.putfield 7, 3) := by decide +kernel
theorem dX12_init_9 : decode cX12_init 9 = .ok (.aload_n 0, 1) := by decide +kernel
theorem dX12_init_10 : decode cX12_init 10 = .ok (.aload_n 2, 1) := by decide +kernel
theorem dX12_init_11 : decode cX12_init 11 = .ok (.putfield 13, 3) := by decide +kernel
theorem dX12_init_14 : decode cX12_init 14 = .ok (.return_, 1) := by decide +kernel
theorem dX13_init_0 : decode cX13_init 0 = .ok (.aload_n 0, 1) := by decide +kernel
theorem dX13_init_1 : decode cX13_init 1 = .ok (.invokespecial 1, 3) := by decide +kernel
theorem dX13_init_4 : decode cX13_init 4 = .ok (.aload_n 0, 1) := by decide +kernel
theorem dX13_init_5 : decode cX13_init 5 = .ok (.aload_n 1, 1) := by decide +kernel
theorem dX13_init_6 : decode cX13_init 6 = .ok (.putfield 7, 3) := by decide +kernel
theorem dX13_init_9 : decode cX13_init 9 = .ok (.aload_n 0, 1) := by decide +kernel
theorem dX13_init_10 : decode cX13_init 10 = .ok (.iload_n 2, 1) := by decide +kernel
theorem dX13_init_11 : decode cX13_init 11 = .ok (.putfield 13, 3) := by decide +kernel
theorem dX13_init_14 : decode cX13_init 14 = .ok (.aload_n 0, 1) := by decide +kernel
theorem dX13_init_15 : decode cX13_init 15 = .ok (.iload_n 3, 1) := by decide +kernel
theorem dX13_init_16 : decode cX13_init 16 = .ok (.putfield 17, 3) := by decide +kernel
theorem dX13_init_19 : decode cX13_init 19 = .ok (.aload_n 0, 1) := by decide +kernel
theorem dX13_init_20 : decode cX13_init 20 = .ok (.iload 4, 2) := by decide +kernel
theorem dX13_init_22 : decode cX13_init 22 = .ok (.putfield 20, 3) := by decide +kernel
theorem dX13_init_25 : decode cX13_init 25 = .ok (.return_, 1) := by decide +kernel
set_option maxRecDepth 20000 in
theorem ggX14_init_Jx4a65c_init_da8c8 : GoodIn wsX14_init wsJx4a65c_init_da8c8 := goodIn_r _ [16, 17, 18, 19, 20, 21, 22, 23, 24, 25, 26, 27, 28, 3, 4, 43, 44, 45] (by decide +kernel) (by decide +kernel)
set_option maxRecDepth 20000 in
theorem gX14_init_Jx4a65c_init_da8c8 : GoodIn wsX14_init (wsJx4a65c_init_da8c8) := ggX14_init_Jx4a65c_init_da8c8
set_option maxRecDepth 20000 in
theorem ggX14_init_X15_init : GoodIn wsX14_init wsX15_init := goodIn_r _ [31, 32, 3, 4, 33, 8, 9, 34, 35, 36, 15, 16, 17, 18, 19, 20, 21, 22, 23, 24, 25, 26, 27, 28, 43, 44, 45, 46, 47, 48] (by decide +kernel) (by decide +kernel)
set_option maxRecDepth 20000 in
theorem gX14_init_X15_init : GoodIn wsX14_init (wsX15_init) := ggX14_init_X15_init
theorem dX14_init_0 : decode cX14_init 0 = .ok (.aload_n 0, 1) := by decide +kernel
theorem dX14_init_1 : decode cX14_init 1 = .ok (.aload_n 1, 1) := by decide +kernel
theorem dX14_init_2 : decode cX14_init 2 = .ok (.putfield 3, 3) := by decide +kernel
theorem dX14_init_5 : decode cX14_init 5 = .ok (.aload_n 0, 1) := by decide +kernel
theorem dX14_init_6 : decode cX14_init 6 = .ok (.invokespecial 9, 3) := by decide +kernel
theorem dX14_init_9 : decode cX14_init 9 = .ok (.aload_n 0, 1) := by decide +kernel
theorem dX14_init_10 : decode cX14_init 10 = .ok (.bipush 48, 2) := by decide +kernel
theorem dX14_init_12 : decode cX14_init 12 = .ok (.anewarray 15, 3) := by decide +kernel
theorem dX14_init_15 : decode cX14_init 15 = .ok (.putfield 17, 3) := by decide +kernel
theorem dX14_init_18 : decode cX14_init 18 = .ok (.aload_n 0, 1) := by decide +kernel
theorem dX14_init_19 : decode cX14_init 19 = .ok (.new 21, 3) := by decide +kernel
theorem dX14_init_22 : decode cX14_init 22 = .ok (.dup, 1) := by decide +kernel
theorem dX14_init_23 : decode cX14_init 23 = .ok (.invokespecial 23, 3) := by decide +kernel
theorem dX14_init_26 : decode cX14_init 26 = .ok (.putfield 24, 3) := by decide +kernel
theorem dX14_init_29 : decode cX14_init 29 = .ok (.aload_n 0, 1) := by decide +kernel
theorem dX14_init_30 : decode cX14_init 30 = .ok (.sipush 1600, 3) := by decide +kernel
theorem dX14_init_33 : decode cX14_init 33 = .ok (.putfield 28, 3) := by decide +kernel
theorem dX14_init_36 : decode cX14_init 36 = .ok (.iconst 0, 1) := by decide +kernel
theorem dX14_init_37 : decode cX14_init 37 = .ok (.istore_n 2, 1) := by decide +kernel
theorem dX14_init_38 : decode cX14_init 38 = .ok (.iload_n 2, 1) := by decide +kernel
theorem dX14_init_39 : decode cX14_init 39 = .ok (.bipush 48, 2) := by decide +kernel
theorem dX14_init_41 : decode cX14_init 41 = .ok (.if_icmp .ge 23, 3) := by decide +kernel
theorem dX14_init_44 : decode cX14_init 44 = .ok (.aload_n 0, 1) := by decide +kernel
theorem dX14_init_45 : decode cX14_init 45 = .ok (.getfield 17, 3) := by decide +kernel
theorem dX14_init_48 : decode cX14_init 48 = .ok (.iload_n 2, 1) := by decide +kernel
theorem dX14_init_49 : decode cX14_init 49 = .ok (.new 15, 3) := by decide +kernel
theorem dX14_init_52 : decode cX14_init 52 = .ok (.dup, 1) := by decide +kernel
theorem dX14_init_53 : decode cX14_init 53 = .ok (.iload_n 2, 1) := by decide +kernel
theorem dX14_init_54 : decode cX14_init 54 = .ok (.invokespecial 32, 3) := by decide +kernel
theorem dX14_init_57 : decode cX14_init 57 = .ok (.aastore, 1) := by decide +kernel
theorem dX14_init_58 : decode cX14_init 58 = .ok (.iinc 2 1, 3) := by decide +kernel
theorem dX14_init_61 : decode cX14_init 61 = .ok (.goto (-23), 3) := by decide +kernel
theorem dX14_init_64 : decode cX14_init 64 = .ok (.return_, 1) := by decide +kernel
set_option maxRecDepth 20000 in
theorem ggX14_copy_X14_init : GoodIn wsX14_copy wsX14_init := goodIn_r _ [14, 4, 15, 16, 17, 18, 7, 19, 20, 21, 6, 5, 22, 23, 24, 25, 26, 27, 28, 29, 30, 31, 32, 33, 34, 35, 36, 37, 38, 39, 40, 41, 42, 43, 44, 45, 46, 146, 147, 148, 149, 150, 151, 160, 161, 162, 152, 153, 154] (by decide +kernel) (by decide +kernel)
set_option maxRecDepth 20000 in
theorem gX14_copy_X14_init : GoodIn wsX14_copy (wsX14_init) := ggX14_copy_X14_init
set_option maxRecDepth 20000 in
theorem ggX14_copy_Jx4a65c_addAll_f0b43 : GoodIn wsX14_copy wsJx4a65c_addAll_f0b43 := goodIn_r _ [50, 51, 52, 28, 53, 54, 55, 56, 57, 58, 59, 60, 21, 61, 62, 63, 64, 65, 66, 67, 68, 69, 70, 71, 72, 73, 74, 75, 76, 77, 78, 79, 80, 81, 82, 83, 27, 84, 85, 86, 87, 88, 89, 90, 91, 92, 93, 94, 95, 96, 160, 161, 162] (by decide +kernel) (by decide +kernel)
set_option maxRecDepth 20000 in
theorem gX14_copy_Jx4a65c_addAll_f0b43_f38Jx4a65c : GoodIn wsX14_copy (va_wsF RX14 38 RJx4a65c ⟨"java/util/List", "addAll", "(Ljava/util/Collection;)Z"⟩ yJx4a65c_addAll_f0b43 wsJx4a65c_addAll_f0b43) := goodIn_app (goodIn_of _ (by decide +kernel)) ggX14_copy_Jx4a65c_addAll_f0b43
set_option maxRecDepth 20000 in
theorem ggX14_copy_Jx4a65c_iterator_32c93 : GoodIn wsX14_copy wsJx4a65c_iterator_32c93 := goodIn_r _ [100, 101, 102, 103, 104, 105, 106, 107, 108, 16, 17, 109, 110, 52, 111, 163, 164, 165, 166, 160, 161, 162] (by decide +kernel) (by decide +kernel)
set_option maxRecDepth 20000 in
theorem gX14_copy_Jx4a65c_iterator_32c93_f50Jx4a65c : GoodIn wsX14_copy (va_wsF RX14 50 RJx4a65c ⟨"java/util/List", "iterator", "()Ljava/util/Iterator;"⟩ yJx4a65c_iterator_32c93 wsJx4a65c_iterator_32c93) := goodIn_app (goodIn_of _ (by decide +kernel)) ggX14_copy_Jx4a65c_iterator_32c93
set_option maxRecDepth 20000 in
theorem ggX14_copy_Jx35411_hasNext_aae02 : GoodIn wsX14_copy wsJx35411_hasNext_aae02 := goodIn_r _ [115, 116, 107, 163, 164, 165, 166, 160, 161, 162] (by decide +kernel) (by decide +kernel)
set_option maxRecDepth 20000 in
theorem gX14_copy_Jx35411_hasNext_aae02_f54Jx35411 : GoodIn wsX14_copy (va_wsF RX14 54 RJx35411 ⟨"java/util/Iterator", "hasNext", "()Z"⟩ yJx35411_hasNext_aae02 wsJx35411_hasNext_aae02) := goodIn_app (goodIn_of _ (by decide +kernel)) ggX14_copy_Jx35411_hasNext_aae02
set_option maxRecDepth 20000 in
theorem ggX14_copy_Jx35411_next_0502b : GoodIn wsX14_copy wsJx35411_next_0502b := goodIn_r _ [120, 116, 107, 121, 109, 122, 123, 124, 103, 125, 110, 52, 111, 163, 164, 165, 166, 160, 161, 162] (by decide +kernel) (by decide +kernel)
set_option maxRecDepth 20000 in
theorem gX14_copy_Jx35411_next_0502b_f60Jx35411 : GoodIn wsX14_copy (va_wsF RX14 60 RJx35411 ⟨"java/util/Iterator", "next", "()Ljava/lang/Object;"⟩ yJx35411_next_0502b wsJx35411_next_0502b) := goodIn_app (goodIn_of _ (by decide +kernel)) ggX14_copy_Jx35411_next_0502b
set_option maxRecDepth 20000 in
theorem ggX14_copy_X13_init : GoodIn wsX14_copy wsX13_init := goodIn_r _ [128, 129, 16, 17, 130, 131, 132, 133, 155, 156, 157, 158, 159] (by decide +kernel) (by decide +kernel)
set_option maxRecDepth 20000 in
theorem gX14_copy_X13_init : GoodIn wsX14_copy (wsX13_init) := ggX14_copy_X13_init
set_option maxRecDepth 20000 in
theorem ggX14_copy_Jx4a65c_add_9ea2d : GoodIn wsX14_copy wsJx4a65c_add_9ea2d := goodIn_r _ [137, 51, 52, 28, 53, 138, 139, 140, 21, 141, 142, 143, 144, 145, 80, 81, 82, 83, 27, 84, 85, 77, 86, 87, 88, 89, 90, 91, 92, 93, 94, 95, 96, 62, 63, 64, 65, 66, 67, 68, 69, 70, 71, 72, 73, 74, 75, 76, 78, 79, 55, 56, 57, 160, 161, 162] (by decide +kernel) (by decide +kernel)
set_option maxRecDepth 20000 in
theorem gX14_copy_Jx4a65c_add_9ea2d_f83Jx4a65c : GoodIn wsX14_copy (va_wsF RX14 83 RJx4a65c ⟨"java/util/List", "add", "(Ljava/lang/Object;)Z"⟩ yJx4a65c_add_9ea2d wsJx4a65c_add_9ea2d) := goodIn_app (goodIn_of _ (by decide +kernel)) ggX14_copy_Jx4a65c_add_9ea2d
theorem dX14_copy_0 : decode cX14_copy 0 = .ok (.new 4, 3) := by decide +kernel
theorem dX14_copy_3 : decode cX14_copy 3 = .ok (.dup, 1) := by decide +kernel
theorem dX14_copy_4 : decode cX14_copy 4 = .ok (.aload_n 0, 1) := by decide +kernel
theorem dX14_copy_5 : decode cX14_copy 5 = .ok (.getfield 3, 3) := by decide +kernel
theorem dX14_copy_8 : decode cX14_copy 8 = .ok (.invokespecial 35, 3) := by decide +kernel
theorem dX14_copy_11 : decode cX14_copy 11 = .ok (.astore_n 1, 1) := by decide +kernel
theorem dX14_copy_12 : decode cX14_copy 12 = .ok (.aload_n 1, 1) := by decide +kernel
theorem dX14_copy_13 : decode cX14_copy 13 = .ok (.aload_n 0, 1) := by decide +kernel
theorem dX14_copy_14 : decode cX14_copy 14 = .ok (.getfield 28, 3) := by decide +kernel
theorem dX14_copy_17 : decode cX14_copy 17 = .ok (.putfield 28, 3) := by decide +kernel
theorem dX14_copy_20 : decode cX14_copy 20 = .ok (.aload_n 1, 1) := by decide +kernel
theorem dX14_copy_21 : decode cX14_copy 21 = .ok (.getfield 24, 3) := by decide +kernel
theorem dX14_copy_24 : decode cX14_copy 24 = .ok (.aload_n 0, 1) := by decide +kernel
theorem dX14_copy_25 : decode cX14_copy 25 = .ok (.getfield 24, 3) := by decide +kernel
theorem dX14_copy_28 : decode cX14_copy 28 = .ok (.invokeinterface 38 2, 5) := by decide +kernel
theorem dX14_copy_33 : decode cX14_copy 33 = .ok (.pop, 1) := by decide +kernel
theorem dX14_copy_34 : decode cX14_copy 34 = .ok (.iconst 0, 1) := by decide +kernel
theorem dX14_copy_35 : decode cX14_copy 35 = .ok (.istore_n 2, 1) := by decide +kernel
theorem dX14_copy_36 : decode cX14_copy 36 = .ok (.iload_n 2, 1) := by decide +kernel
theorem dX14_copy_37 : decode cX14_copy 37 = .ok (.bipush 48, 2) := by decide +kernel
theorem dX14_copy_39 : decode cX14_copy 39 = .ok (.if_icmp .ge 121, 3) := by decide +kernel
theorem dX14_copy_42 : decode cX14_copy 42 = .ok (.aload_n 1, 1) := by decide +kernel
theorem dX14_copy_43 : decode cX14_copy 43 = .ok (.getfield 17, 3) := by decide +kernel
theorem dX14_copy_46 : decode cX14_copy 46 = .ok (.iload_n 2, 1) := by decide +kernel
theorem dX14_copy_47 : decode cX14_copy 47 = .ok (.aaload, 1) := by decide +kernel
theorem dX14_copy_48 : decode cX14_copy 48 = .ok (.aload_n 0, 1) := by decide +kernel
theorem dX14_copy_49 : decode cX14_copy 49 = .ok (.getfield 17, 3) := by decide +kernel
theorem dX14_copy_52 : decode cX14_copy 52 = .ok (.iload_n 2, 1) := by decide +kernel
theorem dX14_copy_53 : decode cX14_copy 53 = .ok (.aaload, 1) := by decide +kernel
theorem dX14_copy_54 : decode cX14_copy 54 = .ok (.getfield 44, 3) := by decide +kernel
theorem dX14_copy_57 : decode cX14_copy 57 = .ok (.putfield 44, 3) := by decide +kernel
theorem dX14_copy_60 : decode cX14_copy 60 = .ok (.aload_n 0, 1) := by decide +kernel
theorem dX14_copy_61 : decode cX14_copy 61 = .ok (.getfield 17, 3) := by decide +kernel
theorem dX14_copy_64 : decode cX14_copy 64 = .ok (.iload_n 2, 1) := by decide +kernel
theorem dX14_copy_65 : decode cX14_copy 65 = .ok (.aaload, 1) := by decide +kernel
theorem dX14_copy_66 : decode cX14_copy 66 = .ok (.getfield 47, 3) := by decide +kernel
theorem dX14_copy_69 : decode cX14_copy 69 = .ok (.invokeinterface 50 1, 5) := by decide +kernel
theorem dX14_copy_74 : decode cX14_copy 74 = .ok (.astore_n 3, 1) := by decide +kernel
theorem dX14_copy_75 : decode cX14_copy 75 = .ok (.aload_n 3, 1) := by decide +kernel
theorem dX14_copy_76 : decode cX14_copy 76 = .ok (.invokeinterface 54 1, 5) := by decide +kernel
theorem dX14_copy_81 : decode cX14_copy 81 = .ok (.ifCond .eq 73, 3) := by decide +kernel
theorem dX14_copy_84 : decode cX14_copy 84 = .ok (.aload_n 3, 1) := by decide +kernel
theorem dX14_copy_85 : decode cX14_copy 85 = .ok (.invokeinterface 60 1, 5) := by decide +kernel
theorem dX14_copy_90 : decode cX14_copy 90 = .ok (.checkcast 64, 3) := by decide +kernel
theorem dX14_copy_93 : decode cX14_copy 93 = .ok (.astore 4, 2) := by decide +kernel
theorem dX14_copy_95 : decode cX14_copy 95 = .ok (.new 64, 3) := by decide +kernel
theorem dX14_copy_98 : decode cX14_copy 98 = .ok (.dup, 1) := by decide +kernel
theorem dX14_copy_99 : decode cX14_copy 99 = .ok (.aload 4, 2) := by decide +kernel
theorem dX14_copy_101 : decode cX14_copy 101 = .ok (.getfield 66, 3) := by decide +kernel
theorem dX14_copy_104 : decode cX14_copy 104 = .ok (.aload 4, 2) := by decide +kernel
theorem dX14_copy_106 : decode cX14_copy 106 = .ok (.getfield 70, 3) := by decide +kernel
theorem dX14_copy_109 : decode cX14_copy 109 = .ok (.aload 4, 2) := by decide +kernel
theorem dX14_copy_111 : decode cX14_copy 111 = .ok (.getfield 73, 3) := by decide +kernel
theorem dX14_copy_114 : decode cX14_copy 114 = .ok (.aload 4, 2) := by decide +kernel
theorem dX14_copy_116 : decode cX14_copy 116 = .ok (.getfield 74, 3) := by decide +kernel
theorem dX14_copy_119 : decode cX14_copy 119 = .ok (.invokespecial 77, 3) := by decide +kernel
theorem dX14_copy_122 : decode cX14_copy 122 = .ok (.astore 5, 2) := by decide +kernel
theorem dX14_copy_124 : decode cX14_copy 124 = .ok (.aload 5, 2) := by decide +kernel
theorem dX14_copy_126 : decode cX14_copy 126 = .ok (.aload 4, 2) := by decide +kernel
theorem dX14_copy_128 : decode cX14_copy 128 = .ok (.getfield 80, 3) := by decide +kernel
theorem dX14_copy_131 : decode cX14_copy 131 = .ok (.putfield 80, 3) := by decide +kernel
theorem dX14_copy_134 : decode cX14_copy 134 = .ok (.aload_n 1, 1) := by decide +kernel
theorem dX14_copy_135 : decode cX14_copy 135 = .ok (.getfield 17, 3) := by decide +kernel
theorem dX14_copy_138 : decode cX14_copy 138 = .ok (.iload_n 2, 1) := by decide +kernel
theorem dX14_copy_139 : decode cX14_copy 139 = .ok (.aaload, 1) := by decide +kernel
theorem dX14_copy_140 : decode cX14_copy 140 = .ok (.getfield 47, 3) := by decide +kernel
theorem dX14_copy_143 : decode cX14_copy 143 = .ok (.aload 5, 2) := by decide +kernel
theorem dX14_copy_145 : decode cX14_copy 145 = .ok (.invokeinterface 83 2, 5) := by decide +kernel
theorem dX14_copy_150 : decode cX14_copy 150 = .ok (.pop, 1) := by decide +kernel
theorem dX14_copy_151 : decode cX14_copy 151 = .ok (.goto (-76), 3) := by decide +kernel
theorem dX14_copy_154 : decode cX14_copy 154 = .ok (.iinc 2 1, 3) := by decide +kernel
theorem dX14_copy_157 : decode cX14_copy 157 = .ok (.goto (-121), 3) := by decide +kernel
theorem dX14_copy_160 : decode cX14_copy 160 = .ok (.aload_n 1, 1) := by decide +kernel
theorem dX14_copy_161 : decode cX14_copy 161 = .ok (.areturn, 1) := by decide +kernel
set_option maxRecDepth 20000 in
theorem ggX14_neighbour_X18_in : GoodIn wsX14_neighbour wsX18_in := goodIn_r _ [3] (by decide +kernel) (by decide +kernel)
set_option maxRecDepth 20000 in
theorem gX14_neighbour_X18_in_n87 : GoodIn wsX14_neighbour (wsX18_in) := ggX14_neighbour_X18_in
theorem dX14_neighbour_0 : decode cX14_neighbour 0 = .ok (.iload_n 1, 1) := by decide +kernel
theorem dX14_neighbour_1 : decode cX14_neighbour 1 = .ok (.bipush 8, 2) := by decide +kernel
theorem dX14_neighbour_3 : decode cX14_neighbour 3 = .ok (.irem, 1) := by decide +kernel
theorem dX14_neighbour_4 : decode cX14_neighbour 4 = .ok (.iload_n 2, 1) := by decide +kernel
theorem dX14_neighbour_5 : decode cX14_neighbour 5 = .ok (.ifCond .ne 7, 3) := by decide +kernel
theorem dX14_neighbour_8 : decode cX14_neighbour 8 = .ok (.iconst (-1), 1) := by decide +kernel
theorem dX14_neighbour_9 : decode cX14_neighbour 9 = .ok (.goto 13, 3) := by decide +kernel
theorem dX14_neighbour_12 : decode cX14_neighbour 12 = .ok (.iload_n 2, 1) := by decide +kernel
theorem dX14_neighbour_13 : decode cX14_neighbour 13 = .ok (.iconst 1, 1) := by decide +kernel
theorem dX14_neighbour_14 : decode cX14_neighbour 14 = .ok (.if_icmp .ne 7, 3) := by decide +kernel
theorem dX14_neighbour_17 : decode cX14_neighbour 17 = .ok (.iconst 1, 1) := by decide +kernel
theorem dX14_neighbour_18 : decode cX14_neighbour 18 = .ok (.goto 4, 3) := by decide +kernel
theorem dX14_neighbour_21 : decode cX14_neighbour 21 = .ok (.iconst 0, 1) := by decide +kernel
theorem dX14_neighbour_22 : decode cX14_neighbour 22 = .ok (.iadd, 1) := by decide +kernel
theorem dX14_neighbour_23 : decode cX14_neighbour 23 = .ok (.istore_n 3, 1) := by decide +kernel
theorem dX14_neighbour_24 : decode cX14_neighbour 24 = .ok (.iload_n 1, 1) := by decide +kernel
theorem dX14_neighbour_25 : decode cX14_neighbour 25 = .ok (.bipush 8, 2) := by decide +kernel
theorem dX14_neighbour_27 : decode cX14_neighbour 27 = .ok (.idiv, 1) := by decide +kernel
theorem dX14_neighbour_28 : decode cX14_neighbour 28 = .ok (.iload_n 2, 1) := by decide +kernel
theorem dX14_neighbour_29 : decode cX14_neighbour 29 = .ok (.iconst 2, 1) := by decide +kernel
theorem dX14_neighbour_30 : decode cX14_neighbour 30 = .ok (.if_icmp .ne 7, 3) := by decide +kernel
theorem dX14_neighbour_33 : decode cX14_neighbour 33 = .ok (.iconst (-1), 1) := by decide +kernel
theorem dX14_neighbour_34 : decode cX14_neighbour 34 = .ok (.goto 13, 3) := by decide +kernel
theorem dX14_neighbour_37 : decode cX14_neighbour 37 = .ok (.iload_n 2, 1) := by decide +kernel
theorem dX14_neighbour_38 : decode cX14_neighbour 38 = .ok (.iconst 3, 1) := by decide +kernel
theorem dX14_neighbour_39 : decode cX14_neighbour 39 = .ok (.if_icmp .ne 7, 3) := by decide +kernel
theorem dX14_neighbour_42 : decode cX14_neighbour 42 = .ok (.iconst 1, 1) := by decide +kernel
theorem dX14_neighbour_43 : decode cX14_neighbour 43 = .ok (.goto 4, 3) := by decide +kernel
theorem dX14_neighbour_46 : decode cX14_neighbour 46 = .ok (.iconst 0, 1) := by decide +kernel
theorem dX14_neighbour_47 : decode cX14_neighbour 47 = .ok (.iadd, 1) := by decide +kernel
theorem dX14_neighbour_48 : decode cX14_neighbour 48 = .ok (.istore 4, 2) := by decide +kernel
theorem dX14_neighbour_50 : decode cX14_neighbour 50 = .ok (.iload_n 3, 1) := by decide +kernel
theorem dX14_neighbour_51 : decode cX14_neighbour 51 = .ok (.iconst 0, 1) := by decide +kernel
theorem dX14_neighbour_52 : decode cX14_neighbour 52 = .ok (.bipush 7, 2) := by decide +kernel
theorem dX14_neighbour_54 : decode cX14_neighbour 54 = .ok (.invokestatic 87, 3) := by decide +kernel
theorem dX14_neighbour_57 : decode cX14_neighbour 57 = .ok (.ifCond .eq 23, 3) := by decide +kernel
theorem dX14_neighbour_60 : decode cX14_neighbour 60 = .ok (.iload 4, 2) := by decide +kernel
theorem dX14_neighbour_62 : decode cX14_neighbour 62 = .ok (.iconst 0, 1) := by decide +kernel
theorem dX14_neighbour_63 : decode cX14_neighbour 63 = .ok (.iconst 5, 1) := by decide +kernel
theorem dX14_neighbour_64 : decode cX14_neighbour 64 = .ok (.invokestatic 87, 3) := by decide +kernel
theorem dX14_neighbour_67 : decode cX14_neighbour 67 = .ok (.ifCond .eq 13, 3) := by decide +kernel
theorem dX14_neighbour_70 : decode cX14_neighbour 70 = .ok (.bipush 8, 2) := by decide +kernel
theorem dX14_neighbour_72 : decode cX14_neighbour 72 = .ok (.iload 4, 2) := by decide +kernel
theorem dX14_neighbour_74 : decode cX14_neighbour 74 = .ok (.imul, 1) := by decide +kernel
theorem dX14_neighbour_75 : decode cX14_neighbour 75 = .ok (.iload_n 3, 1) := by decide +kernel
theorem dX14_neighbour_76 : decode cX14_neighbour 76 = .ok (.iadd, 1) := by decide +kernel
theorem dX14_neighbour_77 : decode cX14_neighbour 77 = .ok (.goto 4, 3) := by decide +kernel
theorem dX14_neighbour_80 : decode cX14_neighbour 80 = .ok (.iconst (-1), 1) := by decide +kernel
theorem dX14_neighbour_81 : decode cX14_neighbour 81 = .ok (.ireturn, 1) := by decide +kernel
set_option maxRecDepth 20000 in
theorem ggX14_highest_X14_neighbour : GoodIn wsX14_highest wsX14_neighbour := goodIn_r _ [10, 11, 12, 13] (by decide +kernel) (by decide +kernel)
set_option maxRecDepth 20000 in
theorem gX14_highest_X14_neighbour : GoodIn wsX14_highest (wsV RX14 91 RX14 yX14_neighbour wsX14_neighbour) := goodIn_app (goodIn_of _ (by decide +kernel)) ggX14_highest_X14_neighbour
set_option maxRecDepth 20000 in
theorem ggX14_highest_X15_sum : GoodIn wsX14_highest wsX15_sum := goodIn_r _ [18, 19, 20, 21, 22, 23, 24, 25, 26, 27, 28, 29, 30, 31, 32, 33, 34, 35, 36, 37, 38, 39, 40, 41, 42, 43, 44, 45, 46, 47, 48, 49, 50, 51, 52, 53, 60, 61, 62, 63, 64, 65, 66, 67, 68, 69, 70, 71, 72, 73, 74] (by decide +kernel) (by decide +kernel)
set_option maxRecDepth 20000 in
theorem gX14_highest_X15_sum : GoodIn wsX14_highest (wsV RX14 95 RX15 yX15_sum wsX15_sum) := goodIn_app (goodIn_of _ (by decide +kernel)) ggX14_highest_X15_sum
theorem dX14_highest_0 : decode cX14_highest 0 = .ok (.iconst 0, 1) := by decide +kernel
theorem dX14_highest_1 : decode cX14_highest 1 = .ok (.istore_n 2, 1) := by decide +kernel
theorem dX14_highest_2 : decode cX14_highest 2 = .ok (.iconst 0, 1) := by decide +kernel
theorem dX14_highest_3 : decode cX14_highest 3 = .ok (.istore_n 3, 1) := by decide +kernel
theorem dX14_highest_4 : decode cX14_highest 4 = .ok (.iload_n 3, 1) := by decide +kernel
theorem dX14_highest_5 : decode cX14_highest 5 = .ok (.iconst 4, 1) := by decide +kernel
theorem dX14_highest_6 : decode cX14_highest 6 = .ok (.if_icmp .ge 41, 3) := by decide +kernel
theorem dX14_highest_9 : decode cX14_highest 9 = .ok (.aload_n 0, 1) := by decide +kernel
theorem dX14_highest_10 : decode cX14_highest 10 = .ok (.iload_n 1, 1) := by decide +kernel
theorem dX14_highest_11 : decode cX14_highest 11 = .ok (.iload_n 3, 1) := by decide +kernel
theorem dX14_highest_12 : decode cX14_highest 12 = .ok (.invokevirtual 91, 3) := by decide +kernel
theorem dX14_highest_15 : decode cX14_highest 15 = .ok (.istore 4, 2) := by decide +kernel
theorem dX14_highest_17 : decode cX14_highest 17 = .ok (.iload 4, 2) := by decide +kernel
theorem dX14_highest_19 : decode cX14_highest 19 = .ok (.ifCond .ge 7, 3) := by decide +kernel
theorem dX14_highest_22 : decode cX14_highest 22 = .ok (.iload_n 2, 1) := by decide +kernel
theorem dX14_highest_23 : decode cX14_highest 23 = .ok (.goto 17, 3) := by decide +kernel
theorem dX14_highest_26 : decode cX14_highest 26 = .ok (.iload_n 2, 1) := by decide +kernel
theorem dX14_highest_27 : decode cX14_highest 27 = .ok (.aload_n 0, 1) := by decide +kernel
theorem dX14_highest_28 : decode cX14_highest 28 = .ok (.getfield 17, 3) := by decide +kernel
theorem dX14_highest_31 : decode cX14_highest 31 = .ok (.iload 4, 2) := by decide +kernel
theorem dX14_highest_33 : decode cX14_highest 33 = .ok (.aaload, 1) := by decide +kernel
theorem dX14_highest_34 : decode cX14_highest 34 = .ok (.invokevirtual 95, 3) := by decide +kernel
theorem dX14_highest_37 : decode cX14_highest 37 = .ok (.invokestatic 99, 3) := by decide +kernel
theorem dX14_highest_40 : decode cX14_highest 40 = .ok (.istore_n 2, 1) := by decide +kernel
theorem dX14_highest_41 : decode cX14_highest 41 = .ok (.iinc 3 1, 3) := by decide +kernel
theorem dX14_highest_44 : decode cX14_highest 44 = .ok (.goto (-40), 3) := by decide +kernel
theorem dX14_highest_47 : decode cX14_highest 47 = .ok (.iload_n 2, 1) := by decide +kernel
theorem dX14_highest_48 : decode cX14_highest 48 = .ok (.ireturn, 1) := by decide +kernel
set_option maxRecDepth 20000 in
theorem ggX14_raking_X14_neighbour : GoodIn wsX14_raking wsX14_neighbour := goodIn_r _ [13, 14, 15, 16] (by decide +kernel) (by decide +kernel)
set_option maxRecDepth 20000 in
theorem gX14_raking_X14_neighbour : GoodIn wsX14_raking (wsV RX14 91 RX14 yX14_neighbour wsX14_neighbour) := goodIn_app (goodIn_of _ (by decide +kernel)) ggX14_raking_X14_neighbour
set_option maxRecDepth 20000 in
theorem ggX14_raking_X15_sum : GoodIn wsX14_raking wsX15_sum := goodIn_r _ [21, 22, 23, 24, 25, 26, 27, 28, 29, 30, 31, 32, 33, 34, 35, 36, 37, 38, 39, 40, 41, 42, 43, 44, 45, 46, 47, 48, 49, 50, 51, 52, 53, 54, 55, 56, 63, 64, 65, 66, 67, 68, 69, 70, 71, 72, 73, 74, 75, 76, 77] (by decide +kernel) (by decide +kernel)
set_option maxRecDepth 20000 in
theorem gX14_raking_X15_sum : GoodIn wsX14_raking (wsV RX14 95 RX15 yX15_sum wsX15_sum) := goodIn_app (goodIn_of _ (by decide +kernel)) ggX14_raking_X15_sum
theorem dX14_raking_0 : decode cX14_raking 0 = .ok (.iconst 0, 1) := by decide +kernel
theorem dX14_raking_1 : decode cX14_raking 1 = .ok (.istore_n 2, 1) := by decide +kernel
theorem dX14_raking_2 : decode cX14_raking 2 = .ok (.iconst 0, 1) := by decide +kernel
theorem dX14_raking_3 : decode cX14_raking 3 = .ok (.istore_n 3, 1) := by decide +kernel
theorem dX14_raking_4 : decode cX14_raking 4 = .ok (.iload_n 3, 1) := by decide +kernel
theorem dX14_raking_5 : decode cX14_raking 5 = .ok (.iconst 4, 1) := by decide +kernel
theorem dX14_raking_6 : decode cX14_raking 6 = .ok (.if_icmp .ge 54, 3) := by decide +kernel
theorem dX14_raking_9 : decode cX14_raking 9 = .ok (.aload_n 0, 1) := by decide +kernel
theorem dX14_raking_10 : decode cX14_raking 10 = .ok (.iload_n 1, 1) := by decide +kernel
theorem dX14_raking_11 : decode cX14_raking 11 = .ok (.iload_n 3, 1) := by decide +kernel
theorem dX14_raking_12 : decode cX14_raking 12 = .ok (.invokevirtual 91, 3) := by decide +kernel
theorem dX14_raking_15 : decode cX14_raking 15 = .ok (.istore 4, 2) := by decide +kernel
theorem dX14_raking_17 : decode cX14_raking 17 = .ok (.iload 4, 2) := by decide +kernel
theorem dX14_raking_19 : decode cX14_raking 19 = .ok (.ifCond .ge 7, 3) := by decide +kernel
theorem dX14_raking_22 : decode cX14_raking 22 = .ok (.iload_n 2, 1) := by decide +kernel
theorem dX14_raking_23 : decode cX14_raking 23 = .ok (.goto 30, 3) := by decide +kernel
theorem dX14_raking_26 : decode cX14_raking 26 = .ok (.iload_n 2, 1) := by decide +kernel
theorem dX14_raking_27 : decode cX14_raking 27 = .ok (.aload_n 0, 1) := by decide +kernel
theorem dX14_raking_28 : decode cX14_raking 28 = .ok (.getfield 17, 3) := by decide +kernel
theorem dX14_raking_31 : decode cX14_raking 31 = .ok (.iload 4, 2) := by decide +kernel
theorem dX14_raking_33 : decode cX14_raking 33 = .ok (.aaload, 1) := by decide +kernel
theorem dX14_raking_34 : decode cX14_raking 34 = .ok (.invokevirtual 95, 3) := by decide +kernel
theorem dX14_raking_37 : decode cX14_raking 37 = .ok (.aload_n 0, 1) := by decide +kernel
theorem dX14_raking_38 : decode cX14_raking 38 = .ok (.getfield 17, 3) := by decide +kernel
theorem dX14_raking_41 : decode cX14_raking 41 = .ok (.iload_n 1, 1) := by decide +kernel
theorem dX14_raking_42 : decode cX14_raking 42 = .ok (.aaload, 1) := by decide +kernel
theorem dX14_raking_43 : decode cX14_raking 43 = .ok (.invokevirtual 95, 3) := by decide +kernel
theorem dX14_raking_46 : decode cX14_raking 46 = .ok (.isub, 1) := by decide +kernel
theorem dX14_raking_47 : decode cX14_raking 47 = .ok (.invokestatic 104, 3) := by decide +kernel
theorem dX14_raking_50 : decode cX14_raking 50 = .ok (.invokestatic 99, 3) := by decide +kernel
theorem dX14_raking_53 : decode cX14_raking 53 = .ok (.istore_n 2, 1) := by decide +kernel
theorem dX14_raking_54 : decode cX14_raking 54 = .ok (.iinc 3 1, 3) := by decide +kernel
theorem dX14_raking_57 : decode cX14_raking 57 = .ok (.goto (-53), 3) := by decide +kernel
theorem dX14_raking_60 : decode cX14_raking 60 = .ok (.iload_n 2, 1) := by decide +kernel
theorem dX14_raking_61 : decode cX14_raking 61 = .ok (.ireturn, 1) := by decide +kernel
set_option maxRecDepth 20000 in
theorem ggX14_view_X14_raking : GoodIn wsX14_view wsX14_raking := goodIn_r _ [6, 1, 7, 8, 9, 10, 11, 12, 13, 14, 15, 16, 5, 17, 18, 19, 20, 21, 22, 23, 24, 25, 26, 27, 28, 29, 30, 31, 32, 33, 34, 35, 36, 37, 38, 39, 40, 41, 42, 43, 44, 45, 46, 47, 48, 49, 50, 51, 52, 53, 54, 55, 56, 57, 58, 59, 60, 102, 103, 104, 105, 106, 107, 108, 109, 110, 111, 112, 113, 114, 115, 116, 117, 118, 119, 120, 121, 122] (by decide +kernel) (by decide +kernel)
set_option maxRecDepth 20000 in
theorem gX14_view_X14_raking : GoodIn wsX14_view (wsV RX14 108 RX14 yX14_raking wsX14_raking) := goodIn_app (goodIn_of _ (by decide +kernel)) ggX14_view_X14_raking
set_option maxRecDepth 20000 in
theorem ggX14_view_X15_view : GoodIn wsX14_view wsX15_view := goodIn_r _ [64, 26, 27, 65, 66, 9, 67, 68, 69, 70, 24, 71, 72, 73, 74, 31, 75, 76, 77, 78, 79, 80, 81, 82, 83, 84, 85, 86, 87, 88, 89, 90, 91, 92, 93, 28, 29, 30, 32, 33, 34, 35, 36, 37, 38, 39, 40, 41, 42, 43, 44, 45, 46, 47, 48, 49, 50, 51, 52, 53, 54, 55, 56, 57, 58, 59, 60, 94, 95, 96, 97, 98, 99, 100, 101, 108, 109, 110, 111, 112, 113, 114, 115, 123, 124, 125, 126, 127, 128, 129, 130, 131, 132, 120, 121, 122, 116, 117, 118, 119] (by decide +kernel) (by decide +kernel)
set_option maxRecDepth 20000 in
theorem gX14_view_X15_view : GoodIn wsX14_view (wsV RX14 111 RX15 yX15_view wsX15_view) := goodIn_app (goodIn_of _ (by decide +kernel)) ggX14_view_X15_view
theorem dX14_view_0 : decode cX14_view 0 = .ok (.iload_n 1, 1) := by decide +kernel
theorem dX14_view_1 : decode cX14_view 1 = .ok (.bipush 114, 2) := by decide +kernel
theorem dX14_view_3 : decode cX14_view 3 = .ok (.if_icmp .ne 11, 3) := by decide +kernel
theorem dX14_view_6 : decode cX14_view 6 = .ok (.aload_n 0, 1) := by decide +kernel
theorem dX14_view_7 : decode cX14_view 7 = .ok (.iload_n 2, 1) := by decide +kernel
theorem dX14_view_8 : decode cX14_view 8 = .ok (.invokevirtual 108, 3) := by decide +kernel
theorem dX14_view_11 : decode cX14_view 11 = .ok (.goto 13, 3) := by decide +kernel
theorem dX14_view_14 : decode cX14_view 14 = .ok (.aload_n 0, 1) := by decide +kernel
theorem dX14_view_15 : decode cX14_view 15 = .ok (.getfield 17, 3) := by decide +kernel
theorem dX14_view_18 : decode cX14_view 18 = .ok (.iload_n 2, 1) := by decide +kernel
theorem dX14_view_19 : decode cX14_view 19 = .ok (.aaload, 1) := by decide +kernel
theorem dX14_view_20 : decode cX14_view 20 = .ok (.iload_n 1, 1) := by decide +kernel
theorem dX14_view_21 : decode cX14_view 21 = .ok (.invokevirtual 111, 3) := by decide +kernel
theorem dX14_view_24 : decode cX14_view 24 = .ok (.ireturn, 1) := by decide +kernel
set_option maxRecDepth 20000 in
theorem ggX14_pass_Jx4a65c_size_8abf5 : GoodIn wsX14_pass wsJx4a65c_size_8abf5 := goodIn_r _ [19, 20, 182, 183, 184] (by decide +kernel) (by decide +kernel)
set_option maxRecDepth 20000 in
theorem gX14_pass_Jx4a65c_size_8abf5_f115Jx4a65c : GoodIn wsX14_pass (va_wsF RX14 115 RJx4a65c ⟨"java/util/List", "size", "()I"⟩ yJx4a65c_size_8abf5 wsJx4a65c_size_8abf5) := goodIn_app (goodIn_of _ (by decide +kernel)) ggX14_pass_Jx4a65c_size_8abf5
set_option maxRecDepth 20000 in
theorem ggX14_pass_Jx4a65c_get_915e3 : GoodIn wsX14_pass wsJx4a65c_get_915e3 := goodIn_r _ [24, 20, 25, 26, 27, 28, 29, 30, 31, 32, 33, 34, 35, 18, 36, 37, 182, 183, 184] (by decide +kernel) (by decide +kernel)
set_option maxRecDepth 20000 in
theorem gX14_pass_Jx4a65c_get_915e3_f120Jx4a65c : GoodIn wsX14_pass (va_wsF RX14 120 RJx4a65c ⟨"java/util/List", "get", "(I)Ljava/lang/Object;"⟩ yJx4a65c_get_915e3 wsJx4a65c_get_915e3) := goodIn_app (goodIn_of _ (by decide +kernel)) ggX14_pass_Jx4a65c_get_915e3
set_option maxRecDepth 20000 in
theorem ggX14_pass_J0_indexOf_0f7a4 : GoodIn wsX14_pass wsJ0_indexOf_0f7a4 := goodIn_r _ [42, 43, 44, 45, 41, 46, 47, 48, 49, 50, 51, 52, 53, 54, 55, 56, 57, 58, 59, 60, 61, 62, 63, 64, 65, 66, 13, 6, 14, 67, 5, 7, 68, 69, 70, 71, 72, 73, 74, 75, 76, 77, 78, 79, 80, 81, 82, 83, 84, 85, 86, 87, 88, 89, 90, 91, 92, 93, 94, 95, 31, 96, 97, 98, 99, 100, 101, 102, 103, 104, 105, 106, 107, 108, 109, 110, 111, 112, 113, 114, 115, 116, 117, 118, 119, 120, 185, 186, 187, 188] (by decide +kernel) (by decide +kernel)
set_option maxRecDepth 20000 in
theorem gX14_pass_J0_indexOf_0f7a4 : GoodIn wsX14_pass (wsV RX14 130 RJ0 yJ0_indexOf_0f7a4 wsJ0_indexOf_0f7a4) := goodIn_app (goodIn_of _ (by decide +kernel)) ggX14_pass_J0_indexOf_0f7a4
set_option maxRecDepth 20000 in
theorem ggX14_pass_Jx4a65c_isEmpty_aae02 : GoodIn wsX14_pass wsJx4a65c_isEmpty_aae02 := goodIn_r _ [124, 20, 182, 183, 184] (by decide +kernel) (by decide +kernel)
set_option maxRecDepth 20000 in
theorem gX14_pass_Jx4a65c_isEmpty_aae02_f141Jx4a65c : GoodIn wsX14_pass (va_wsF RX14 141 RJx4a65c ⟨"java/util/List", "isEmpty", "()Z"⟩ yJx4a65c_isEmpty_aae02 wsJx4a65c_isEmpty_aae02) := goodIn_app (goodIn_of _ (by decide +kernel)) ggX14_pass_Jx4a65c_isEmpty_aae02
set_option maxRecDepth 20000 in
theorem ggX14_pass_X15_tires : GoodIn wsX14_pass wsX15_tires := goodIn_r _ [129, 130, 131, 5, 6, 7, 147, 148, 149] (by decide +kernel) (by decide +kernel)
set_option maxRecDepth 20000 in
theorem gX14_pass_X15_tires : GoodIn wsX14_pass (wsV RX14 154 RX15 yX15_tires wsX15_tires) := goodIn_app (goodIn_of _ (by decide +kernel)) ggX14_pass_X15_tires
set_option maxRecDepth 20000 in
theorem ggX14_pass_X15_top : GoodIn wsX14_pass wsX15_top := goodIn_r _ [135, 136, 137, 138, 122, 123, 18, 124, 20, 139, 16, 17, 19, 140, 22, 23, 24, 25, 26, 27, 28, 29, 30, 31, 32, 33, 34, 35, 36, 37, 147, 148, 149, 182, 183, 184] (by decide +kernel) (by decide +kernel)
set_option maxRecDepth 20000 in
theorem gX14_pass_X15_top : GoodIn wsX14_pass (wsV RX14 157 RX15 yX15_top wsX15_top) := goodIn_app (goodIn_of _ (by decide +kernel)) ggX14_pass_X15_top
theorem dX14_pass_0 : decode cX14_pass 0 = .ok (.aload_n 0, 1) := by decide +kernel
theorem dX14_pass_1 : decode cX14_pass 1 = .ok (.dup, 1) := by decide +kernel
theorem dX14_pass_2 : decode cX14_pass 2 = .ok (.getfield 28, 3) := by decide +kernel
theorem dX14_pass_5 : decode cX14_pass 5 = .ok (.iconst 1, 1) := by decide +kernel
theorem dX14_pass_6 : decode cX14_pass 6 = .ok (.iadd, 1) := by decide +kernel
theorem dX14_pass_7 : decode cX14_pass 7 = .ok (.putfield 28, 3) := by decide +kernel
theorem dX14_pass_10 : decode cX14_pass 10 = .ok (.aload_n 0, 1) := by decide +kernel
theorem dX14_pass_11 : decode cX14_pass 11 = .ok (.getfield 17, 3) := by decide +kernel
theorem dX14_pass_14 : decode cX14_pass 14 = .ok (.astore_n 3, 1) := by decide +kernel
theorem dX14_pass_15 : decode cX14_pass 15 = .ok (.aload_n 3, 1) := by decide +kernel
theorem dX14_pass_16 : decode cX14_pass 16 = .ok (.arraylength, 1) := by decide +kernel
theorem dX14_pass_17 : decode cX14_pass 17 = .ok (.istore 4, 2) := by decide +kernel
theorem dX14_pass_19 : decode cX14_pass 19 = .ok (.iconst 0, 1) := by decide +kernel
theorem dX14_pass_20 : decode cX14_pass 20 = .ok (.istore 5, 2) := by decide +kernel
theorem dX14_pass_22 : decode cX14_pass 22 = .ok (.iload 5, 2) := by decide +kernel
theorem dX14_pass_24 : decode cX14_pass 24 = .ok (.iload 4, 2) := by decide +kernel
theorem dX14_pass_26 : decode cX14_pass 26 = .ok (.if_icmp .ge 359, 3) := by decide +kernel
theorem dX14_pass_29 : decode cX14_pass 29 = .ok (.aload_n 3, 1) := by decide +kernel
theorem dX14_pass_30 : decode cX14_pass 30 = .ok (.iload 5, 2) := by decide +kernel
theorem dX14_pass_32 : decode cX14_pass 32 = .ok (.aaload, 1) := by decide +kernel
theorem dX14_pass_33 : decode cX14_pass 33 = .ok (.astore 6, 2) := by decide +kernel
theorem dX14_pass_35 : decode cX14_pass 35 = .ok (.aload 6, 2) := by decide +kernel
theorem dX14_pass_37 : decode cX14_pass 37 = .ok (.getfield 47, 3) := by decide +kernel
theorem dX14_pass_40 : decode cX14_pass 40 = .ok (.astore 7, 2) := by decide +kernel
theorem dX14_pass_42 : decode cX14_pass 42 = .ok (.aload 7, 2) := by decide +kernel
theorem dX14_pass_44 : decode cX14_pass 44 = .ok (.invokeinterface 115 1, 5) := by decide +kernel
theorem dX14_pass_49 : decode cX14_pass 49 = .ok (.iconst 1, 1) := by decide +kernel
theorem dX14_pass_50 : decode cX14_pass 50 = .ok (.isub, 1) := by decide +kernel
theorem dX14_pass_51 : decode cX14_pass 51 = .ok (.istore 8, 2) := by decide +kernel
theorem dX14_pass_53 : decode cX14_pass 53 = .ok (.iload 8, 2) := by decide +kernel
theorem dX14_pass_55 : decode cX14_pass 55 = .ok (.ifCond .lt 35, 3) := by decide +kernel
theorem dX14_pass_58 : decode cX14_pass 58 = .ok (.ldc 118, 2) := by decide +kernel
theorem dX14_pass_60 : decode cX14_pass 60 = .ok (.aload 7, 2) := by decide +kernel
theorem dX14_pass_62 : decode cX14_pass 62 = .ok (.iload 8, 2) := by decide +kernel
theorem dX14_pass_64 : decode cX14_pass 64 = .ok (.invokeinterface 120 2, 5) := by decide +kernel
theorem dX14_pass_69 : decode cX14_pass 69 = .ok (.checkcast 64, 3) := by decide +kernel
theorem dX14_pass_72 : decode cX14_pass 72 = .ok (.getfield 66, 3) := by decide +kernel
theorem dX14_pass_75 : decode cX14_pass 75 = .ok (.getfield 124, 3) := by decide +kernel
theorem dX14_pass_78 : decode cX14_pass 78 = .ok (.invokevirtual 130, 3) := by decide +kernel
theorem dX14_pass_81 : decode cX14_pass 81 = .ok (.ifCond .lt 9, 3) := by decide +kernel
theorem dX14_pass_84 : decode cX14_pass 84 = .ok (.iinc 8 (-1), 3) := by decide +kernel
theorem dX14_pass_87 : decode cX14_pass 87 = .ok (.goto (-34), 3) := by decide +kernel
theorem dX14_pass_90 : decode cX14_pass 90 = .ok (.iload 8, 2) := by decide +kernel
theorem dX14_pass_92 : decode cX14_pass 92 = .ok (.ifCond .lt 62, 3) := by decide +kernel
theorem dX14_pass_95 : decode cX14_pass 95 = .ok (.aload 7, 2) := by decide +kernel
theorem dX14_pass_97 : decode cX14_pass 97 = .ok (.iload 8, 2) := by decide +kernel
theorem dX14_pass_99 : decode cX14_pass 99 = .ok (.invokeinterface 120 2, 5) := by decide +kernel
theorem dX14_pass_104 : decode cX14_pass 104 = .ok (.checkcast 64, 3) := by decide +kernel
theorem dX14_pass_107 : decode cX14_pass 107 = .ok (.bipush 99, 2) := by decide +kernel
theorem dX14_pass_109 : decode cX14_pass 109 = .ok (.aload 7, 2) := by decide +kernel
theorem dX14_pass_111 : decode cX14_pass 111 = .ok (.iload 8, 2) := by decide +kernel
theorem dX14_pass_113 : decode cX14_pass 113 = .ok (.invokeinterface 120 2, 5) := by decide +kernel
theorem dX14_pass_118 : decode cX14_pass 118 = .ok (.checkcast 64, 3) := by decide +kernel
theorem dX14_pass_121 : decode cX14_pass 121 = .ok (.getfield 74, 3) := by decide +kernel
theorem dX14_pass_124 : decode cX14_pass 124 = .ok (.aload 7, 2) := by decide +kernel
theorem dX14_pass_126 : decode cX14_pass 126 = .ok (.iload 8, 2) := by decide +kernel
theorem dX14_pass_128 : decode cX14_pass 128 = .ok (.invokeinterface 120 2, 5) := by decide +kernel
theorem dX14_pass_133 : decode cX14_pass 133 = .ok (.checkcast 64, 3) := by decide +kernel
theorem dX14_pass_136 : decode cX14_pass 136 = .ok (.getfield 66, 3) := by decide +kernel
theorem dX14_pass_139 : decode cX14_pass 139 = .ok (.getfield 135, 3) := by decide +kernel
theorem dX14_pass_142 : decode cX14_pass 142 = .ok (.iload_n 1, 1) := by decide +kernel
theorem dX14_pass_143 : decode cX14_pass 143 = .ok (.imul, 1) := by decide +kernel
theorem dX14_pass_144 : decode cX14_pass 144 = .ok (.bipush 10, 2) := by decide +kernel
theorem dX14_pass_146 : decode cX14_pass 146 = .ok (.idiv, 1) := by decide +kernel
theorem dX14_pass_147 : decode cX14_pass 147 = .ok (.iadd, 1) := by decide +kernel
theorem dX14_pass_148 : decode cX14_pass 148 = .ok (.invokestatic 138, 3) := by decide +kernel
theorem dX14_pass_151 : decode cX14_pass 151 = .ok (.putfield 74, 3) := by decide +kernel
theorem dX14_pass_154 : decode cX14_pass 154 = .ok (.aload 7, 2) := by decide +kernel
theorem dX14_pass_156 : decode cX14_pass 156 = .ok (.invokeinterface 141 1, 5) := by decide +kernel
theorem dX14_pass_161 : decode cX14_pass 161 = .ok (.ifCond .ne 15, 3) := by decide +kernel
theorem dX14_pass_164 : decode cX14_pass 164 = .ok (.iload_n 2, 1) := by decide +kernel
theorem dX14_pass_165 : decode cX14_pass 165 = .ok (.bipush 50, 2) := by decide +kernel
theorem dX14_pass_167 : decode cX14_pass 167 = .ok (.isub, 1) := by decide +kernel
theorem dX14_pass_168 : decode cX14_pass 168 = .ok (.invokestatic 104, 3) := by decide +kernel
theorem dX14_pass_171 : decode cX14_pass 171 = .ok (.bipush 15, 2) := by decide +kernel
theorem dX14_pass_173 : decode cX14_pass 173 = .ok (.if_icmp .gt 7, 3) := by decide +kernel
theorem dX14_pass_176 : decode cX14_pass 176 = .ok (.iconst 0, 1) := by decide +kernel
theorem dX14_pass_177 : decode cX14_pass 177 = .ok (.goto 4, 3) := by decide +kernel
theorem dX14_pass_180 : decode cX14_pass 180 = .ok (.iconst 1, 1) := by decide +kernel
theorem dX14_pass_181 : decode cX14_pass 181 = .ok (.istore 9, 2) := by decide +kernel
theorem dX14_pass_183 : decode cX14_pass 183 = .ok (.iconst 0, 1) := by decide +kernel
theorem dX14_pass_184 : decode cX14_pass 184 = .ok (.istore 10, 2) := by decide +kernel
theorem dX14_pass_186 : decode cX14_pass 186 = .ok (.iload 10, 2) := by decide +kernel
theorem dX14_pass_188 : decode cX14_pass 188 = .ok (.iconst 1, 1) := by decide +kernel
theorem dX14_pass_189 : decode cX14_pass 189 = .ok (.iadd, 1) := by decide +kernel
theorem dX14_pass_190 : decode cX14_pass 190 = .ok (.aload 7, 2) := by decide +kernel
theorem dX14_pass_192 : decode cX14_pass 192 = .ok (.invokeinterface 115 1, 5) := by decide +kernel
theorem dX14_pass_197 : decode cX14_pass 197 = .ok (.if_icmp .ge 123, 3) := by decide +kernel
theorem dX14_pass_200 : decode cX14_pass 200 = .ok (.aload 7, 2) := by decide +kernel
theorem dX14_pass_202 : decode cX14_pass 202 = .ok (.iload 10, 2) := by decide +kernel
theorem dX14_pass_204 : decode cX14_pass 204 = .ok (.invokeinterface 120 2, 5) := by decide +kernel
theorem dX14_pass_209 : decode cX14_pass 209 = .ok (.checkcast 64, 3) := by decide +kernel
theorem dX14_pass_212 : decode cX14_pass 212 = .ok (.astore 11, 2) := by decide +kernel
theorem dX14_pass_214 : decode cX14_pass 214 = .ok (.aload 7, 2) := by decide +kernel
theorem dX14_pass_216 : decode cX14_pass 216 = .ok (.iload 10, 2) := by decide +kernel
theorem dX14_pass_218 : decode cX14_pass 218 = .ok (.iconst 1, 1) := by decide +kernel
theorem dX14_pass_219 : decode cX14_pass 219 = .ok (.iadd, 1) := by decide +kernel
theorem dX14_pass_220 : decode cX14_pass 220 = .ok (.invokeinterface 120 2, 5) := by decide +kernel
theorem dX14_pass_225 : decode cX14_pass 225 = .ok (.checkcast 64, 3) := by decide +kernel
theorem dX14_pass_228 : decode cX14_pass 228 = .ok (.astore 12, 2) := by decide +kernel
theorem dX14_pass_230 : decode cX14_pass 230 = .ok (.aload 11, 2) := by decide +kernel
theorem dX14_pass_232 : decode cX14_pass 232 = .ok (.aload_n 0, 1) := by decide +kernel
theorem dX14_pass_233 : decode cX14_pass 233 = .ok (.getfield 3, 3) := by decide +kernel
theorem dX14_pass_236 : decode cX14_pass 236 = .ok (.getfield 144, 3) := by decide +kernel
theorem dX14_pass_239 : decode cX14_pass 239 = .ok (.bipush 12, 2) := by decide +kernel
theorem dX14_pass_241 : decode cX14_pass 241 = .ok (.aload 11, 2) := by decide +kernel
theorem dX14_pass_243 : decode cX14_pass 243 = .ok (.getfield 66, 3) := by decide +kernel
theorem dX14_pass_246 : decode cX14_pass 246 = .ok (.getfield 148, 3) := by decide +kernel
theorem dX14_pass_249 : decode cX14_pass 249 = .ok (.imul, 1) := by decide +kernel
theorem dX14_pass_250 : decode cX14_pass 250 = .ok (.aload 12, 2) := by decide +kernel
theorem dX14_pass_252 : decode cX14_pass 252 = .ok (.getfield 66, 3) := by decide +kernel
theorem dX14_pass_255 : decode cX14_pass 255 = .ok (.getfield 148, 3) := by decide +kernel
theorem dX14_pass_258 : decode cX14_pass 258 = .ok (.iadd, 1) := by decide +kernel
theorem dX14_pass_259 : decode cX14_pass 259 = .ok (.baload, 1) := by decide +kernel
theorem dX14_pass_260 : decode cX14_pass 260 = .ok (.ifCond .eq 17, 3) := by decide +kernel
theorem dX14_pass_263 : decode cX14_pass 263 = .ok (.iconst 0, 1) := by decide +kernel
theorem dX14_pass_264 : decode cX14_pass 264 = .ok (.aload 11, 2) := by decide +kernel
theorem dX14_pass_266 : decode cX14_pass 266 = .ok (.getfield 74, 3) := by decide +kernel
theorem dX14_pass_269 : decode cX14_pass 269 = .ok (.iconst 1, 1) := by decide +kernel
theorem dX14_pass_270 : decode cX14_pass 270 = .ok (.isub, 1) := by decide +kernel
theorem dX14_pass_271 : decode cX14_pass 271 = .ok (.invokestatic 99, 3) := by decide +kernel
theorem dX14_pass_274 : decode cX14_pass 274 = .ok (.goto 8, 3) := by decide +kernel
theorem dX14_pass_277 : decode cX14_pass 277 = .ok (.aload 11, 2) := by decide +kernel
theorem dX14_pass_279 : decode cX14_pass 279 = .ok (.getfield 74, 3) := by decide +kernel
theorem dX14_pass_282 : decode cX14_pass 282 = .ok (.putfield 74, 3) := by decide +kernel
theorem dX14_pass_285 : decode cX14_pass 285 = .ok (.iload 9, 2) := by decide +kernel
theorem dX14_pass_287 : decode cX14_pass 287 = .ok (.aload 12, 2) := by decide +kernel
theorem dX14_pass_289 : decode cX14_pass 289 = .ok (.getfield 66, 3) := by decide +kernel
theorem dX14_pass_292 : decode cX14_pass 292 = .ok (.getfield 151, 3) := by decide +kernel
theorem dX14_pass_295 : decode cX14_pass 295 = .ok (.aload 11, 2) := by decide +kernel
theorem dX14_pass_297 : decode cX14_pass 297 = .ok (.getfield 66, 3) := by decide +kernel
theorem dX14_pass_300 : decode cX14_pass 300 = .ok (.getfield 151, 3) := by decide +kernel
theorem dX14_pass_303 : decode cX14_pass 303 = .ok (.if_icmp .ge 7, 3) := by decide +kernel
theorem dX14_pass_306 : decode cX14_pass 306 = .ok (.iconst 1, 1) := by decide +kernel
theorem dX14_pass_307 : decode cX14_pass 307 = .ok (.goto 4, 3) := by decide +kernel
theorem dX14_pass_310 : decode cX14_pass 310 = .ok (.iconst 0, 1) := by decide +kernel
theorem dX14_pass_311 : decode cX14_pass 311 = .ok (.iadd, 1) := by decide +kernel
theorem dX14_pass_312 : decode cX14_pass 312 = .ok (.istore 9, 2) := by decide +kernel
theorem dX14_pass_314 : decode cX14_pass 314 = .ok (.iinc 10 1, 3) := by decide +kernel
theorem dX14_pass_317 : decode cX14_pass 317 = .ok (.goto (-131), 3) := by decide +kernel
theorem dX14_pass_320 : decode cX14_pass 320 = .ok (.aload 6, 2) := by decide +kernel
theorem dX14_pass_322 : decode cX14_pass 322 = .ok (.iload 9, 2) := by decide +kernel
theorem dX14_pass_324 : decode cX14_pass 324 = .ok (.invokevirtual 154, 3) := by decide +kernel
theorem dX14_pass_327 : decode cX14_pass 327 = .ok (.aload 6, 2) := by decide +kernel
theorem dX14_pass_329 : decode cX14_pass 329 = .ok (.invokevirtual 157, 3) := by decide +kernel
theorem dX14_pass_332 : decode cX14_pass 332 = .ok (.astore 10, 2) := by decide +kernel
theorem dX14_pass_334 : decode cX14_pass 334 = .ok (.aload_n 0, 1) := by decide +kernel
theorem dX14_pass_335 : decode cX14_pass 335 = .ok (.getfield 28, 3) := by decide +kernel
theorem dX14_pass_338 : decode cX14_pass 338 = .ok (.bipush 10, 2) := by decide +kernel
theorem dX14_pass_340 : decode cX14_pass 340 = .ok (.irem, 1) := by decide +kernel
theorem dX14_pass_341 : decode cX14_pass 341 = .ok (.ifCond .ne 38, 3) := by decide +kernel
theorem dX14_pass_344 : decode cX14_pass 344 = .ok (.aload 10, 2) := by decide +kernel
theorem dX14_pass_346 : decode cX14_pass 346 = .ok (.ifnull 33, 3) := by decide +kernel
theorem dX14_pass_349 : decode cX14_pass 349 = .ok (.aload 10, 2) := by decide +kernel
theorem dX14_pass_351 : decode cX14_pass 351 = .ok (.getfield 66, 3) := by decide +kernel
theorem dX14_pass_354 : decode cX14_pass 354 = .ok (.getfield 124, 3) := by decide +kernel
theorem dX14_pass_357 : decode cX14_pass 357 = .ok (.bipush 118, 2) := by decide +kernel
theorem dX14_pass_359 : decode cX14_pass 359 = .ok (.if_icmp .ne 20, 3) := by decide +kernel
theorem dX14_pass_362 : decode cX14_pass 362 = .ok (.aload 10, 2) := by decide +kernel
theorem dX14_pass_364 : decode cX14_pass 364 = .ok (.bipush 99, 2) := by decide +kernel
theorem dX14_pass_366 : decode cX14_pass 366 = .ok (.aload 10, 2) := by decide +kernel
theorem dX14_pass_368 : decode cX14_pass 368 = .ok (.getfield 80, 3) := by decide +kernel
theorem dX14_pass_371 : decode cX14_pass 371 = .ok (.iconst 1, 1) := by decide +kernel
theorem dX14_pass_372 : decode cX14_pass 372 = .ok (.iadd, 1) := by decide +kernel
theorem dX14_pass_373 : decode cX14_pass 373 = .ok (.invokestatic 138, 3) := by decide +kernel
theorem dX14_pass_376 : decode cX14_pass 376 = .ok (.putfield 80, 3) := by decide +kernel
theorem dX14_pass_379 : decode cX14_pass 379 = .ok (.iinc 5 1, 3) := by decide +kernel
theorem dX14_pass_382 : decode cX14_pass 382 = .ok (.goto (-360), 3) := by decide +kernel
theorem dX14_pass_385 : decode cX14_pass 385 = .ok (.return_, 1) := by decide +kernel
set_option maxRecDepth 20000 in
theorem ggX14_does_Jx4a65c_get_915e3 : GoodIn wsX14_does wsJx4a65c_get_915e3 := goodIn_r _ [13, 14, 15, 16, 17, 18, 19, 20, 21, 22, 23, 24, 25, 12, 26, 27, 353, 354, 355] (by decide +kernel) (by decide +kernel)
set_option maxRecDepth 20000 in
theorem gX14_does_Jx4a65c_get_915e3_f120Jx4a65c : GoodIn wsX14_does (va_wsF RX14 120 RJx4a65c ⟨"java/util/List", "get", "(I)Ljava/lang/Object;"⟩ yJx4a65c_get_915e3 wsJx4a65c_get_915e3) := goodIn_app (goodIn_of _ (by decide +kernel)) ggX14_does_Jx4a65c_get_915e3
set_option maxRecDepth 20000 in
theorem ggX14_does_X14_lays : GoodIn wsX14_does wsX14_lays := goodIn_ca (goodIn_r _ [32, 4, 33, 34, 35, 3, 36, 37, 38, 12, 39, 14, 40, 41, 42, 43, 44, 45, 46, 47, 48, 49, 50, 51, 52, 53, 54, 55, 27, 56, 57, 58, 59, 60, 61, 62, 63, 64, 65, 66, 67, 68, 69, 6, 7, 8, 70, 71, 72, 73, 74, 75, 76, 77, 78, 79, 80, 81, 82, 83, 84, 85, 86, 87, 88, 89, 90, 91, 92, 93, 94, 95, 96, 97, 98, 99, 327, 328, 329, 330, 331, 332, 350, 351, 352, 356, 357, 358, 359, 360, 361, 362, 363, 364, 365, 366, 367, 368, 369, 370, 353, 354, 355] (by decide +kernel) (by decide +kernel)) (goodIn_sub (fun _ h => List.mem_cons_of_mem _ (List.mem_append_right _ h)) (by decide +kernel))
set_option maxRecDepth 20000 in
theorem gX14_does_X14_lays : GoodIn wsX14_does (wsV RX14 173 RX14 yX14_lays wsX14_lays) := goodIn_app (goodIn_of _ (by decide +kernel)) ggX14_does_X14_lays
set_option maxRecDepth 20000 in
theorem ggX14_does_X14_pass : GoodIn wsX14_does wsX14_pass := goodIn_ca (goodIn_r _ [103, 3, 4, 104, 105, 94, 7, 95, 106, 107, 108, 1, 5, 6, 8, 36, 37, 38, 12, 39, 14, 9, 10, 11, 13, 15, 16, 17, 18, 19, 20, 21, 22, 23, 24, 25, 26, 27, 109, 110, 111, 112, 113, 114, 115, 116, 117, 118, 119, 120, 121, 122, 123, 124, 125, 126, 127, 128, 129, 130, 131, 132, 133, 134, 135, 136, 137, 138, 139, 140, 141, 142, 143, 144, 145, 146, 147, 148, 149, 150, 151, 152, 153, 154, 155, 156, 157, 158, 159, 160, 161, 162, 163, 164, 165, 166, 167, 168, 169, 170, 171, 172, 173, 174, 175, 176, 177, 178, 179, 180, 181, 182, 183, 184, 185, 186, 187, 188, 189, 190, 191, 192, 193, 194, 195, 196, 197, 198, 199, 200, 201, 202, 203, 204, 205, 206, 207, 208, 209, 210, 211, 327, 328, 329, 330, 331, 332, 350, 351, 352, 356, 357, 358, 359, 360, 361, 362, 363, 364, 365, 366, 367, 368, 369, 370, 333, 334, 335, 336, 337, 338, 339, 340, 341, 342, 343, 344, 345, 346, 347, 348, 349, 353, 354, 355, 371, 372, 373, 374] (by decide +kernel) (by decide +kernel)) (goodIn_sub (fun _ h => List.mem_cons_of_mem _ (List.mem_append_right _ h)) (by decide +kernel))
set_option maxRecDepth 20000 in
theorem gX14_does_X14_pass : GoodIn wsX14_does (wsV RX14 177 RX14 yX14_pass wsX14_pass) := goodIn_app (goodIn_of _ (by decide +kernel)) ggX14_does_X14_pass
set_option maxRecDepth 20000 in
theorem ggX14_does_X14_scratches : GoodIn wsX14_does wsX14_scratches := goodIn_r _ [215, 5, 6, 7, 8, 216, 217, 218, 219, 203, 204, 205, 199, 206, 207, 208, 209, 193, 194, 12, 195, 14, 210, 37, 38, 39, 211, 10, 11, 13, 15, 16, 17, 18, 19, 20, 21, 22, 23, 24, 25, 26, 27, 220, 221, 222, 223, 224, 225, 226, 227, 228, 229, 230, 231, 54, 55, 232, 97, 98, 99, 36, 233, 234, 235, 236, 44, 45, 237, 238, 50, 51, 52, 53, 56, 57, 58, 59, 60, 61, 62, 63, 64, 65, 66, 67, 68, 69, 70, 71, 72, 73, 74, 75, 76, 77, 78, 79, 80, 81, 82, 83, 84, 85, 86, 87, 88, 89, 90, 91, 92, 93, 94, 95, 96, 356, 357, 358, 359, 360, 361, 362, 363, 364, 365, 366, 367, 368, 369, 370, 327, 328, 329, 330, 331, 332, 375, 376, 350, 351, 352, 353, 354, 355] (by decide +kernel) (by decide +kernel)
set_option maxRecDepth 20000 in
theorem gX14_does_X14_scratches : GoodIn wsX14_does (wsV RX14 181 RX14 yX14_scratches wsX14_scratches) := goodIn_app (goodIn_of _ (by decide +kernel)) ggX14_does_X14_scratches
set_option maxRecDepth 20000 in
theorem ggX14_does_X14_swabs : GoodIn wsX14_does wsX14_swabs := goodIn_r _ [242, 243, 244, 203, 204, 205, 199, 206, 207, 208, 209, 193, 194, 12, 195, 14, 210, 37, 38, 39, 211, 10, 11, 13, 15, 16, 17, 18, 19, 20, 21, 22, 23, 24, 25, 26, 27, 245, 246, 247, 248, 249, 250, 251, 252, 110, 111, 112, 113, 114, 115, 116, 117, 118, 119, 120, 121, 122, 123, 124, 125, 126, 127, 128, 129, 130, 131, 132, 133, 134, 135, 136, 137, 6, 7, 8, 138, 94, 95, 139, 140, 141, 142, 143, 144, 145, 146, 147, 148, 149, 150, 151, 152, 153, 154, 155, 156, 157, 158, 159, 160, 161, 162, 163, 164, 165, 166, 167, 168, 169, 170, 171, 172, 173, 174, 175, 176, 177, 178, 179, 180, 181, 182, 183, 184, 185, 186, 187, 188, 189, 190, 191, 220, 221, 222, 223, 224, 225, 226, 227, 228, 229, 230, 231, 54, 55, 232, 97, 98, 99, 253, 254, 255, 256, 196, 197, 198, 200, 201, 202, 327, 328, 329, 330, 331, 332, 356, 357, 358, 359, 360, 361, 362, 363, 364, 365, 366, 367, 368, 369, 370, 350, 351, 352, 353, 354, 355, 371, 372, 373, 374] (by decide +kernel) (by decide +kernel)
set_option maxRecDepth 20000 in
theorem gX14_does_X14_swabs : GoodIn wsX14_does (wsV RX14 184 RX14 yX14_swabs wsX14_swabs) := goodIn_app (goodIn_of _ (by decide +kernel)) ggX14_does_X14_swabs
set_option maxRecDepth 20000 in
theorem ggX14_does_X14_fills : GoodIn wsX14_does wsX14_fills := goodIn_r _ [260, 105, 94, 7, 95, 33, 34, 35, 3, 261, 262, 263, 31, 264, 4, 5, 6, 8, 265, 266, 267, 268, 269, 270, 271, 272, 273, 274, 199, 275, 207, 208, 276, 277, 278, 12, 279, 280, 281, 282, 283, 284, 285, 286, 287, 44, 45, 288, 289, 55, 290, 291, 292, 293, 294, 295, 296, 297, 298, 299, 300, 301, 302, 303, 304, 36, 37, 38, 39, 14, 40, 41, 42, 43, 46, 47, 48, 49, 50, 51, 52, 53, 54, 27, 56, 57, 58, 59, 60, 61, 62, 63, 64, 65, 66, 67, 68, 69, 70, 71, 72, 73, 74, 75, 76, 77, 78, 79, 80, 81, 82, 83, 84, 85, 86, 87, 88, 89, 90, 91, 92, 93, 96, 97, 98, 99, 350, 351, 352, 356, 357, 358, 359, 360, 327, 328, 329, 330, 331, 332, 361, 362, 363, 364, 365, 366, 367, 368, 369, 370, 377, 378, 379, 380, 353, 354, 355] (by decide +kernel) (by decide +kernel)
set_option maxRecDepth 20000 in
theorem gX14_does_X14_fills : GoodIn wsX14_does (wsV RX14 188 RX14 yX14_fills wsX14_fills) := goodIn_app (goodIn_of _ (by decide +kernel)) ggX14_does_X14_fills
set_option maxRecDepth 20000 in
theorem ggX14_does_X14_retouches : GoodIn wsX14_does wsX14_retouches := goodIn_r _ [308, 33, 34, 35, 3, 106, 107, 7, 108, 105, 94, 95, 36, 37, 38, 12, 39, 14, 40, 41, 42, 43, 44, 45, 46, 47, 48, 49, 50, 51, 52, 53, 54, 55, 27, 56, 57, 58, 59, 60, 61, 62, 63, 64, 65, 66, 67, 68, 69, 6, 8, 70, 71, 72, 73, 74, 75, 76, 77, 78, 79, 80, 81, 82, 83, 84, 85, 86, 87, 88, 89, 90, 91, 92, 93, 96, 97, 98, 99, 309, 310, 311, 199, 312, 207, 208, 202, 210, 211, 10, 11, 13, 15, 16, 17, 18, 19, 20, 21, 22, 23, 24, 25, 26, 350, 351, 352, 356, 357, 358, 359, 360, 327, 328, 329, 330, 331, 332, 353, 354, 355, 361, 362, 363, 364, 365, 366, 367, 368, 369, 370] (by decide +kernel) (by decide +kernel)
set_option maxRecDepth 20000 in
theorem gX14_does_X14_retouches : GoodIn wsX14_does (wsV RX14 192 RX14 yX14_retouches wsX14_retouches) := goodIn_app (goodIn_of _ (by decide +kernel)) ggX14_does_X14_retouches
set_option maxRecDepth 20000 in
theorem ggX14_does_X14_lends : GoodIn wsX14_does wsX14_lends := goodIn_ca (goodIn_r _ [316, 4, 317, 318, 319, 199, 320, 201, 321, 107, 7, 108, 322, 197, 198, 200, 202, 94, 95, 323, 204, 205, 206, 207, 208, 209, 193, 194, 12, 195, 14, 210, 37, 38, 39, 211, 10, 11, 13, 15, 16, 17, 18, 19, 20, 21, 22, 23, 24, 25, 26, 27, 324, 221, 222, 223, 224, 225, 226, 227, 228, 229, 230, 231, 54, 55, 232, 97, 98, 99, 327, 328, 329, 330, 331, 332, 350, 351, 352, 356, 357, 358, 359, 360, 361, 362, 363, 364, 365, 366, 367, 368, 369, 370, 353, 354, 355] (by decide +kernel) (by decide +kernel)) (goodIn_sub (fun _ h => List.mem_cons_of_mem _ (List.mem_append_right _ h)) (by decide +kernel))
set_option maxRecDepth 20000 in
theorem gX14_does_X14_lends : GoodIn wsX14_does (wsV RX14 196 RX14 yX14_lends wsX14_lends) := goodIn_app (goodIn_of _ (by decide +kernel)) ggX14_does_X14_lends
theorem dX14_does_0 : decode cX14_does 0 = .ok (.aload_n 1, 1) := by decide +kernel
theorem dX14_does_1 : decode cX14_does 1 = .ok (.getfield 161, 3) := by decide +kernel
theorem dX14_does_4 : decode cX14_does 4 = .ok (.astore_n 2, 1) := by decide +kernel
theorem dX14_does_5 : decode cX14_does 5 = .ok (.aload_n 1, 1) := by decide +kernel
theorem dX14_does_6 : decode cX14_does 6 = .ok (.getfield 167, 3) := by decide +kernel
theorem dX14_does_9 : decode cX14_does 9 = .ok (.tableswitch 293 102 121 #[187, 252, 293, 293, 293, 293, 95, 293, 293, 293, 293, 293, 218, 149, 293, 293, 293, 165, 293, 119], 95) := by decide +kernel
theorem dX14_does_104 : decode cX14_does 104 = .ok (.aload_n 0, 1) := by decide +kernel
theorem dX14_does_105 : decode cX14_does 105 = .ok (.aload_n 0, 1) := by decide +kernel
theorem dX14_does_106 : decode cX14_does 106 = .ok (.getfield 3, 3) := by decide +kernel
theorem dX14_does_109 : decode cX14_does 109 = .ok (.getfield 170, 3) := by decide +kernel
theorem dX14_does_112 : decode cX14_does 112 = .ok (.aload_n 2, 1) := by decide +kernel
theorem dX14_does_113 : decode cX14_does 113 = .ok (.iconst 0, 1) := by decide +kernel
theorem dX14_does_114 : decode cX14_does 114 = .ok (.iaload, 1) := by decide +kernel
theorem dX14_does_115 : decode cX14_does 115 = .ok (.invokeinterface 120 2, 5) := by decide +kernel
theorem dX14_does_120 : decode cX14_does 120 = .ok (.checkcast 125, 3) := by decide +kernel
theorem dX14_does_123 : decode cX14_does 123 = .ok (.aload_n 2, 1) := by decide +kernel
theorem dX14_does_124 : decode cX14_does 124 = .ok (.invokevirtual 173, 3) := by decide +kernel
theorem dX14_does_127 : decode cX14_does 127 = .ok (.ireturn, 1) := by decide +kernel
theorem dX14_does_128 : decode cX14_does 128 = .ok (.iconst 0, 1) := by decide +kernel
theorem dX14_does_129 : decode cX14_does 129 = .ok (.istore_n 3, 1) := by decide +kernel
theorem dX14_does_130 : decode cX14_does 130 = .ok (.iload_n 3, 1) := by decide +kernel
theorem dX14_does_131 : decode cX14_does 131 = .ok (.aload_n 2, 1) := by decide +kernel
theorem dX14_does_132 : decode cX14_does 132 = .ok (.iconst 0, 1) := by decide +kernel
theorem dX14_does_133 : decode cX14_does 133 = .ok (.iaload, 1) := by decide +kernel
theorem dX14_does_134 : decode cX14_does 134 = .ok (.if_icmp .ge 19, 3) := by decide +kernel
theorem dX14_does_137 : decode cX14_does 137 = .ok (.aload_n 0, 1) := by decide +kernel
theorem dX14_does_138 : decode cX14_does 138 = .ok (.aload_n 2, 1) := by decide +kernel
theorem dX14_does_139 : decode cX14_does 139 = .ok (.iconst 1, 1) := by decide +kernel
theorem dX14_does_140 : decode cX14_does 140 = .ok (.iaload, 1) := by decide +kernel
theorem dX14_does_141 : decode cX14_does 141 = .ok (.aload_n 2, 1) := by decide +kernel
theorem dX14_does_142 : decode cX14_does 142 = .ok (.iconst 2, 1) := by decide +kernel
theorem dX14_does_143 : decode cX14_does 143 = .ok (.iaload, 1) := by decide +kernel
theorem dX14_does_144 : decode cX14_does 144 = .ok (.invokevirtual 177, 3) := by decide +kernel
theorem dX14_does_147 : decode cX14_does 147 = .ok (.iinc 3 1, 3) := by decide +kernel
theorem dX14_does_150 : decode cX14_does 150 = .ok (.goto (-20), 3) := by decide +kernel
theorem dX14_does_153 : decode cX14_does 153 = .ok (.aload_n 0, 1) := by decide +kernel
theorem dX14_does_154 : decode cX14_does 154 = .ok (.getfield 28, 3) := by decide +kernel
theorem dX14_does_157 : decode cX14_does 157 = .ok (.ireturn, 1) := by decide +kernel
theorem dX14_does_158 : decode cX14_does 158 = .ok (.aload_n 0, 1) := by decide +kernel
theorem dX14_does_159 : decode cX14_does 159 = .ok (.aload_n 0, 1) := by decide +kernel
theorem dX14_does_160 : decode cX14_does 160 = .ok (.getfield 17, 3) := by decide +kernel
theorem dX14_does_163 : decode cX14_does 163 = .ok (.aload_n 2, 1) := by decide +kernel
theorem dX14_does_164 : decode cX14_does 164 = .ok (.iconst 0, 1) := by decide +kernel
theorem dX14_does_165 : decode cX14_does 165 = .ok (.iaload, 1) := by decide +kernel
theorem dX14_does_166 : decode cX14_does 166 = .ok (.aaload, 1) := by decide +kernel
theorem dX14_does_167 : decode cX14_does 167 = .ok (.aload_n 2, 1) := by decide +kernel
theorem dX14_does_168 : decode cX14_does 168 = .ok (.iconst 1, 1) := by decide +kernel
theorem dX14_does_169 : decode cX14_does 169 = .ok (.iaload, 1) := by decide +kernel
theorem dX14_does_170 : decode cX14_does 170 = .ok (.invokevirtual 181, 3) := by decide +kernel
theorem dX14_does_173 : decode cX14_does 173 = .ok (.ireturn, 1) := by decide +kernel
theorem dX14_does_174 : decode cX14_does 174 = .ok (.aload_n 0, 1) := by decide +kernel
theorem dX14_does_175 : decode cX14_does 175 = .ok (.aload_n 0, 1) := by decide +kernel
theorem dX14_does_176 : decode cX14_does 176 = .ok (.getfield 17, 3) := by decide +kernel
theorem dX14_does_179 : decode cX14_does 179 = .ok (.aload_n 2, 1) := by decide +kernel
theorem dX14_does_180 : decode cX14_does 180 = .ok (.iconst 0, 1) := by decide +kernel
theorem dX14_does_181 : decode cX14_does 181 = .ok (.iaload, 1) := by decide +kernel
theorem dX14_does_182 : decode cX14_does 182 = .ok (.aaload, 1) := by decide +kernel
theorem dX14_does_183 : decode cX14_does 183 = .ok (.aload_n 2, 1) := by decide +kernel
theorem dX14_does_184 : decode cX14_does 184 = .ok (.iconst 1, 1) := by decide +kernel
theorem dX14_does_185 : decode cX14_does 185 = .ok (.iaload, 1) := by decide +kernel
theorem dX14_does_186 : decode cX14_does 186 = .ok (.aload_n 2, 1) := by decide +kernel
theorem dX14_does_187 : decode cX14_does 187 = .ok (.iconst 2, 1) := by decide +kernel
theorem dX14_does_188 : decode cX14_does 188 = .ok (.iaload, 1) := by decide +kernel
theorem dX14_does_189 : decode cX14_does 189 = .ok (.aload_n 2, 1) := by decide +kernel
theorem dX14_does_190 : decode cX14_does 190 = .ok (.iconst 3, 1) := by decide +kernel
theorem dX14_does_191 : decode cX14_does 191 = .ok (.iaload, 1) := by decide +kernel

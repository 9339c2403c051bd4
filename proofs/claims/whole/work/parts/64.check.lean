theorem am_ok_0 : ([0, 1, 2, 3, 4, 5, 6, 7, 8, 9, 10, 11, 12, 13, 14, 15] : List Nat).all am_okm = true := by decide +kernel
theorem am_ok_1 : ([16, 17, 18, 19, 20, 21, 22, 23, 24, 25, 26, 27, 28, 29, 30, 31] : List Nat).all am_okm = true := by decide +kernel
theorem am_ok_2 : ([32, 33, 34, 35, 36, 37, 38, 39, 40, 41, 42, 43, 44, 45, 46, 47] : List Nat).all am_okm = true := by decide +kernel
theorem am_ok_3 : ([48, 49, 50, 51, 52, 53, 54, 55, 56, 57, 58, 59, 60, 61, 62, 63] : List Nat).all am_okm = true := by decide +kernel
theorem am_ok_4 : ([64, 65, 66, 67, 68, 69, 70, 71, 72, 73, 74, 75, 76, 77, 78, 79] : List Nat).all am_okm = true := by decide +kernel
theorem am_ok_5 : ([80, 81, 82, 83, 84, 85, 86, 87, 88, 89, 90, 91, 92, 93, 94, 95] : List Nat).all am_okm = true := by decide +kernel
theorem am_ok_6 : ([96, 97, 98, 99, 100, 101, 102, 103, 104, 105, 106, 107, 108, 109, 110, 111] : List Nat).all am_okm = true := by decide +kernel
theorem am_ok_7 : ([112, 113, 114, 115, 116, 117, 118, 119, 120, 121, 122, 123, 124, 125, 126, 127] : List Nat).all am_okm = true := by decide +kernel
theorem am_ok_8 : ([128, 129, 130, 131, 132, 133, 134, 135, 136, 137, 138, 139, 140, 141, 142, 143] : List Nat).all am_okm = true := by decide +kernel
theorem am_ok_9 : ([144, 145, 146, 147, 148, 149, 150, 151, 152, 153, 154, 155, 156, 157, 158, 159] : List Nat).all am_okm = true := by decide +kernel
theorem am_ok_10 : ([160, 161, 162, 163, 164, 165, 166, 167, 168, 169, 170, 171, 172, 173, 174, 175] : List Nat).all am_okm = true := by decide +kernel
theorem am_ok_11 : ([176, 177, 178, 179, 180, 181, 182, 183, 184, 185, 186, 187, 188, 189, 190, 191] : List Nat).all am_okm = true := by decide +kernel
theorem am_ok_12 : ([192, 193, 194, 195, 196, 197, 198, 199, 200, 201, 202, 203, 204, 205, 206, 207] : List Nat).all am_okm = true := by decide +kernel
theorem am_ok_13 : ([208, 209, 210, 211, 212, 213, 214, 215, 216, 217, 218, 219, 220, 221, 222, 223] : List Nat).all am_okm = true := by decide +kernel
theorem am_ok_14 : ([224, 225, 226, 227, 228, 229, 230, 231, 232, 233, 234, 235, 236, 237, 238, 239] : List Nat).all am_okm = true := by decide +kernel
theorem am_ok_15 : ([240, 241, 242, 243, 244, 245, 246, 247, 248, 249, 250, 251, 252, 253, 254, 255] : List Nat).all am_okm = true := by decide +kernel
theorem am_ok_16 : ([256, 257, 258, 259, 260, 261, 262, 263, 264, 265, 266, 267, 268, 269, 270, 271] : List Nat).all am_okm = true := by decide +kernel
theorem am_ok_17 : ([272, 273, 274, 275, 276, 277, 278, 279, 280, 281, 282, 283, 284, 285, 286, 287] : List Nat).all am_okm = true := by decide +kernel
theorem am_ok_18 : ([288, 289, 290, 291, 292, 293, 294, 295, 296, 297, 298, 299, 300, 301, 302, 303] : List Nat).all am_okm = true := by decide +kernel
theorem am_ok_19 : ([304, 305, 306, 307, 308, 309, 310, 311, 312, 313, 314, 315, 316, 317, 318, 319] : List Nat).all am_okm = true := by decide +kernel
theorem am_ok_20 : ([320, 321, 322, 323, 324, 325, 326, 327, 328, 329, 330, 331, 332, 333, 334, 335] : List Nat).all am_okm = true := by decide +kernel
theorem am_ok_21 : ([336, 337, 338, 339, 340, 341, 342, 343, 344, 345, 346, 347, 348, 349, 350, 351] : List Nat).all am_okm = true := by decide +kernel
theorem am_ok_22 : ([352, 353, 354, 355, 356, 357, 358, 359, 360, 361, 362, 363, 364, 365, 366, 367] : List Nat).all am_okm = true := by decide +kernel
theorem am_ok_23 : ([368, 369, 370, 371, 372, 373, 374, 375, 376, 377, 378, 379, 380, 381, 382, 383] : List Nat).all am_okm = true := by decide +kernel
theorem am_ok_24 : ([384, 385] : List Nat).all am_okm = true := by decide +kernel
theorem am_okl_0 : ((k_L_law.drop 0).take 40).all (am_chk 13 false code) = true := by decide +kernel
theorem am_okl_40 : ((k_L_law.drop 40).take 40).all (am_chk 13 false code) = true := by decide +kernel
theorem am_okl_80 : ((k_L_law.drop 80).take 40).all (am_chk 13 false code) = true := by decide +kernel
theorem am_okl_120 : ((k_L_law.drop 120).take 40).all (am_chk 13 false code) = true := by decide +kernel
theorem am_okl_160 : ((k_L_law.drop 160).take 40).all (am_chk 13 false code) = true := by decide +kernel
theorem am_okl_200 : ((k_L_law.drop 200).take 40).all (am_chk 13 false code) = true := by decide +kernel
theorem am_okl_240 : ((k_L_law.drop 240).take 40).all (am_chk 13 false code) = true := by decide +kernel
theorem am_okl_280 : ((k_L_law.drop 280).take 40).all (am_chk 13 false code) = true := by decide +kernel
theorem am_okl_320 : ((k_L_law.drop 320).take 40).all (am_chk 13 false code) = true := by decide +kernel
theorem am_okl_360 : ((k_L_law.drop 360).take 40).all (am_chk 13 false code) = true := by decide +kernel
theorem am_okl_400 : ((k_L_law.drop 400).take 40).all (am_chk 13 false code) = true := by decide +kernel
theorem am_okl_440 : ((k_L_law.drop 440).take 40).all (am_chk 13 false code) = true := by decide +kernel
theorem am_okl_480 : ((k_L_law.drop 480).take 40).all (am_chk 13 false code) = true := by decide +kernel
theorem am_okl_520 : ((k_L_law.drop 520).take 40).all (am_chk 13 false code) = true := by decide +kernel
theorem am_okl_560 : ((k_L_law.drop 560).take 40).all (am_chk 13 false code) = true := by decide +kernel
theorem am_okl_600 : ((k_L_law.drop 600).take 40).all (am_chk 13 false code) = true := by decide +kernel
theorem am_okl_640 : ((k_L_law.drop 640).take 40).all (am_chk 13 false code) = true := by decide +kernel
theorem am_okl_680 : ((k_L_law.drop 680).take 40).all (am_chk 13 false code) = true := by decide +kernel
theorem am_okl_720 : ((k_L_law.drop 720).take 40).all (am_chk 13 false code) = true := by decide +kernel
theorem am_okl_760 : ((k_L_law.drop 760).take 40).all (am_chk 13 false code) = true := by decide +kernel
theorem am_okl_800 : ((k_L_law.drop 800).take 40).all (am_chk 13 false code) = true := by decide +kernel
theorem am_okl_840 : ((k_L_law.drop 840).take 40).all (am_chk 13 false code) = true := by decide +kernel
theorem am_okl_880 : ((k_L_law.drop 880).take 40).all (am_chk 13 false code) = true := by decide +kernel
theorem am_okl_920 : ((k_L_law.drop 920).take 40).all (am_chk 13 false code) = true := by decide +kernel
theorem am_okl_960 : ((k_L_law.drop 960).take 40).all (am_chk 13 false code) = true := by decide +kernel
theorem am_okl_1000 : ((k_L_law.drop 1000).take 40).all (am_chk 13 false code) = true := by decide +kernel
theorem am_okl_1040 : ((k_L_law.drop 1040).take 40).all (am_chk 13 false code) = true := by decide +kernel
theorem am_okl_1080 : ((k_L_law.drop 1080).take 40).all (am_chk 13 false code) = true := by decide +kernel
theorem am_okl_1120 : ((k_L_law.drop 1120).take 40).all (am_chk 13 false code) = true := by decide +kernel
theorem am_okl_1160 : ((k_L_law.drop 1160).take 40).all (am_chk 13 false code) = true := by decide +kernel
theorem am_okl_1200 : ((k_L_law.drop 1200).take 40).all (am_chk 13 false code) = true := by decide +kernel
theorem am_okl_1240 : ((k_L_law.drop 1240).take 40).all (am_chk 13 false code) = true := by decide +kernel
theorem am_law_at : am_m 386 = some (yL_law, 4, some .boolean, k_L_law, 13) := rfl
theorem am_split {α : Type} (l : List α) (a b : Nat) (f : α → Bool) (h1 : ((l.drop a).take b).all f = true) (h2 : (l.drop (a + b)).all f = true) : (l.drop a).all f = true := by
  rw [← List.take_append_drop b (l.drop a), List.all_append, h1, List.drop_drop, h2]; rfl
theorem am_ok_law : k_L_law.all (am_chk 13 false code) = true := by
  have h := (by decide +kernel : (k_L_law.drop 1280).all (am_chk 13 false code) = true)
  replace h := am_split k_L_law 1240 40 _ am_okl_1240 h
  replace h := am_split k_L_law 1200 40 _ am_okl_1200 h
  replace h := am_split k_L_law 1160 40 _ am_okl_1160 h
  replace h := am_split k_L_law 1120 40 _ am_okl_1120 h
  replace h := am_split k_L_law 1080 40 _ am_okl_1080 h
  replace h := am_split k_L_law 1040 40 _ am_okl_1040 h
  replace h := am_split k_L_law 1000 40 _ am_okl_1000 h
  replace h := am_split k_L_law 960 40 _ am_okl_960 h
  replace h := am_split k_L_law 920 40 _ am_okl_920 h
  replace h := am_split k_L_law 880 40 _ am_okl_880 h
  replace h := am_split k_L_law 840 40 _ am_okl_840 h
  replace h := am_split k_L_law 800 40 _ am_okl_800 h
  replace h := am_split k_L_law 760 40 _ am_okl_760 h
  replace h := am_split k_L_law 720 40 _ am_okl_720 h
  replace h := am_split k_L_law 680 40 _ am_okl_680 h
  replace h := am_split k_L_law 640 40 _ am_okl_640 h
  replace h := am_split k_L_law 600 40 _ am_okl_600 h
  replace h := am_split k_L_law 560 40 _ am_okl_560 h
  replace h := am_split k_L_law 520 40 _ am_okl_520 h
  replace h := am_split k_L_law 480 40 _ am_okl_480 h
  replace h := am_split k_L_law 440 40 _ am_okl_440 h
  replace h := am_split k_L_law 400 40 _ am_okl_400 h
  replace h := am_split k_L_law 360 40 _ am_okl_360 h
  replace h := am_split k_L_law 320 40 _ am_okl_320 h
  replace h := am_split k_L_law 280 40 _ am_okl_280 h
  replace h := am_split k_L_law 240 40 _ am_okl_240 h
  replace h := am_split k_L_law 200 40 _ am_okl_200 h
  replace h := am_split k_L_law 160 40 _ am_okl_160 h
  replace h := am_split k_L_law 120 40 _ am_okl_120 h
  replace h := am_split k_L_law 80 40 _ am_okl_80 h
  replace h := am_split k_L_law 40 40 _ am_okl_40 h
  replace h := am_split k_L_law 0 40 _ am_okl_0 h
  exact h
theorem am_ok_all : ∀ m, m < 386 → am_okm m = true := by
  intro m hm
  have e : m ∈ ([0, 1, 2, 3, 4, 5, 6, 7, 8, 9, 10, 11, 12, 13, 14, 15] ++ ([16, 17, 18, 19, 20, 21, 22, 23, 24, 25, 26, 27, 28, 29, 30, 31] ++ ([32, 33, 34, 35, 36, 37, 38, 39, 40, 41, 42, 43, 44, 45, 46, 47] ++ ([48, 49, 50, 51, 52, 53, 54, 55, 56, 57, 58, 59, 60, 61, 62, 63] ++ ([64, 65, 66, 67, 68, 69, 70, 71, 72, 73, 74, 75, 76, 77, 78, 79] ++ ([80, 81, 82, 83, 84, 85, 86, 87, 88, 89, 90, 91, 92, 93, 94, 95] ++ ([96, 97, 98, 99, 100, 101, 102, 103, 104, 105, 106, 107, 108, 109, 110, 111] ++ ([112, 113, 114, 115, 116, 117, 118, 119, 120, 121, 122, 123, 124, 125, 126, 127] ++ ([128, 129, 130, 131, 132, 133, 134, 135, 136, 137, 138, 139, 140, 141, 142, 143] ++ ([144, 145, 146, 147, 148, 149, 150, 151, 152, 153, 154, 155, 156, 157, 158, 159] ++ ([160, 161, 162, 163, 164, 165, 166, 167, 168, 169, 170, 171, 172, 173, 174, 175] ++ ([176, 177, 178, 179, 180, 181, 182, 183, 184, 185, 186, 187, 188, 189, 190, 191] ++ ([192, 193, 194, 195, 196, 197, 198, 199, 200, 201, 202, 203, 204, 205, 206, 207] ++ ([208, 209, 210, 211, 212, 213, 214, 215, 216, 217, 218, 219, 220, 221, 222, 223] ++ ([224, 225, 226, 227, 228, 229, 230, 231, 232, 233, 234, 235, 236, 237, 238, 239] ++ ([240, 241, 242, 243, 244, 245, 246, 247, 248, 249, 250, 251, 252, 253, 254, 255] ++ ([256, 257, 258, 259, 260, 261, 262, 263, 264, 265, 266, 267, 268, 269, 270, 271] ++ ([272, 273, 274, 275, 276, 277, 278, 279, 280, 281, 282, 283, 284, 285, 286, 287] ++ ([288, 289, 290, 291, 292, 293, 294, 295, 296, 297, 298, 299, 300, 301, 302, 303] ++ ([304, 305, 306, 307, 308, 309, 310, 311, 312, 313, 314, 315, 316, 317, 318, 319] ++ ([320, 321, 322, 323, 324, 325, 326, 327, 328, 329, 330, 331, 332, 333, 334, 335] ++ ([336, 337, 338, 339, 340, 341, 342, 343, 344, 345, 346, 347, 348, 349, 350, 351] ++ ([352, 353, 354, 355, 356, 357, 358, 359, 360, 361, 362, 363, 364, 365, 366, 367] ++ ([368, 369, 370, 371, 372, 373, 374, 375, 376, 377, 378, 379, 380, 381, 382, 383] ++ ([384, 385])))))))))))))))))))))))) : List Nat) := by
    have h : (List.range 386) = [0, 1, 2, 3, 4, 5, 6, 7, 8, 9, 10, 11, 12, 13, 14, 15] ++ ([16, 17, 18, 19, 20, 21, 22, 23, 24, 25, 26, 27, 28, 29, 30, 31] ++ ([32, 33, 34, 35, 36, 37, 38, 39, 40, 41, 42, 43, 44, 45, 46, 47] ++ ([48, 49, 50, 51, 52, 53, 54, 55, 56, 57, 58, 59, 60, 61, 62, 63] ++ ([64, 65, 66, 67, 68, 69, 70, 71, 72, 73, 74, 75, 76, 77, 78, 79] ++ ([80, 81, 82, 83, 84, 85, 86, 87, 88, 89, 90, 91, 92, 93, 94, 95] ++ ([96, 97, 98, 99, 100, 101, 102, 103, 104, 105, 106, 107, 108, 109, 110, 111] ++ ([112, 113, 114, 115, 116, 117, 118, 119, 120, 121, 122, 123, 124, 125, 126, 127] ++ ([128, 129, 130, 131, 132, 133, 134, 135, 136, 137, 138, 139, 140, 141, 142, 143] ++ ([144, 145, 146, 147, 148, 149, 150, 151, 152, 153, 154, 155, 156, 157, 158, 159] ++ ([160, 161, 162, 163, 164, 165, 166, 167, 168, 169, 170, 171, 172, 173, 174, 175] ++ ([176, 177, 178, 179, 180, 181, 182, 183, 184, 185, 186, 187, 188, 189, 190, 191] ++ ([192, 193, 194, 195, 196, 197, 198, 199, 200, 201, 202, 203, 204, 205, 206, 207] ++ ([208, 209, 210, 211, 212, 213, 214, 215, 216, 217, 218, 219, 220, 221, 222, 223] ++ ([224, 225, 226, 227, 228, 229, 230, 231, 232, 233, 234, 235, 236, 237, 238, 239] ++ ([240, 241, 242, 243, 244, 245, 246, 247, 248, 249, 250, 251, 252, 253, 254, 255] ++ ([256, 257, 258, 259, 260, 261, 262, 263, 264, 265, 266, 267, 268, 269, 270, 271] ++ ([272, 273, 274, 275, 276, 277, 278, 279, 280, 281, 282, 283, 284, 285, 286, 287] ++ ([288, 289, 290, 291, 292, 293, 294, 295, 296, 297, 298, 299, 300, 301, 302, 303] ++ ([304, 305, 306, 307, 308, 309, 310, 311, 312, 313, 314, 315, 316, 317, 318, 319] ++ ([320, 321, 322, 323, 324, 325, 326, 327, 328, 329, 330, 331, 332, 333, 334, 335] ++ ([336, 337, 338, 339, 340, 341, 342, 343, 344, 345, 346, 347, 348, 349, 350, 351] ++ ([352, 353, 354, 355, 356, 357, 358, 359, 360, 361, 362, 363, 364, 365, 366, 367] ++ ([368, 369, 370, 371, 372, 373, 374, 375, 376, 377, 378, 379, 380, 381, 382, 383] ++ ([384, 385])))))))))))))))))))))))) := by decide +kernel
    rw [← h]; exact List.mem_range.mpr hm
  simp only [List.mem_append] at e
  rcases e with e | e | e | e | e | e | e | e | e | e | e | e | e | e | e | e | e | e | e | e | e | e | e | e | e
  · exact List.all_eq_true.mp am_ok_0 m e
  · exact List.all_eq_true.mp am_ok_1 m e
  · exact List.all_eq_true.mp am_ok_2 m e
  · exact List.all_eq_true.mp am_ok_3 m e
  · exact List.all_eq_true.mp am_ok_4 m e
  · exact List.all_eq_true.mp am_ok_5 m e
  · exact List.all_eq_true.mp am_ok_6 m e
  · exact List.all_eq_true.mp am_ok_7 m e
  · exact List.all_eq_true.mp am_ok_8 m e
  · exact List.all_eq_true.mp am_ok_9 m e
  · exact List.all_eq_true.mp am_ok_10 m e
  · exact List.all_eq_true.mp am_ok_11 m e
  · exact List.all_eq_true.mp am_ok_12 m e
  · exact List.all_eq_true.mp am_ok_13 m e
  · exact List.all_eq_true.mp am_ok_14 m e
  · exact List.all_eq_true.mp am_ok_15 m e
  · exact List.all_eq_true.mp am_ok_16 m e
  · exact List.all_eq_true.mp am_ok_17 m e
  · exact List.all_eq_true.mp am_ok_18 m e
  · exact List.all_eq_true.mp am_ok_19 m e
  · exact List.all_eq_true.mp am_ok_20 m e
  · exact List.all_eq_true.mp am_ok_21 m e
  · exact List.all_eq_true.mp am_ok_22 m e
  · exact List.all_eq_true.mp am_ok_23 m e
  · exact List.all_eq_true.mp am_ok_24 m e

/-! the law's words among the tables', by their places: the printed row asks more memory than a part has -/
theorem z_in {big ws : List Cond} (ps : List Nat) (h : ws = ps.filterMap (fun i => big[i]?)) : ∀ w ∈ ws, w ∈ big := by
  intro w hw
  rw [h] at hw
  obtain ⟨i, -, hi⟩ := List.mem_filterMap.mp hw
  exact List.mem_of_getElem? hi
set_option maxRecDepth 100000 in
theorem in_wsL_law_r1 : ∀ w ∈ wsL_law_r1, w ∈ lw_tbl := z_in [19, 20, 14, 306, 307, 18, 494, 21, 22, 23, 24, 25, 26, 27, 28, 15, 92, 48, 49, 16, 93, 94, 29, 30] rfl
set_option maxRecDepth 100000 in
theorem in_wsL_law_r2 : ∀ w ∈ wsL_law_r2, w ∈ lw_tbl := z_in [31, 32, 47, 33, 34, 36, 37, 50, 51, 52, 53, 61, 63, 65, 66, 54, 55, 56, 57, 58, 59, 17, 60, 67] rfl
set_option maxRecDepth 100000 in
theorem in_wsL_law_r3 : ∀ w ∈ wsL_law_r3, w ∈ lw_tbl := z_in [69, 71, 73, 308, 309, 310, 311, 318, 319, 320, 321, 322, 324, 325, 327, 328, 330, 331, 332, 312, 314, 6, 315, 326] rfl
set_option maxRecDepth 100000 in
theorem in_wsL_law_r4 : ∀ w ∈ wsL_law_r4, w ∈ lw_tbl := z_in [329, 102, 103, 104, 105, 114, 106, 107, 108, 109, 113, 110, 111, 112, 115, 116, 117, 118, 368, 369, 370, 371, 316, 383] rfl
set_option maxRecDepth 100000 in
theorem in_wsL_law_r5 : ∀ w ∈ wsL_law_r5, w ∈ lw_tbl := z_in [372, 373, 374, 375, 379, 376, 377, 378, 380, 381, 382, 119, 120, 121, 122, 123, 124, 125, 384, 385, 386, 387, 126, 127] rfl
set_option maxRecDepth 100000 in
theorem in_wsL_law_r6 : ∀ w ∈ wsL_law_r6, w ∈ lw_tbl := z_in [128, 129, 388, 389, 390, 391, 130, 131, 132, 133, 139, 134, 135, 136, 137, 138, 140, 141, 142, 143, 144, 145, 392, 393] rfl
set_option maxRecDepth 100000 in
theorem in_wsL_law_r7 : ∀ w ∈ wsL_law_r7, w ∈ lw_tbl := z_in [394, 395, 401, 396, 397, 398, 399, 400, 402, 404, 7, 405, 146, 147, 148, 149, 406, 407, 408, 409, 150, 151, 152, 153] rfl
set_option maxRecDepth 100000 in
theorem in_wsL_law_r8 : ∀ w ∈ wsL_law_r8, w ∈ lw_tbl := z_in [154, 68, 155, 410, 411, 412, 413, 414, 156, 157, 158, 159, 164, 160, 161, 162, 163, 165, 166, 167, 168, 169, 170, 171] rfl
set_option maxRecDepth 100000 in
theorem in_wsL_law_r9 : ∀ w ∈ wsL_law_r9, w ∈ lw_tbl := z_in [172, 415, 416, 417, 418, 423, 419, 421, 8, 422, 173, 174, 175, 176, 177, 178, 179, 180, 181, 182, 183, 184, 424, 425] rfl
set_option maxRecDepth 100000 in
theorem in_wsL_law_r10 : ∀ w ∈ wsL_law_r10, w ∈ lw_tbl := z_in [426, 427, 323, 185, 186, 187, 188, 189, 35, 190, 191, 192, 193, 194, 195, 196, 197, 198, 199, 200, 201, 428, 429, 430] rfl
set_option maxRecDepth 100000 in
theorem in_wsL_law_r11 : ∀ w ∈ wsL_law_r11, w ∈ lw_tbl := z_in [431, 432, 433, 434, 435, 436, 202, 203, 204, 205, 206, 207, 208, 209, 210, 211, 213, 214, 215, 216, 217, 219, 0, 220] rfl
set_option maxRecDepth 100000 in
theorem in_wsL_law_r12 : ∀ w ∈ wsL_law_r12, w ∈ lw_tbl := z_in [221, 223, 1, 224, 225, 227, 2, 228, 437, 438, 439, 440, 441, 317, 442, 443, 444, 446, 9, 447, 229, 230, 231, 232] rfl
set_option maxRecDepth 100000 in
theorem in_wsL_law_r13 : ∀ w ∈ wsL_law_r13, w ∈ lw_tbl := z_in [233, 74, 234, 235, 236, 237, 238, 240, 3, 241, 242, 243, 17, 244, 245, 247, 4, 248, 249, 251, 5, 252, 448, 449] rfl
set_option maxRecDepth 100000 in
theorem in_wsL_law_r14 : ∀ w ∈ wsL_law_r14, w ∈ lw_tbl := z_in [450, 451, 452, 453, 455, 10, 456, 457, 459, 11, 460, 461, 463, 12, 464, 253, 254, 255, 256, 257, 258, 259, 260, 465] rfl
set_option maxRecDepth 100000 in
theorem in_wsL_law_r15 : ∀ w ∈ wsL_law_r15, w ∈ lw_tbl := z_in [466, 467, 468, 261, 262, 263, 264, 62, 64, 469, 470, 471, 472, 265, 266, 267, 268, 72, 70, 269, 270, 271, 272, 273] rfl
set_option maxRecDepth 100000 in
theorem in_wsL_law_r16 : ∀ w ∈ wsL_law_r16, w ∈ lw_tbl := z_in [274, 275, 276, 473, 474, 475, 476, 277, 278, 279, 280, 281, 282, 283, 284, 285, 286, 287, 288, 289, 290, 291, 292, 293] rfl
set_option maxRecDepth 100000 in
theorem in_wsL_law_r17 : ∀ w ∈ wsL_law_r17, w ∈ lw_tbl := z_in [294, 477, 478, 479, 480, 481, 482, 483, 484, 485, 295, 296, 297, 298, 299, 300, 301, 486, 487, 488, 489, 302, 303, 304] rfl
set_option maxRecDepth 100000 in
theorem in_wsL_law_r18 : ∀ w ∈ wsL_law_r18, w ∈ lw_tbl := z_in [305, 490, 491, 492, 493] rfl
set_option maxRecDepth 100000 in
theorem in_wsX20 : ∀ w ∈ wsX20, w ∈ lw_tbl := z_in [95, 97, 99] rfl
set_option maxRecDepth 100000 in
theorem in_wsX30 : ∀ w ∈ wsX30, w ∈ lw_tbl := z_in [333, 335, 337, 339, 341, 343, 345, 347, 349, 351, 353, 355, 357, 359, 361, 363, 365] rfl
set_option maxRecDepth 100000 in
theorem in_wsX00 : ∀ w ∈ wsX00, w ∈ lw_tbl := z_in [38, 40, 42, 44] rfl
set_option maxRecDepth 100000 in
theorem in_wsX10 : ∀ w ∈ wsX10, w ∈ lw_tbl := z_in [75, 77, 79, 81, 83, 85, 87, 89] rfl
theorem z_ap {big a b : List Cond} (ha : ∀ w ∈ a, w ∈ big) (hb : ∀ w ∈ b, w ∈ big) : ∀ w ∈ a ++ b, w ∈ big := fun w h => (List.mem_append.mp h).elim (ha w) (hb w)
theorem wsL_law_in : ∀ w ∈ wsL_law, w ∈ lw_tbl := (z_ap (z_ap (z_ap (z_ap (z_ap (z_ap in_wsL_law_r1 (z_ap in_wsL_law_r2 (z_ap in_wsL_law_r3 (z_ap in_wsL_law_r4 (z_ap in_wsL_law_r5 (z_ap in_wsL_law_r6 (z_ap in_wsL_law_r7 (z_ap in_wsL_law_r8 (z_ap in_wsL_law_r9 (z_ap in_wsL_law_r10 (z_ap in_wsL_law_r11 (z_ap in_wsL_law_r12 (z_ap in_wsL_law_r13 (z_ap in_wsL_law_r14 (z_ap in_wsL_law_r15 (z_ap in_wsL_law_r16 (z_ap in_wsL_law_r17 in_wsL_law_r18))))))))))))))))) in_wsX20) in_wsX30) in_wsX00) in_wsX10) (fun _ h => absurd h List.not_mem_nil))
theorem inlX0 : ∀ w ∈ wsX00, w ∈ wsL_law := fun _ h => List.mem_append_left _ (List.mem_append_left _ (List.mem_append_right _ h))
theorem inX0 : ∀ w ∈ wsX00, w ∈ lw_tbl := fun w h => wsL_law_in w (inlX0 w h)
theorem inlX1 : ∀ w ∈ wsX10, w ∈ wsL_law := fun _ h => List.mem_append_left _ (List.mem_append_right _ h)
theorem inX1 : ∀ w ∈ wsX10, w ∈ lw_tbl := fun w h => wsL_law_in w (inlX1 w h)
theorem inlX2 : ∀ w ∈ wsX20, w ∈ wsL_law := fun _ h => List.mem_append_left _ (List.mem_append_left _ (List.mem_append_left _ (List.mem_append_left _ (List.mem_append_right _ h))))
theorem inX2 : ∀ w ∈ wsX20, w ∈ lw_tbl := fun w h => wsL_law_in w (inlX2 w h)
theorem inlX3 : ∀ w ∈ wsX30, w ∈ wsL_law := fun _ h => List.mem_append_left _ (List.mem_append_left _ (List.mem_append_left _ (List.mem_append_right _ h)))
theorem inX3 : ∀ w ∈ wsX30, w ∈ lw_tbl := fun w h => wsL_law_in w (inlX3 w h)
theorem inJ9 : ∀ w ∈ wsJ90, w ∈ lw_tbl := by decide +kernel

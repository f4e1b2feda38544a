theorem in_r {big : List Cond} (ws : List Cond) (ps : List Nat) (hp : ws = ps.filterMap (fun i => big[i]?)) : ∀ w ∈ ws, w ∈ big := by
  intro w hw
  rw [hp] at hw
  obtain ⟨i, -, hi⟩ := List.mem_filterMap.mp hw
  first | exact List.mem_of_getElem? hi | exact List.getElem?_mem hi
theorem wl_1 : ∀ w ∈ wsL_law_r1, w ∈ lw_tbl := in_r _ [31, 32, 24, 33, 34, 35, 36, 37, 38, 39, 40, 25, 125, 126, 127, 128, 80, 81, 26, 129, 96, 97, 27, 130] rfl
theorem wl_2 : ∀ w ∈ wsL_law_r2, w ∈ lw_tbl := in_r _ [42, 43, 44, 79, 45, 46, 47, 48, 49, 50, 51, 52, 53, 54, 55, 82, 83, 84, 85, 86, 89, 90, 99, 100] rfl
theorem wl_3 : ∀ w ∈ wsL_law_r3, w ∈ lw_tbl := in_r _ [101, 124, 102, 103, 104, 105, 106, 107, 108, 235, 236, 237, 238, 239, 240, 241, 242, 234, 149, 150, 151, 152, 154, 153] rfl
theorem wl_4 : ∀ w ∈ wsL_law_r4, w ∈ lw_tbl := in_r _ [28, 251, 252, 253, 254, 148, 247, 248, 249, 250, 222, 224, 11, 225, 226, 227, 228, 229, 230, 232, 12, 233, 144, 145] rfl
theorem wl_5 : ∀ w ∈ wsL_law_r5, w ∈ lw_tbl := in_r _ [146, 147, 155, 156, 157, 158, 159, 161, 0, 162, 163, 165, 1, 166, 167, 168, 169, 170, 171, 172, 173, 174, 175, 176] rfl
theorem wl_6 : ∀ w ∈ wsL_law_r6, w ∈ lw_tbl := in_r _ [177, 179, 2, 180, 181, 183, 3, 184, 197, 198, 29, 199, 185, 187, 4, 188, 189, 191, 5, 192, 193, 195, 6, 196] rfl
theorem wl_7 : ∀ w ∈ wsL_law_r7, w ∈ lw_tbl := in_r _ [200, 202, 7, 203, 204, 206, 8, 207, 208, 210, 9, 211, 212, 214, 10, 215, 216, 217, 30, 218, 219, 220, 221, 243] rfl
theorem wl_8 : ∀ w ∈ wsL_law_r8, w ∈ lw_tbl := in_r _ [244, 245, 246, 302, 303, 304, 305, 306, 307, 308, 309, 310, 311, 23, 312, 317, 318, 319, 320, 321, 255, 256, 257, 258] rfl
theorem wl_9 : ∀ w ∈ wsL_law_r9, w ∈ lw_tbl := in_r _ [259, 260, 261, 262, 263, 264, 265, 266, 267, 268, 269, 270, 271, 273, 13, 274, 275, 277, 14, 278, 279, 281, 15, 282] rfl
theorem wl_10 : ∀ w ∈ wsL_law_r10, w ∈ lw_tbl := in_r _ [287, 288, 289, 283, 285, 16, 286, 290, 292, 17, 293, 294, 296, 18, 297, 298, 300, 19, 301, 322, 323, 324, 325, 326] rfl
theorem wl_11 : ∀ w ∈ wsL_law_r11, w ∈ lw_tbl := in_r _ [327, 328, 329, 330, 332, 20, 333, 334, 336, 21, 337, 338, 340, 22, 341, 342, 343, 344, 313, 314, 315, 316, 345, 346] rfl
theorem wl_12 : ∀ w ∈ wsL_law_r12, w ∈ lw_tbl := in_r _ [347, 348, 349, 350, 351, 352, 353, 354, 355, 356, 357, 358, 359, 360, 361, 362, 363, 364, 365, 366, 367, 368, 369, 370] rfl
theorem wl_13 : ∀ w ∈ wsL_law_r13, w ∈ lw_tbl := in_r _ [371, 372, 373, 374, 375, 376, 377, 378, 379, 380, 381, 382, 383, 384, 385, 387, 389, 390, 391, 392, 393, 394, 395, 396] rfl
theorem wl_14 : ∀ w ∈ wsL_law_r14, w ∈ lw_tbl := in_r _ [397, 398, 399, 400, 401, 402, 403, 404, 405, 406, 407, 408, 409, 410, 411, 412, 413, 414, 415, 416, 417, 418, 419, 420] rfl
theorem wl_15 : ∀ w ∈ wsL_law_r15, w ∈ lw_tbl := in_r _ [421, 422, 423, 424, 425, 426, 427, 428, 429, 430, 431, 432, 433, 434, 435, 436, 437, 438] rfl
theorem wl_wsX00 : ∀ w ∈ wsX00, w ∈ lw_tbl := in_r _ [91, 93] rfl
theorem wl_wsX10 : ∀ w ∈ wsX10, w ∈ lw_tbl := in_r _ [56, 58, 60, 62, 64, 66, 68, 70, 72, 74, 76] rfl
theorem wl_wsX20 : ∀ w ∈ wsX20, w ∈ lw_tbl := in_r _ [109, 111, 113, 115, 117, 119, 121] rfl
theorem wl_wsX30 : ∀ w ∈ wsX30, w ∈ lw_tbl := in_r _ [131, 133, 135, 137, 139, 141] rfl
theorem wl_wsX40 : ∀ w ∈ wsX40, w ∈ lw_tbl := in_r _ [] rfl
theorem wl_wsJ60 : ∀ w ∈ wsJ60, w ∈ lw_tbl := in_r _ [] rfl
theorem wl_wsJ90 : ∀ w ∈ wsJ90, w ∈ lw_tbl := in_r _ [] rfl
theorem wl_wsJ100 : ∀ w ∈ wsJ100, w ∈ lw_tbl := in_r _ [] rfl
theorem wsL_law_in : ∀ w ∈ wsL_law, w ∈ lw_tbl := by
  show ∀ w ∈ (wsL_law_r1 ++ (wsL_law_r2 ++ (wsL_law_r3 ++ (wsL_law_r4 ++ (wsL_law_r5 ++ (wsL_law_r6 ++ (wsL_law_r7 ++ (wsL_law_r8 ++ (wsL_law_r9 ++ (wsL_law_r10 ++ (wsL_law_r11 ++ (wsL_law_r12 ++ (wsL_law_r13 ++ (wsL_law_r14 ++ wsL_law_r15)))))))))))))) ++ wsX30 ++ wsX10 ++ wsX00 ++ wsX20 ++ ([] : List Cond), w ∈ lw_tbl
  exact List.forall_mem_append.mpr ⟨(List.forall_mem_append.mpr ⟨(List.forall_mem_append.mpr ⟨(List.forall_mem_append.mpr ⟨(List.forall_mem_append.mpr ⟨(List.forall_mem_append.mpr ⟨wl_1, (List.forall_mem_append.mpr ⟨wl_2, (List.forall_mem_append.mpr ⟨wl_3, (List.forall_mem_append.mpr ⟨wl_4, (List.forall_mem_append.mpr ⟨wl_5, (List.forall_mem_append.mpr ⟨wl_6, (List.forall_mem_append.mpr ⟨wl_7, (List.forall_mem_append.mpr ⟨wl_8, (List.forall_mem_append.mpr ⟨wl_9, (List.forall_mem_append.mpr ⟨wl_10, (List.forall_mem_append.mpr ⟨wl_11, (List.forall_mem_append.mpr ⟨wl_12, (List.forall_mem_append.mpr ⟨wl_13, (List.forall_mem_append.mpr ⟨wl_14, wl_15⟩)⟩)⟩)⟩)⟩)⟩)⟩)⟩)⟩)⟩)⟩)⟩)⟩)⟩), wl_wsX30⟩), wl_wsX10⟩), wl_wsX00⟩), wl_wsX20⟩), fun _ h => absurd h List.not_mem_nil⟩
theorem inlX0 : ∀ w ∈ wsX00, w ∈ wsL_law := fun _ h => List.mem_append_left _ (List.mem_append_left _ (List.mem_append_right _ h))
theorem inX0 : ∀ w ∈ wsX00, w ∈ lw_tbl := fun w h => wsL_law_in w (inlX0 w h)
theorem inlX1 : ∀ w ∈ wsX10, w ∈ wsL_law := fun _ h => List.mem_append_left _ (List.mem_append_left _ (List.mem_append_left _ (List.mem_append_right _ h)))
theorem inX1 : ∀ w ∈ wsX10, w ∈ lw_tbl := fun w h => wsL_law_in w (inlX1 w h)
theorem inlX2 : ∀ w ∈ wsX20, w ∈ wsL_law := fun _ h => List.mem_append_left _ (List.mem_append_right _ h)
theorem inX2 : ∀ w ∈ wsX20, w ∈ lw_tbl := fun w h => wsL_law_in w (inlX2 w h)
theorem inlX3 : ∀ w ∈ wsX30, w ∈ wsL_law := fun _ h => List.mem_append_left _ (List.mem_append_left _ (List.mem_append_left _ (List.mem_append_left _ (List.mem_append_right _ h))))
theorem inX3 : ∀ w ∈ wsX30, w ∈ lw_tbl := fun w h => wsL_law_in w (inlX3 w h)
theorem inX4 : ∀ w ∈ wsX40, w ∈ lw_tbl := by decide +kernel
theorem inJ6 : ∀ w ∈ wsJ60, w ∈ lw_tbl := by decide +kernel
theorem inJ9 : ∀ w ∈ wsJ90, w ∈ lw_tbl := by decide +kernel
theorem inJ10 : ∀ w ∈ wsJ100, w ∈ lw_tbl := by decide +kernel
abbrev vwCl : List vw_C := [(RX0, TX0, 2), (RX1, TX1, 11), (RX2, TX2, 7), (RX3, TX3, 6)]

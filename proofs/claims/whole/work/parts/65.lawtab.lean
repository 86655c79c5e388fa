theorem mem_ix {T ws : List Cond} (is : List Nat) (h : is.map (fun i => T[i]?) = ws.map some) : ∀ w ∈ ws, w ∈ T := by
  intro w hw
  obtain ⟨k, hk⟩ := List.getElem?_of_mem hw
  have h1 : (ws.map some)[k]? = some (some w) := by rw [List.getElem?_map, hk]; rfl
  rw [← h, List.getElem?_map] at h1
  cases hi : is[k]? with
  | none => rw [hi] at h1; cases h1
  | some i => rw [hi] at h1; exact List.mem_of_getElem? (Option.some.inj h1)
theorem in_law_r1 : ∀ w ∈ wsL_law_r1, w ∈ lw_tbl := mem_ix [33, 34, 23, 482, 483, 31, 702, 35, 36, 37, 38, 39, 40, 41, 42, 24, 207, 57, 58, 26, 208, 87, 88, 27] (by decide +kernel)
theorem in_law_r2 : ∀ w ∈ wsL_law_r2, w ∈ lw_tbl := mem_ix [209, 126, 127, 29, 210, 164, 165, 30, 211, 212, 43, 44, 45, 46, 56, 52, 49, 51, 50, 25, 60, 61, 62, 63] (by decide +kernel)
theorem in_law_r3 : ∀ w ∈ wsL_law_r3, w ∈ lw_tbl := mem_ix [66, 68, 89, 90, 91, 92, 96, 98, 100, 103, 107, 93, 94, 28, 95, 128, 129, 130, 131, 134, 135, 136, 163, 137] (by decide +kernel)
theorem in_law_r4 : ∀ w ∈ wsL_law_r4, w ∈ lw_tbl := mem_ix [138, 139, 132, 133, 166, 167, 168, 169, 173, 174, 175, 176, 177, 170, 171, 172, 484, 485, 486, 487, 491, 492, 495, 496] (by decide +kernel)
theorem in_law_r5 : ∀ w ∈ wsL_law_r5, w ∈ lw_tbl := mem_ix [497, 498, 499, 488, 500, 501, 502, 503, 504, 506, 507, 559, 508, 509, 510, 511, 226, 227, 228, 229, 230, 231, 232, 233] (by decide +kernel)
theorem in_law_r6 : ∀ w ∈ wsL_law_r6, w ∈ lw_tbl := mem_ix [234, 235, 236, 238, 239, 240, 241, 242, 243, 244, 245, 560, 561, 562, 563, 489, 564, 568, 569, 565, 566, 567, 570, 571] (by decide +kernel)
theorem in_law_r7 : ∀ w ∈ wsL_law_r7, w ∈ lw_tbl := mem_ix [572, 246, 247, 248, 249, 253, 250, 251, 252, 255, 256, 257, 258, 260, 261, 262, 263, 264, 573, 574, 575, 576, 581, 490] (by decide +kernel)
theorem in_law_r8 : ∀ w ∈ wsL_law_r8, w ∈ lw_tbl := mem_ix [582, 583, 577, 578, 579, 580, 584, 586, 14, 587, 588, 589, 590, 591, 592, 593, 594, 595, 266, 267, 268, 269, 72, 270] (by decide +kernel)
theorem in_law_r9 : ∀ w ∈ wsL_law_r9, w ∈ lw_tbl := mem_ix [271, 272, 273, 274, 275, 276, 277, 278, 279, 280, 70, 282, 284, 0, 285, 73, 596, 597, 598, 599, 600, 493, 286, 287] (by decide +kernel)
theorem in_law_r10 : ∀ w ∈ wsL_law_r10, w ∈ lw_tbl := mem_ix [288, 289, 290, 291, 292, 293, 601, 602, 603, 604, 294, 295, 296, 297, 298, 300, 1, 301, 65, 302, 303, 304, 305, 306] (by decide +kernel)
theorem in_law_r11 : ∀ w ∈ wsL_law_r11, w ∈ lw_tbl := mem_ix [605, 606, 607, 608, 609, 611, 15, 612, 307, 308, 309, 310, 112, 311, 312, 313, 314, 316, 317, 318, 319, 64, 110, 71] (by decide +kernel)
theorem in_law_r12 : ∀ w ∈ wsL_law_r12, w ∈ lw_tbl := mem_ix [320, 613, 614, 615, 616, 494, 321, 322, 323, 324, 99, 102, 106, 97, 617, 618, 619, 620, 325, 326, 327, 328, 108, 621] (by decide +kernel)
theorem in_law_r13 : ∀ w ∈ wsL_law_r13, w ∈ lw_tbl := mem_ix [622, 623, 624, 625, 329, 330, 331, 332, 333, 334, 335, 336, 337, 338, 340, 2, 341, 111, 101, 105, 342, 343, 344, 345] (by decide +kernel)
theorem in_law_r14 : ∀ w ∈ wsL_law_r14, w ∈ lw_tbl := mem_ix [626, 627, 628, 629, 630, 631, 633, 16, 634, 346, 347, 348, 349, 350, 351, 352, 353, 354, 355, 356, 357, 359, 3, 360] (by decide +kernel)
theorem in_law_r15 : ∀ w ∈ wsL_law_r15, w ∈ lw_tbl := mem_ix [140, 141, 361, 362, 363, 364, 365, 366, 367, 368, 369, 371, 4, 372, 384, 373, 374, 375, 376, 378, 5, 379, 380, 382] (by decide +kernel)
theorem in_law_r16 : ∀ w ∈ wsL_law_r16, w ∈ lw_tbl := mem_ix [6, 383, 635, 636, 637, 638, 639, 640, 641, 642, 643, 645, 17, 646, 647, 649, 18, 650, 651, 652, 653, 385, 386, 387] (by decide +kernel)
theorem in_law_r17 : ∀ w ∈ wsL_law_r17, w ∈ lw_tbl := mem_ix [388, 389, 390, 391, 392, 654, 655, 656, 657, 393, 394, 395, 396, 397, 398, 399, 400, 401, 403, 7, 404, 658, 659, 660] (by decide +kernel)
theorem in_law_r18 : ∀ w ∈ wsL_law_r18, w ∈ lw_tbl := mem_ix [661, 662, 405, 406, 407, 408, 75, 409, 410, 411, 412, 109, 413, 414, 415, 416, 67, 69, 663, 664, 665, 666, 505, 667] (by decide +kernel)
theorem in_law_r19 : ∀ w ∈ wsL_law_r19, w ∈ lw_tbl := mem_ix [669, 19, 670, 671, 673, 20, 674, 417, 418, 419, 420, 421, 422, 423, 424, 74, 435, 436, 437, 32, 438, 425, 426, 428] (by decide +kernel)
theorem in_law_r20 : ∀ w ∈ wsL_law_r20, w ∈ lw_tbl := mem_ix [8, 429, 104, 430, 432, 9, 433, 434, 675, 676, 677, 678, 679, 680, 439, 440, 441, 442, 179, 181, 183, 443, 444, 445] (by decide +kernel)
theorem in_law_r21 : ∀ w ∈ wsL_law_r21, w ∈ lw_tbl := mem_ix [446, 178, 180, 182, 447, 448, 450, 10, 451, 460, 452, 454, 11, 455, 456, 458, 12, 459, 461, 463, 13, 464, 681, 682] (by decide +kernel)
theorem in_law_r22 : ∀ w ∈ wsL_law_r22, w ∈ lw_tbl := mem_ix [683, 684, 685, 687, 21, 688, 465, 466, 467, 468, 469, 689, 690, 691, 692, 693, 470, 471, 472, 473, 474, 475, 476, 477] (by decide +kernel)
theorem in_law_r23 : ∀ w ∈ wsL_law_r23, w ∈ lw_tbl := mem_ix [694, 695, 696, 697, 478, 479, 480, 481, 698, 699, 700, 701] (by decide +kernel)
theorem inT5 : ∀ w ∈ wsX50, w ∈ lw_tbl := by decide +kernel
theorem inT6 : ∀ w ∈ wsX60, w ∈ lw_tbl := by decide +kernel
theorem inT0 : ∀ w ∈ wsX00, w ∈ lw_tbl := by decide +kernel
theorem inT1 : ∀ w ∈ wsX10, w ∈ lw_tbl := by decide +kernel
theorem inT4 : ∀ w ∈ wsX40, w ∈ lw_tbl := by decide +kernel
theorem inT3 : ∀ w ∈ wsX30, w ∈ lw_tbl := by decide +kernel
theorem inT2 : ∀ w ∈ wsX20, w ∈ lw_tbl := by decide +kernel
theorem wsL_law_in : ∀ w ∈ wsL_law, w ∈ lw_tbl := (List.forall_mem_append.mpr ⟨(List.forall_mem_append.mpr ⟨(List.forall_mem_append.mpr ⟨(List.forall_mem_append.mpr ⟨(List.forall_mem_append.mpr ⟨(List.forall_mem_append.mpr ⟨(List.forall_mem_append.mpr ⟨(List.forall_mem_append.mpr ⟨(List.forall_mem_append.mpr ⟨in_law_r1, (List.forall_mem_append.mpr ⟨in_law_r2, (List.forall_mem_append.mpr ⟨in_law_r3, (List.forall_mem_append.mpr ⟨in_law_r4, (List.forall_mem_append.mpr ⟨in_law_r5, (List.forall_mem_append.mpr ⟨in_law_r6, (List.forall_mem_append.mpr ⟨in_law_r7, (List.forall_mem_append.mpr ⟨in_law_r8, (List.forall_mem_append.mpr ⟨in_law_r9, (List.forall_mem_append.mpr ⟨in_law_r10, (List.forall_mem_append.mpr ⟨in_law_r11, (List.forall_mem_append.mpr ⟨in_law_r12, (List.forall_mem_append.mpr ⟨in_law_r13, (List.forall_mem_append.mpr ⟨in_law_r14, (List.forall_mem_append.mpr ⟨in_law_r15, (List.forall_mem_append.mpr ⟨in_law_r16, (List.forall_mem_append.mpr ⟨in_law_r17, (List.forall_mem_append.mpr ⟨in_law_r18, (List.forall_mem_append.mpr ⟨in_law_r19, (List.forall_mem_append.mpr ⟨in_law_r20, (List.forall_mem_append.mpr ⟨in_law_r21, (List.forall_mem_append.mpr ⟨in_law_r22, in_law_r23⟩)⟩)⟩)⟩)⟩)⟩)⟩)⟩)⟩)⟩)⟩)⟩)⟩)⟩)⟩)⟩)⟩)⟩)⟩)⟩)⟩)⟩), inT5⟩), inT6⟩), inT0⟩), inT1⟩), inT4⟩), inT3⟩), inT2⟩), (fun _ h => absurd h List.not_mem_nil)⟩)
theorem inlX0 : ∀ w ∈ wsX00, w ∈ wsL_law := fun _ h => List.mem_append_left _ (List.mem_append_left _ (List.mem_append_left _ (List.mem_append_left _ (List.mem_append_left _ (List.mem_append_right _ h)))))
theorem inX0 : ∀ w ∈ wsX00, w ∈ lw_tbl := fun w h => wsL_law_in w (inlX0 w h)
theorem inlX1 : ∀ w ∈ wsX10, w ∈ wsL_law := fun _ h => List.mem_append_left _ (List.mem_append_left _ (List.mem_append_left _ (List.mem_append_left _ (List.mem_append_right _ h))))
theorem inX1 : ∀ w ∈ wsX10, w ∈ lw_tbl := fun w h => wsL_law_in w (inlX1 w h)
theorem inlX2 : ∀ w ∈ wsX20, w ∈ wsL_law := fun _ h => List.mem_append_left _ (List.mem_append_right _ h)
theorem inX2 : ∀ w ∈ wsX20, w ∈ lw_tbl := fun w h => wsL_law_in w (inlX2 w h)
theorem inlX3 : ∀ w ∈ wsX30, w ∈ wsL_law := fun _ h => List.mem_append_left _ (List.mem_append_left _ (List.mem_append_right _ h))
theorem inX3 : ∀ w ∈ wsX30, w ∈ lw_tbl := fun w h => wsL_law_in w (inlX3 w h)
theorem inlX4 : ∀ w ∈ wsX40, w ∈ wsL_law := fun _ h => List.mem_append_left _ (List.mem_append_left _ (List.mem_append_left _ (List.mem_append_right _ h)))
theorem inX4 : ∀ w ∈ wsX40, w ∈ lw_tbl := fun w h => wsL_law_in w (inlX4 w h)
theorem inlX5 : ∀ w ∈ wsX50, w ∈ wsL_law := fun _ h => List.mem_append_left _ (List.mem_append_left _ (List.mem_append_left _ (List.mem_append_left _ (List.mem_append_left _ (List.mem_append_left _ (List.mem_append_left _ (List.mem_append_right _ h)))))))
theorem inX5 : ∀ w ∈ wsX50, w ∈ lw_tbl := fun w h => wsL_law_in w (inlX5 w h)
theorem inlX6 : ∀ w ∈ wsX60, w ∈ wsL_law := fun _ h => List.mem_append_left _ (List.mem_append_left _ (List.mem_append_left _ (List.mem_append_left _ (List.mem_append_left _ (List.mem_append_left _ (List.mem_append_right _ h))))))
theorem inX6 : ∀ w ∈ wsX60, w ∈ lw_tbl := fun w h => wsL_law_in w (inlX6 w h)

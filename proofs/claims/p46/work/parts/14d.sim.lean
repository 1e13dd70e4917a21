/-! ===== THE MACHINE FOLLOWS THE LITTLE MACHINE, part 4: the pool, checked by program ===== -/
theorem j_mem {w : Jvm.Cond} (p : Nat) (h : (decide (lw_tbl[p]? = some w) && goodWord w) = true) : w ∈ j_ws := by
  simp only [Bool.and_eq_true, decide_eq_true_eq] at h
  exact List.mem_filter.mpr ⟨List.mem_of_getElem? h.1, h.2⟩
theorem m_hasN {p : Nat} {w : Jvm.Cond} (h : (decide (lw_tbl[p]? = some w) && j_isN w) = true) : w ∈ lw_tbl := by
  simp only [Bool.and_eq_true, decide_eq_true_eq] at h
  exact List.mem_of_getElem? h.1
def j_hasN (p : Nat) (w : Jvm.Cond) : Bool := decide (lw_tbl[p]? = some w) && j_isN w
def j_has (p : Nat) (w : Jvm.Cond) : Bool := decide (lw_tbl[p]? = some w) && goodWord w
abbrev mN (k : Nat) : MethodName := j_mN.getD k Lib.objectInit
abbrev mB (k : Nat) : ByteArray := j_mB.getD k ⟨#[]⟩
abbrev mL (k : Nat) : Nat := j_mL.getD k 0
abbrev mRt (k : Nat) : Option FieldType := j_mR.getD k none
/-- fields: whose pool, its number, class, place; where the word stands -/
def j_fls : List (Nat × Nat × Nat × Nat × Nat) := [(4, 9, 4, 0, 54), (6, 85, 4, 0, 55), (4, 15, 4, 1, 56), (6, 96, 4, 1, 57), (1, 11, 1, 0, 76), (2, 69, 1, 0, 77), (6, 139, 1, 0, 78), (0, 62, 1, 0, 79), (1, 15, 1, 1, 80), (0, 97, 1, 1, 81), (1, 18, 1, 2, 82), (0, 100, 1, 2, 83), (1, 21, 1, 3, 84), (2, 81, 1, 3, 85), (1, 25, 1, 4, 86), (2, 84, 1, 4, 87), (1, 28, 1, 5, 88), (2, 61, 1, 5, 89), (6, 182, 1, 5, 90), (0, 9, 0, 0, 110), (0, 15, 0, 1, 111), (6, 199, 0, 1, 112), (0, 18, 0, 2, 113), (0, 34, 0, 3, 114), (6, 133, 0, 3, 115), (0, 21, 0, 4, 116), (6, 172, 0, 4, 117), (0, 25, 0, 5, 118), (6, 169, 0, 5, 119), (0, 28, 0, 6, 120), (6, 322, 0, 6, 121), (0, 31, 0, 7, 122), (6, 325, 0, 7, 123), (0, 37, 0, 8, 124), (6, 157, 0, 8, 125), (0, 40, 0, 9, 126), (2, 12, 2, 0, 148), (6, 121, 2, 0, 149), (2, 21, 2, 1, 150), (6, 126, 2, 1, 151), (2, 25, 2, 2, 152), (2, 29, 2, 3, 153), (2, 33, 2, 4, 154), (3, 12, 3, 0, 179), (3, 18, 3, 1, 180), (3, 22, 3, 2, 181), (3, 48, 3, 3, 182), (3, 51, 3, 4, 183), (3, 40, 3, 5, 184), (6, 231, 3, 5, 185), (3, 54, 3, 6, 186), (6, 222, 3, 6, 187), (3, 57, 3, 7, 188), (6, 286, 3, 7, 189), (3, 60, 3, 8, 190), (6, 283, 3, 8, 191), (5, 12, 5, 0, 220), (6, 14, 6, 0, 230), (6, 20, 6, 1, 231), (6, 26, 6, 2, 232), (6, 33, 6, 3, 233), (6, 40, 6, 4, 234), (6, 44, 6, 5, 235), (6, 48, 6, 6, 236), (6, 51, 6, 7, 237), (6, 58, 6, 8, 238), (6, 65, 6, 9, 239), (6, 69, 6, 10, 240), (6, 130, 6, 11, 241), (6, 312, 6, 12, 242), (6, 88, 6, 13, 243), (6, 73, 6, 15, 244)]
def j_flB (e : Nat × Nat × Nat × Nat × Nat) : Bool := j_has e.2.2.2.2 (.fieldLink (j_CN e.1) e.2.1 (j_T e.2.2.1 e.2.2.2.1).1 (j_T e.2.2.1 e.2.2.2.1).2.1 (j_T e.2.2.1 e.2.2.2.1).2.2.1)
set_option maxRecDepth 1000000 in
theorem j_fls_ok : j_fls.all j_flB = true := by decide +kernel
/-- methods: whose pool, its number, method, how it is called; where the words stand -/
def j_lk0 : List (Nat × Nat × Nat × Nat × Nat × Nat × Nat) := [(0, 3, 0, 9, 109, 0, 0), (0, 49, 10, 0, 349, 350, 351), (0, 56, 37, 0, 662, 663, 664), (0, 65, 20, 1, 570, 571, 0), (0, 71, 5, 0, 305, 283, 284), (0, 74, 38, 0, 306, 307, 308), (0, 77, 22, 0, 314, 316, 0), (0, 81, 23, 0, 318, 320, 1), (0, 85, 24, 0, 322, 324, 2), (0, 53, 11, 0, 334, 336, 3), (0, 89, 27, 0, 338, 340, 4), (0, 93, 21, 0, 342, 343, 344), (0, 103, 0, 6, 346, 0, 0), (0, 108, 26, 0, 630, 331, 332), (0, 112, 25, 0, 625, 302, 303), (0, 116, 28, 0, 626, 627, 628), (1, 3, 0, 9, 75, 0, 0), (1, 31, 33, 0, 549, 506, 507), (1, 35, 0, 8, 550, 0, 0), (1, 41, 0, 6, 666, 0, 0)]
def j_lk1 : List (Nat × Nat × Nat × Nat × Nat × Nat × Nat) := [(1, 53, 36, 0, 405, 406, 407), (1, 57, 41, 0, 409, 411, 8), (1, 61, 38, 0, 413, 307, 308), (2, 3, 0, 9, 69, 0, 0), (2, 11, 32, 3, 72, 73, 0), (2, 20, 0, 3, 106, 107, 0), (2, 36, 44, 0, 489, 491, 12), (2, 40, 45, 0, 509, 511, 16), (2, 43, 46, 0, 518, 520, 17), (2, 46, 48, 0, 493, 495, 13), (2, 49, 49, 0, 497, 499, 14), (2, 53, 50, 0, 501, 503, 15), (2, 57, 33, 0, 505, 506, 507), (2, 65, 125, 4, 515, 516, 0), (2, 72, 1, 0, 522, 523, 524), (2, 75, 47, 0, 526, 528, 18), (2, 87, 36, 0, 532, 406, 407), (2, 91, 7, 0, 533, 534, 535), (2, 94, 2, 0, 537, 538, 539), (3, 3, 0, 9, 176, 0, 0)]
def j_lk2 : List (Nat × Nat × Nat × Nat × Nat × Nat × Nat) := [(3, 11, 0, 3, 178, 107, 0), (3, 26, 0, 8, 683, 0, 0), (3, 32, 56, 0, 597, 599, 19), (3, 36, 57, 1, 602, 603, 0), (3, 44, 3, 0, 601, 378, 379), (3, 63, 58, 0, 605, 607, 20), (3, 67, 13, 0, 617, 618, 619), (3, 71, 29, 0, 621, 622, 623), (3, 75, 17, 0, 609, 610, 611), (3, 79, 18, 0, 613, 614, 615), (4, 3, 0, 9, 50, 0, 0), (4, 19, 127, 1, 51, 52, 0), (5, 3, 0, 9, 217, 0, 0), (5, 11, 0, 3, 219, 107, 0), (6, 1, 0, 9, 40, 0, 0), (6, 11, 59, 2, 47, 48, 0), (6, 25, 42, 3, 66, 67, 0), (6, 32, 32, 3, 167, 73, 0), (6, 39, 0, 3, 169, 107, 0), (6, 57, 51, 3, 173, 174, 0)]
def j_lk3 : List (Nat × Nat × Nat × Nat × Nat × Nat × Nat) := [(6, 64, 64, 3, 214, 215, 0), (6, 81, 115, 0, 473, 475, 10), (6, 92, 114, 0, 477, 479, 11), (6, 77, 113, 0, 462, 464, 9), (6, 117, 43, 0, 485, 486, 487), (6, 122, 34, 0, 545, 546, 547), (6, 127, 3, 0, 377, 378, 379), (6, 135, 35, 0, 640, 641, 642), (6, 136, 8, 0, 644, 645, 646), (6, 145, 5, 0, 282, 283, 284), (6, 146, 12, 0, 286, 287, 288), (6, 175, 118, 1, 298, 299, 0), (6, 178, 25, 0, 301, 302, 303), (6, 183, 26, 0, 330, 331, 332), (6, 187, 28, 0, 635, 627, 628), (6, 191, 19, 0, 566, 567, 568), (6, 99, 60, 0, 357, 358, 359), (6, 195, 61, 0, 361, 362, 363), (6, 202, 14, 0, 365, 366, 367), (6, 206, 16, 0, 658, 659, 660)]
def j_lk4 : List (Nat × Nat × Nat × Nat × Nat × Nat × Nat) := [(6, 209, 119, 0, 373, 375, 5), (6, 212, 120, 0, 385, 387, 6), (6, 103, 112, 0, 389, 391, 7), (6, 215, 52, 0, 589, 590, 591), (6, 218, 54, 0, 593, 594, 595), (6, 238, 13, 0, 652, 618, 619), (6, 241, 123, 0, 653, 655, 21), (6, 244, 6, 0, 397, 398, 399), (6, 264, 40, 0, 401, 402, 403), (6, 276, 116, 0, 675, 677, 22), (6, 279, 53, 0, 679, 680, 681), (6, 301, 15, 0, 422, 423, 424), (6, 304, 126, 1, 426, 427, 0), (6, 309, 62, 0, 432, 433, 434), (6, 319, 108, 0, 442, 419, 420), (6, 328, 63, 0, 443, 444, 445), (6, 260, 29, 0, 657, 622, 623), (8, 8, 76, 0, 469, 470, 471), (8, 14, 128, 1, 448, 449, 0), (8, 20, 75, 0, 458, 459, 460)]
def j_lk5 : List (Nat × Nat × Nat × Nat × Nat × Nat × Nat) := [(8, 24, 129, 1, 466, 467, 0), (8, 27, 77, 0, 481, 482, 483), (8, 31, 78, 0, 541, 542, 543), (8, 57, 105, 0, 414, 415, 416), (8, 122, 87, 0, 562, 563, 564), (8, 95, 85, 0, 326, 327, 328), (8, 98, 88, 0, 353, 354, 355), (8, 61, 83, 0, 290, 291, 292), (8, 63, 108, 0, 418, 419, 420), (8, 125, 71, 0, 574, 575, 576), (8, 128, 72, 0, 578, 579, 580), (8, 119, 91, 0, 381, 382, 383), (8, 131, 92, 0, 585, 586, 587), (8, 93, 84, 0, 294, 295, 296), (8, 134, 86, 0, 631, 632, 633), (8, 75, 81, 0, 278, 279, 280), (8, 78, 133, 1, 556, 557, 0), (8, 136, 79, 0, 636, 637, 638), (8, 138, 94, 0, 648, 649, 650), (8, 70, 89, 0, 667, 668, 669)]
def j_lk6 : List (Nat × Nat × Nat × Nat × Nat × Nat × Nat) := [(8, 141, 102, 0, 671, 672, 673), (8, 144, 103, 0, 684, 685, 686), (8, 82, 68, 2, 37, 38, 0), (8, 83, 130, 1, 452, 453, 0), (8, 87, 131, 1, 455, 456, 0), (8, 90, 100, 0, 393, 394, 395), (8, 34, 132, 1, 553, 554, 0), (8, 101, 90, 0, 369, 370, 371), (8, 104, 111, 0, 436, 437, 438), (8, 108, 134, 1, 559, 560, 0), (8, 112, 135, 1, 582, 583, 0), (8, 116, 136, 1, 688, 689, 0)]
def j_lks : List (Nat × Nat × Nat × Nat × Nat × Nat × Nat) := j_lk0 ++ (j_lk1 ++ (j_lk2 ++ (j_lk3 ++ (j_lk4 ++ (j_lk5 ++ (j_lk6))))))
def j_lkB (e : Nat × Nat × Nat × Nat × Nat × Nat × Nat) : Bool := match e with
  | (own, idx, k, 0, p, a, b) => j_has p (.methodLink (j_CN own) idx (mN k)) && j_has a (.instanceMethod (mN k)) && j_has b (.selects (mN k).cls (mN k) (mN k))
  | (own, idx, k, 1, p, a, _) => j_has p (.methodLink (j_CN own) idx (mN k)) && j_has a (.static (mN k))
  | (own, idx, k, 2, p, a, _) => j_has p (.methodLink (j_CN own) idx (mN k)) && j_has a (.instanceMethod (mN k)) && decide ((mN k).name = "<init>")
  | (own, idx, k, 3, p, a, _) => j_hasN p (.methodLinkNest (j_CN own) idx (mN k) "LastStirred") && j_has a (.instanceMethod (mN k)) && decide ((mN k).name = "<init>")
  | (own, idx, k, 4, p, a, _) => j_hasN p (.methodLinkNest (j_CN own) idx (mN k) "LastStirred") && j_has a (.static (mN k))
  | (own, idx, _, 6, p, _, _) => j_has p (.methodLink (j_CN own) idx Lib.Math.abs.name)
  | (own, idx, _, 8, p, _, _) => j_has p (.methodLink (j_CN own) idx arraycopyName)
  | (own, idx, _, 9, p, _, _) => j_has p (.methodLink (j_CN own) idx Lib.objectInit)
  | _ => false
set_option maxRecDepth 1000000 in
theorem j_lkok0 : j_lk0.all j_lkB = true := by decide +kernel
set_option maxRecDepth 1000000 in
theorem j_lkok1 : j_lk1.all j_lkB = true := by decide +kernel
set_option maxRecDepth 1000000 in
theorem j_lkok2 : j_lk2.all j_lkB = true := by decide +kernel
set_option maxRecDepth 1000000 in
theorem j_lkok3 : j_lk3.all j_lkB = true := by decide +kernel
set_option maxRecDepth 1000000 in
theorem j_lkok4 : j_lk4.all j_lkB = true := by decide +kernel
set_option maxRecDepth 1000000 in
theorem j_lkok5 : j_lk5.all j_lkB = true := by decide +kernel
set_option maxRecDepth 1000000 in
theorem j_lkok6 : j_lk6.all j_lkB = true := by decide +kernel
theorem j_lks_ok : j_lks.all j_lkB = true := by unfold j_lks; simp only [List.all_append, j_lkok0, j_lkok1, j_lkok2, j_lkok3, j_lkok4, j_lkok5, j_lkok6, Bool.and_self]
/-- methods: where the words of their code, of their class stand -/
def j_mps : List (Nat × Nat) := [(108, 29), (525, 29), (540, 29), (380, 29), (620, 29), (285, 29), (400, 29), (536, 29), (647, 29), (620, 29), (352, 29), (337, 29), (289, 29), (620, 29), (368, 29), (425, 29), (661, 29), (612, 29), (616, 29), (569, 29), (572, 29), (345, 29), (317, 29), (321, 29), (325, 29), (304, 29), (333, 29), (341, 29), (629, 29), (624, 29), (620, 29), (620, 29), (74, 28), (508, 28), (548, 28), (643, 28), (408, 28), (665, 28), (309, 28), (620, 29), (404, 28), (412, 28), (68, 27), (488, 27), (492, 27), (512, 27), (521, 27), (529, 27), (496, 27), (500, 27), (504, 27), (175, 30), (592, 30), (682, 30), (596, 30), (620, 29), (600, 30), (604, 30), (608, 30), (49, 25), (360, 25), (364, 25), (435, 25), (446, 25), (216, 31), (620, 29), (620, 29), (620, 29), (39, 24), (620, 29), (620, 29), (577, 24), (581, 24), (620, 29), (620, 29), (461, 24), (472, 24), (484, 24), (544, 24), (639, 24), (620, 29), (281, 24), (620, 29), (293, 24), (297, 24), (329, 24), (634, 24), (565, 24), (356, 24), (670, 24), (372, 24), (384, 24), (588, 24), (620, 29), (651, 24), (620, 29), (620, 29), (620, 29), (620, 29), (620, 29), (396, 24), (620, 29), (674, 24), (687, 24), (620, 29), (417, 24), (620, 29), (620, 29), (421, 24), (620, 29), (620, 29), (439, 24), (392, 24), (465, 24), (480, 24), (476, 24), (678, 24), (620, 29), (300, 24), (376, 24), (388, 24), (620, 29), (620, 29), (656, 24), (620, 29), (517, 24), (428, 34), (53, 26), (450, 23), (468, 23), (454, 23), (457, 23), (555, 23), (558, 23), (561, 23), (584, 23), (690, 23)]
def j_mB1 (k : Nat) : Bool := j_has (j_mps.getD k (0, 0)).2 (.initialized (mN k).cls) && decide ((mN k).cls ≠ "java/lang/invoke/MethodHandle") && decide ((mN k).cls ≠ "java/lang/invoke/VarHandle") && plainName (mN k).cls && decide (mL k ≤ 20)
set_option maxRecDepth 1000000 in
theorem j_mps_ok : (List.range 137).all j_mB1 = true := by decide +kernel
theorem j_u0 : ∀ w ∈ u_ws (j_CN 0) (j_T 0) (j_nf 0), w ∈ j_ws := by decide +kernel
theorem j_u1 : ∀ w ∈ u_ws (j_CN 1) (j_T 1) (j_nf 1), w ∈ j_ws := by decide +kernel
theorem j_u2 : ∀ w ∈ u_ws (j_CN 2) (j_T 2) (j_nf 2), w ∈ j_ws := by decide +kernel
theorem j_u3 : ∀ w ∈ u_ws (j_CN 3) (j_T 3) (j_nf 3), w ∈ j_ws := by decide +kernel
theorem j_u4 : ∀ w ∈ u_ws (j_CN 4) (j_T 4) (j_nf 4), w ∈ j_ws := by decide +kernel
theorem j_u5 : ∀ w ∈ u_ws (j_CN 5) (j_T 5) (j_nf 5), w ∈ j_ws := by decide +kernel
set_option maxRecDepth 1000000 in
theorem j_u6 : ∀ w ∈ u_ws (j_CN 6) (j_T 6) (j_nf 6), w ∈ j_ws := by decide +kernel
set_option maxRecDepth 1000000 in
theorem j_u7 : ∀ w ∈ u_ws (j_CN 7) (j_T 7) (j_nf 7), w ∈ j_ws := by decide +kernel
theorem j_us {c : Nat} (hc : c < 8) : ∀ w ∈ u_ws (j_CN c) (j_T c) (j_nf c), w ∈ j_ws := m_c8 (P := fun c => ∀ w ∈ u_ws (j_CN c) (j_T c) (j_nf c), w ∈ j_ws) j_u0 j_u1 j_u2 j_u3 j_u4 j_u5 j_u6 j_u7 hc
theorem j_cat_ok {c : Nat} (hc : c < 8) : Jvm.Cond.instantiable (j_CN c) (j_nf c) ∈ j_ws ∧ Jvm.Cond.initialized (j_CN c) ∈ j_ws := m_c8 (P := fun c => Jvm.Cond.instantiable (j_CN c) (j_nf c) ∈ j_ws ∧ Jvm.Cond.initialized (j_CN c) ∈ j_ws) ⟨j_mem 105 (by decide +kernel), j_mem 29 (by decide +kernel)⟩ ⟨j_mem 71 (by decide +kernel), j_mem 28 (by decide +kernel)⟩ ⟨j_mem 65 (by decide +kernel), j_mem 27 (by decide +kernel)⟩ ⟨j_mem 172 (by decide +kernel), j_mem 30 (by decide +kernel)⟩ ⟨j_mem 44 (by decide +kernel), j_mem 25 (by decide +kernel)⟩ ⟨j_mem 213 (by decide +kernel), j_mem 31 (by decide +kernel)⟩ ⟨j_mem 36 (by decide +kernel), j_mem 24 (by decide +kernel)⟩ ⟨j_mem 213 (by decide +kernel), j_mem 31 (by decide +kernel)⟩ hc
theorem j_ca_int : Jvm.Cond.arrayClass .int ∈ j_ws := j_mem 63 (by decide +kernel)
theorem j_ca_long : Jvm.Cond.arrayClass .long ∈ j_ws := j_mem 211 (by decide +kernel)
theorem j_ao_obj : Jvm.Cond.arrayOver (.object RX0) ∈ lw_tbl := m_hasN (p := 170) (by decide +kernel)
theorem j_ao_arr : Jvm.Cond.arrayOver (.array .int) ∈ lw_tbl := m_hasN (p := 46) (by decide +kernel)
theorem j_w_nat : Jvm.Cond.native arraycopyName ∈ j_ws := j_mem 552 (by decide +kernel)
theorem j_w_sta : Jvm.Cond.static arraycopyName ∈ j_ws := j_mem 551 (by decide +kernel)
theorem j_w_ini : Jvm.Cond.initialized "java/lang/System" ∈ j_ws := j_mem 32 (by decide +kernel)
theorem j_w_oi : Jvm.Cond.instanceMethod Lib.objectInit ∈ j_ws := j_mem 41 (by decide +kernel)
theorem j_w_oc : Jvm.Cond.code Lib.objectInit ⟨#[0xb1]⟩ 1 none ∈ j_ws := j_mem 42 (by decide +kernel)
theorem j_w_abs : Jvm.Cond.static Lib.Math.abs.name ∈ j_ws ∧ Jvm.Cond.initialized "java/lang/Math" ∈ j_ws ∧ Jvm.Cond.code Lib.Math.abs.name Lib.Math.abs.code 1 (some .int) ∈ j_ws := ⟨j_mem 347 (by decide +kernel), j_mem 33 (by decide +kernel), j_mem 348 (by decide +kernel)⟩
theorem j_ws_good : ∀ w ∈ j_ws, goodWord w = true := fun w h => (List.mem_filter.mp h).2

theorem j_tb_1 {w : Jvm.Cond} (i : Nat) (h : tables_1_1[i]? = some w) (hg : goodWord w = true) : w ∈ j_ws := List.mem_filter.mpr ⟨List.mem_append_right (k2_sels lw_privs) (show _ ∈ tables_1 from List.mem_append_left _ (List.mem_of_getElem? h)), hg⟩
theorem j_tb_2 {w : Jvm.Cond} (i : Nat) (h : tables_1_2[i]? = some w) (hg : goodWord w = true) : w ∈ j_ws := List.mem_filter.mpr ⟨List.mem_append_right (k2_sels lw_privs) (show _ ∈ tables_1 from List.mem_append_right _ (List.mem_append_left _ (List.mem_of_getElem? h))), hg⟩
theorem j_tb_3 {w : Jvm.Cond} (i : Nat) (h : tables_1_3[i]? = some w) (hg : goodWord w = true) : w ∈ j_ws := List.mem_filter.mpr ⟨List.mem_append_right (k2_sels lw_privs) (show _ ∈ tables_1 from List.mem_append_right _ (List.mem_append_right _ (List.mem_of_getElem? h))), hg⟩
set_option maxRecDepth 1000000 in
theorem j_cd_0 : ∀ k, k < 10 → Jvm.Cond.code (mN (0 + k)) (mB (0 + k)) (mL (0 + k)) (mRt (0 + k)) ∈ j_ws := fun k h => match k, h with
  | 0, _ => j_tb_1 85 rfl rfl
  | 1, _ => j_tb_3 22 rfl rfl
  | 2, _ => j_tb_3 37 rfl rfl
  | 3, _ => j_tb_2 117 rfl rfl
  | 4, _ => j_tb_3 117 rfl rfl
  | 5, _ => j_tb_2 22 rfl rfl
  | 6, _ => j_tb_2 137 rfl rfl
  | 7, _ => j_tb_3 33 rfl rfl
  | 8, _ => j_tb_3 144 rfl rfl
  | 9, _ => j_tb_3 117 rfl rfl
  | k + 10, h => absurd h (by omega)
set_option maxRecDepth 1000000 in
theorem j_cd_1 : ∀ k, k < 10 → Jvm.Cond.code (mN (10 + k)) (mB (10 + k)) (mL (10 + k)) (mRt (10 + k)) ∈ j_ws := fun k h => match k, h with
  | 0, _ => j_tb_2 89 rfl rfl
  | 1, _ => j_tb_2 74 rfl rfl
  | 2, _ => j_tb_2 26 rfl rfl
  | 3, _ => j_tb_3 117 rfl rfl
  | 4, _ => j_tb_2 105 rfl rfl
  | 5, _ => j_tb_2 162 rfl rfl
  | 6, _ => j_tb_3 158 rfl rfl
  | 7, _ => j_tb_3 109 rfl rfl
  | 8, _ => j_tb_3 113 rfl rfl
  | 9, _ => j_tb_3 66 rfl rfl
  | k + 10, h => absurd h (by omega)
set_option maxRecDepth 1000000 in
theorem j_cd_2 : ∀ k, k < 10 → Jvm.Cond.code (mN (20 + k)) (mB (20 + k)) (mL (20 + k)) (mRt (20 + k)) ∈ j_ws := fun k h => match k, h with
  | 0, _ => j_tb_3 69 rfl rfl
  | 1, _ => j_tb_2 82 rfl rfl
  | 2, _ => j_tb_2 54 rfl rfl
  | 3, _ => j_tb_2 58 rfl rfl
  | 4, _ => j_tb_2 62 rfl rfl
  | 5, _ => j_tb_2 41 rfl rfl
  | 6, _ => j_tb_2 70 rfl rfl
  | 7, _ => j_tb_2 78 rfl rfl
  | 8, _ => j_tb_3 126 rfl rfl
  | 9, _ => j_tb_3 121 rfl rfl
  | k + 10, h => absurd h (by omega)
set_option maxRecDepth 1000000 in
theorem j_cd_3 : ∀ k, k < 10 → Jvm.Cond.code (mN (30 + k)) (mB (30 + k)) (mL (30 + k)) (mRt (30 + k)) ∈ j_ws := fun k h => match k, h with
  | 0, _ => j_tb_3 117 rfl rfl
  | 1, _ => j_tb_3 117 rfl rfl
  | 2, _ => j_tb_1 51 rfl rfl
  | 3, _ => j_tb_3 5 rfl rfl
  | 4, _ => j_tb_3 45 rfl rfl
  | 5, _ => j_tb_3 140 rfl rfl
  | 6, _ => j_tb_2 145 rfl rfl
  | 7, _ => j_tb_3 162 rfl rfl
  | 8, _ => j_tb_2 46 rfl rfl
  | 9, _ => j_tb_3 117 rfl rfl
  | k + 10, h => absurd h (by omega)
set_option maxRecDepth 1000000 in
theorem j_cd_4 : ∀ k, k < 10 → Jvm.Cond.code (mN (40 + k)) (mB (40 + k)) (mL (40 + k)) (mRt (40 + k)) ∈ j_ws := fun k h => match k, h with
  | 0, _ => j_tb_2 141 rfl rfl
  | 1, _ => j_tb_2 149 rfl rfl
  | 2, _ => j_tb_1 45 rfl rfl
  | 3, _ => j_tb_2 225 rfl rfl
  | 4, _ => j_tb_2 229 rfl rfl
  | 5, _ => j_tb_3 9 rfl rfl
  | 6, _ => j_tb_3 18 rfl rfl
  | 7, _ => j_tb_3 26 rfl rfl
  | 8, _ => j_tb_2 233 rfl rfl
  | 9, _ => j_tb_2 237 rfl rfl
  | k + 10, h => absurd h (by omega)
set_option maxRecDepth 1000000 in
theorem j_cd_5 : ∀ k, k < 10 → Jvm.Cond.code (mN (50 + k)) (mB (50 + k)) (mL (50 + k)) (mRt (50 + k)) ∈ j_ws := fun k h => match k, h with
  | 0, _ => j_tb_3 1 rfl rfl
  | 1, _ => j_tb_1 152 rfl rfl
  | 2, _ => j_tb_3 89 rfl rfl
  | 3, _ => j_tb_3 179 rfl rfl
  | 4, _ => j_tb_3 93 rfl rfl
  | 5, _ => j_tb_3 117 rfl rfl
  | 6, _ => j_tb_3 97 rfl rfl
  | 7, _ => j_tb_3 101 rfl rfl
  | 8, _ => j_tb_3 105 rfl rfl
  | 9, _ => j_tb_1 26 rfl rfl
  | k + 10, h => absurd h (by omega)
set_option maxRecDepth 1000000 in
theorem j_cd_6 : ∀ k, k < 10 → Jvm.Cond.code (mN (60 + k)) (mB (60 + k)) (mL (60 + k)) (mRt (60 + k)) ∈ j_ws := fun k h => match k, h with
  | 0, _ => j_tb_2 97 rfl rfl
  | 1, _ => j_tb_2 101 rfl rfl
  | 2, _ => j_tb_2 172 rfl rfl
  | 3, _ => j_tb_2 183 rfl rfl
  | 4, _ => j_tb_1 193 rfl rfl
  | 5, _ => j_tb_3 117 rfl rfl
  | 6, _ => j_tb_3 117 rfl rfl
  | 7, _ => j_tb_3 117 rfl rfl
  | 8, _ => j_tb_1 16 rfl rfl
  | 9, _ => j_tb_3 117 rfl rfl
  | k + 10, h => absurd h (by omega)
set_option maxRecDepth 1000000 in
theorem j_cd_7 : ∀ k, k < 10 → Jvm.Cond.code (mN (70 + k)) (mB (70 + k)) (mL (70 + k)) (mRt (70 + k)) ∈ j_ws := fun k h => match k, h with
  | 0, _ => j_tb_3 117 rfl rfl
  | 1, _ => j_tb_3 74 rfl rfl
  | 2, _ => j_tb_3 78 rfl rfl
  | 3, _ => j_tb_3 117 rfl rfl
  | 4, _ => j_tb_3 117 rfl rfl
  | 5, _ => j_tb_2 198 rfl rfl
  | 6, _ => j_tb_2 209 rfl rfl
  | 7, _ => j_tb_2 221 rfl rfl
  | 8, _ => j_tb_3 41 rfl rfl
  | 9, _ => j_tb_3 136 rfl rfl
  | k + 10, h => absurd h (by omega)
set_option maxRecDepth 1000000 in
theorem j_cd_8 : ∀ k, k < 10 → Jvm.Cond.code (mN (80 + k)) (mB (80 + k)) (mL (80 + k)) (mRt (80 + k)) ∈ j_ws := fun k h => match k, h with
  | 0, _ => j_tb_3 117 rfl rfl
  | 1, _ => j_tb_2 18 rfl rfl
  | 2, _ => j_tb_3 117 rfl rfl
  | 3, _ => j_tb_2 30 rfl rfl
  | 4, _ => j_tb_2 34 rfl rfl
  | 5, _ => j_tb_2 66 rfl rfl
  | 6, _ => j_tb_3 131 rfl rfl
  | 7, _ => j_tb_3 62 rfl rfl
  | 8, _ => j_tb_2 93 rfl rfl
  | 9, _ => j_tb_3 167 rfl rfl
  | k + 10, h => absurd h (by omega)
set_option maxRecDepth 1000000 in
theorem j_cd_9 : ∀ k, k < 10 → Jvm.Cond.code (mN (90 + k)) (mB (90 + k)) (mL (90 + k)) (mRt (90 + k)) ∈ j_ws := fun k h => match k, h with
  | 0, _ => j_tb_2 109 rfl rfl
  | 1, _ => j_tb_2 121 rfl rfl
  | 2, _ => j_tb_3 85 rfl rfl
  | 3, _ => j_tb_3 117 rfl rfl
  | 4, _ => j_tb_3 148 rfl rfl
  | 5, _ => j_tb_3 117 rfl rfl
  | 6, _ => j_tb_3 117 rfl rfl
  | 7, _ => j_tb_3 117 rfl rfl
  | 8, _ => j_tb_3 117 rfl rfl
  | 9, _ => j_tb_3 117 rfl rfl
  | k + 10, h => absurd h (by omega)
set_option maxRecDepth 1000000 in
theorem j_cd_10 : ∀ k, k < 10 → Jvm.Cond.code (mN (100 + k)) (mB (100 + k)) (mL (100 + k)) (mRt (100 + k)) ∈ j_ws := fun k h => match k, h with
  | 0, _ => j_tb_2 133 rfl rfl
  | 1, _ => j_tb_3 117 rfl rfl
  | 2, _ => j_tb_3 171 rfl rfl
  | 3, _ => j_tb_3 184 rfl rfl
  | 4, _ => j_tb_3 117 rfl rfl
  | 5, _ => j_tb_2 154 rfl rfl
  | 6, _ => j_tb_3 117 rfl rfl
  | 7, _ => j_tb_3 117 rfl rfl
  | 8, _ => j_tb_2 158 rfl rfl
  | 9, _ => j_tb_3 117 rfl rfl
  | k + 10, h => absurd h (by omega)
set_option maxRecDepth 1000000 in
theorem j_cd_11 : ∀ k, k < 10 → Jvm.Cond.code (mN (110 + k)) (mB (110 + k)) (mL (110 + k)) (mRt (110 + k)) ∈ j_ws := fun k h => match k, h with
  | 0, _ => j_tb_3 117 rfl rfl
  | 1, _ => j_tb_2 176 rfl rfl
  | 2, _ => j_tb_2 129 rfl rfl
  | 3, _ => j_tb_2 202 rfl rfl
  | 4, _ => j_tb_2 217 rfl rfl
  | 5, _ => j_tb_2 213 rfl rfl
  | 6, _ => j_tb_3 175 rfl rfl
  | 7, _ => j_tb_3 117 rfl rfl
  | 8, _ => j_tb_2 37 rfl rfl
  | 9, _ => j_tb_2 113 rfl rfl
  | k + 10, h => absurd h (by omega)
set_option maxRecDepth 1000000 in
theorem j_cd_12 : ∀ k, k < 10 → Jvm.Cond.code (mN (120 + k)) (mB (120 + k)) (mL (120 + k)) (mRt (120 + k)) ∈ j_ws := fun k h => match k, h with
  | 0, _ => j_tb_2 125 rfl rfl
  | 1, _ => j_tb_3 117 rfl rfl
  | 2, _ => j_tb_3 117 rfl rfl
  | 3, _ => j_tb_3 153 rfl rfl
  | 4, _ => j_tb_3 117 rfl rfl
  | 5, _ => j_tb_3 14 rfl rfl
  | 6, _ => j_tb_2 165 rfl rfl
  | 7, _ => j_tb_1 30 rfl rfl
  | 8, _ => j_tb_2 187 rfl rfl
  | 9, _ => j_tb_2 205 rfl rfl
  | k + 10, h => absurd h (by omega)
set_option maxRecDepth 1000000 in
theorem j_cd_13 : ∀ k, k < 7 → Jvm.Cond.code (mN (130 + k)) (mB (130 + k)) (mL (130 + k)) (mRt (130 + k)) ∈ j_ws := fun k h => match k, h with
  | 0, _ => j_tb_2 191 rfl rfl
  | 1, _ => j_tb_2 194 rfl rfl
  | 2, _ => j_tb_3 52 rfl rfl
  | 3, _ => j_tb_3 55 rfl rfl
  | 4, _ => j_tb_3 58 rfl rfl
  | 5, _ => j_tb_3 81 rfl rfl
  | 6, _ => j_tb_3 187 rfl rfl
  | k + 7, h => absurd h (by omega)
theorem j_cds : ∀ k, k < 137 → Jvm.Cond.code (mN k) (mB k) (mL k) (mRt k) ∈ j_ws := by
  intro k hk
  by_cases h0 : k < 10
  · have := j_cd_0 (k - 0) (by omega)
    rwa [show 0 + (k - 0) = k by omega] at this
  by_cases h10 : k < 20
  · have := j_cd_1 (k - 10) (by omega)
    rwa [show 10 + (k - 10) = k by omega] at this
  by_cases h20 : k < 30
  · have := j_cd_2 (k - 20) (by omega)
    rwa [show 20 + (k - 20) = k by omega] at this
  by_cases h30 : k < 40
  · have := j_cd_3 (k - 30) (by omega)
    rwa [show 30 + (k - 30) = k by omega] at this
  by_cases h40 : k < 50
  · have := j_cd_4 (k - 40) (by omega)
    rwa [show 40 + (k - 40) = k by omega] at this
  by_cases h50 : k < 60
  · have := j_cd_5 (k - 50) (by omega)
    rwa [show 50 + (k - 50) = k by omega] at this
  by_cases h60 : k < 70
  · have := j_cd_6 (k - 60) (by omega)
    rwa [show 60 + (k - 60) = k by omega] at this
  by_cases h70 : k < 80
  · have := j_cd_7 (k - 70) (by omega)
    rwa [show 70 + (k - 70) = k by omega] at this
  by_cases h80 : k < 90
  · have := j_cd_8 (k - 80) (by omega)
    rwa [show 80 + (k - 80) = k by omega] at this
  by_cases h90 : k < 100
  · have := j_cd_9 (k - 90) (by omega)
    rwa [show 90 + (k - 90) = k by omega] at this
  by_cases h100 : k < 110
  · have := j_cd_10 (k - 100) (by omega)
    rwa [show 100 + (k - 100) = k by omega] at this
  by_cases h110 : k < 120
  · have := j_cd_11 (k - 110) (by omega)
    rwa [show 110 + (k - 110) = k by omega] at this
  by_cases h120 : k < 130
  · have := j_cd_12 (k - 120) (by omega)
    rwa [show 120 + (k - 120) = k by omega] at this
  by_cases h130 : k < 140
  · have := j_cd_13 (k - 130) (by omega)
    rwa [show 130 + (k - 130) = k by omega] at this
  omega
/-- the length of an instruction (switches: not told) -/
def j_il : Instr → Nat
  | .ldc _ | .bipush _ | .iload _ | .lload _ | .aload _ | .istore _ | .lstore _ | .astore _ | .newarray _ => 2
  | .sipush _ | .ldc_w _ | .ldc2_w _ | .iinc _ _ | .ifCond _ _ | .if_icmp _ _ | .goto _ | .getfield _ | .putfield _ | .getstatic _ | .new _ | .anewarray _ | .invokevirtual _ | .invokestatic _ | .invokespecial _ => 3
  | .multianewarray _ _ => 4
  | _ => 1
def j_isw : Instr → Bool
  | .tableswitch .. | .lookupswitch .. => true
  | _ => false
def j_kd (c k : Nat) : Nat := match j_ty c k with
  | .int => 0
  | .long => 1
  | .boolean => 3
  | .object _ => 2
  | .array _ => 2
  | _ => 9
def j_rt (t : Option FieldType) : Nat := match t with
  | none => 0
  | some .int => 1
  | some .boolean => 1
  | some .long => 2
  | _ => 9
def j_np (y : MethodName) : Option Nat := (parseMethodDescriptor y.desc).map (fun d => d.parameters.length)
def j_lkA (l own idx k kind : Nat) : Bool := match j_lks[l]? with
  | some (o, i, m, kd, _) => decide (o = own ∧ i = idx ∧ m = k ∧ kd = kind)
  | none => false
def j_okE (k own pc : Nat) (i : Instr) (q : List Nat) : Bool := match i with
  | .bipush n => decide ((Int8.ofInt n).toInt32 = j_k n)
  | .sipush n => decide ((Int16.ofInt n).toInt32 = j_k n)
  | .ldc idx => match q with
    | [c, p] => j_has p (.constant (j_CN own) idx (j_ci c))
    | _ => false
  | .ldc_w idx => match q with
    | [c, p] => j_has p (.constant (j_CN own) idx (j_ci c))
    | _ => false
  | .ldc2_w idx => match q with
    | [c, p] => j_has p (.constantLong (j_CN own) idx (j_cJ c))
    | _ => false
  | .ifCond _ off | .if_icmp _ off | .goto off => match q with
    | [t] => decide ((pc : Int) + off = (t : Int))
    | _ => false
  | .tableswitch d lo hi offs => match q with
    | t :: ts => decide ((pc : Int) + d = (t : Int)) && decide (-1000 ≤ lo) && decide (lo ≤ 1000) && decide (ts.length ≤ 1000) && decide (hi = lo + ts.length - 1) && decide (offs.toList = ts.map (fun (x : Nat) => ((x : Int) - (pc : Int))))
    | _ => false
  | .lookupswitch d ps => match q with
    | [t, a, b] => decide ((pc : Int) + d = (t : Int)) && decide (ps.toList = [(0, (a : Int) - (pc : Int)), (1, (b : Int) - (pc : Int))])
    | _ => false
  | .getfield idx => match q with
    | [c, f, kd, l] => decide (c < 8) && decide (f < j_nf c) && decide (kd = j_kd c f) && (match j_fls[l]? with
      | some (o, i, c', f', _) => decide (o = own ∧ i = idx ∧ c' = c ∧ f' = f)
      | none => false)
    | _ => false
  | .putfield idx => match q with
    | [c, f, kd, l] => decide (c < 8) && decide (f < j_nf c) && decide (kd = j_kd c f) && (match j_fls[l]? with
      | some (o, i, c', f', _) => decide (o = own ∧ i = idx ∧ c' = c ∧ f' = f)
      | none => false) && (decide ((j_T c f).2.2.2 = false) || (decide ((mN k).name = "<init>") && decide ((j_T c f).1 = j_CN own)))
    | _ => false
  | .getstatic idx => match q with
    | [t, p] => decide (t < 4) && j_has p (.fieldLink (j_CN own) idx (j_sC t) (j_sN t) "[I")
    | _ => false
  | .new idx => match q with
    | [c, n, p] => decide (c < 8) && decide (n = j_nf c) && j_has p (.classLink (j_CN own) idx (j_CN c))
    | _ => false
  | .newarray ty => match newarray.typeOf ty with
    | .int | .long => true
    | _ => false
  | .anewarray idx => match q with
    | [p] => j_has p (.classLink (j_CN own) idx RX0)
    | _ => false
  | .multianewarray idx d => match q with
    | [p] => decide (d = 2) && j_has p (.classLink (j_CN own) idx "[[I")
    | _ => false
  | .invokevirtual idx => match q with
    | [m, na, rt, c, l] => decide (m < 137) && decide (c < 8) && decide (j_CN c = (mN m).cls) && decide (j_np (mN m) = some na) && decide (rt = j_rt (mRt m)) && j_lkA l own idx m 0
    | _ => false
  | .invokestatic idx => match q with
    | [m, na, rt, l] => decide (m < 137) && decide (j_np (mN m) = some na) && decide (rt = j_rt (mRt m)) && (j_lkA l own idx m 1 || j_lkA l own idx m 4)
    | [l] => j_lkA l own idx 0 8
    | [l, _] => j_lkA l own idx 0 6
    | _ => false
  | .invokespecial idx => match q with
    | [m, na, rt, l] => decide (m < 137) && decide (j_np (mN m) = some na) && decide (rt = j_rt (mRt m)) && decide (mRt m = none) && (j_lkA l own idx m 2 || j_lkA l own idx m 3)
    | [l] => j_lkA l own idx 0 9
    | _ => false
  | .ireturn => match q with
    | [0] => decide (mRt k = some .int)
    | [1] => decide (mRt k = some .boolean)
    | _ => false
  | .baload => false
  | .bastore => false
  | .return_ => decide (mRt k = none)
  | .lreturn => decide (mRt k = some .long)
  | _ => true
def j_dec (b : ByteArray) (pc : Nat) (i : Instr) : Bool := match decode b pc with
  | .ok (i', n) => decide (i' = i) && (decide (n = j_il i) || j_isw i)
  | .error _ => false
def j_chk (k own : Nat) : Bool := (j_code k).all fun e => j_dec (mB k) e.1 e.2.1 && j_okE k own e.1 e.2.1 e.2.2
def j_own : List Nat := [0, 0, 0, 0, 0, 0, 0, 0, 0, 0, 0, 0, 0, 0, 0, 0, 0, 0, 0, 0, 0, 0, 0, 0, 0, 0, 0, 0, 0, 0, 0, 0, 1, 1, 1, 1, 1, 1, 1, 0, 1, 1, 2, 2, 2, 2, 2, 2, 2, 2, 2, 3, 3, 3, 3, 0, 3, 3, 3, 4, 4, 4, 4, 4, 5, 0, 0, 0, 6, 0, 0, 6, 6, 0, 0, 6, 6, 6, 6, 6, 0, 6, 0, 6, 6, 6, 6, 6, 6, 6, 6, 6, 6, 0, 6, 0, 0, 0, 0, 0, 6, 0, 6, 6, 0, 6, 0, 0, 6, 0, 0, 6, 6, 6, 6, 6, 6, 0, 6, 6, 6, 0, 0, 6, 0, 6, 9, 11, 8, 8, 8, 8, 8, 8, 8, 8, 8, 8]


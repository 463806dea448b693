/-! words that the tables stand on, by their places -/
def chkW : List Jvm.Cond → List Nat → Bool
  | [], _ => true
  | w :: ws, i :: is => decide (lw_tbl[i]? = some w) && okw w && chkW ws is
  | _ :: _, [] => false
theorem chkW_spec : ∀ (ws : List Jvm.Cond) (is : List Nat), chkW ws is = true → ∀ w ∈ ws, w ∈ WS
  | [], _, _ => fun w h => absurd h List.not_mem_nil
  | w :: ws, [], h => by cases h
  | w :: ws, i :: is, h => by
    unfold chkW at h
    rw [Bool.and_eq_true, Bool.and_eq_true] at h
    intro v hv
    rcases List.mem_cons.mp hv with rfl | hv
    · exact List.mem_filter.mpr ⟨List.mem_of_getElem? (of_decide_eq_true h.1.1), h.1.2⟩
    · exact chkW_spec ws is h.2 v hv
def rowT (ci : Nat) : u_T := (vwCl.getD ci ("", TX1, 0)).2.1
def fldW (e : Nat × Nat × Nat × Nat × Nat × Nat) : Jvm.Cond := .fieldLink (ownS e.1) e.2.1 (rowT e.2.2.1 e.2.2.2.1).1 (rowT e.2.2.1 e.2.2.2.1).2.1 (rowT e.2.2.1 e.2.2.2.1).2.2.1
def fkOf : FieldType → Nat
  | .int => 0
  | .boolean => 1
  | .long => 2
  | .object _ => 3
  | .array _ => 3
  | _ => 9
def tyT : Nat → Nat → FieldType
  | 0 => tyX0
  | 1 => tyX1
  | 2 => tyX2
  | 3 => tyX3
  | 4 => tyX4
  | 5 => tyX5
  | 6 => tyX6
  | 7 => tyX7
  | 8 => tyX8
  | _ => tyX9
def fldOk (e : Nat × Nat × Nat × Nat × Nat × Nat) : Bool := decide (e.2.2.1 < 10 ∧ e.2.2.2.1 < (vwCl.getD e.2.2.1 ("", TX1, 0)).2.2) && decide (fkOf (tyT e.2.2.1 e.2.2.2.1) = e.2.2.2.2.1) && decide ((rowT e.2.2.1 e.2.2.2.1).2.2.2 = (e.2.2.2.2.2 != 0)) && decide ((rowT e.2.2.1 e.2.2.2.1).1 = ownS e.2.2.1)
theorem fldT_w : chkW (fldT.map fldW) [250, 251, 252, 253, 254, 255, 256, 257, 258, 259, 260, 261, 262, 263, 84, 86, 88, 90, 155, 141, 184, 188, 190, 192, 186, 194, 196, 198, 182, 200, 178, 180, 159, 92, 94, 143, 202, 140, 142, 83, 85, 87, 89, 91, 93, 154, 156, 157, 158, 160, 118, 120, 117, 119, 121, 177, 179, 181, 183, 185, 187, 189, 191, 193, 195, 197, 199, 201, 644, 645, 646, 647, 648, 649, 650, 651, 652, 653, 654, 655, 661, 662, 663, 664, 665, 666, 667, 668, 669, 670, 671, 672, 673, 674, 675, 676, 677, 657, 659, 656, 658, 660] = true := by decide +kernel
theorem fldT_ok : fldT.all fldOk = true := by decide +kernel
def clsW (e : Nat × Nat × Nat) : List Jvm.Cond := [.classLink (ownS e.1) e.2.1 (ownS e.2.2), .instantiable (ownS e.2.2) (dfl e.2.2).length, .initialized (ownS e.2.2)]
theorem clsT_w : chkW (clsT.flatMap clsW) [77, 78, 58, 109, 149, 61, 111, 112, 59, 130, 172, 62, 132, 230, 63, 134, 135, 60, 236, 237, 64, 243, 244, 65, 69, 70, 57, 638, 639, 66] = true := by decide +kernel
theorem clsT_ok : clsT.all (fun e => decide (e.2.2 < 10)) = true := by decide +kernel
theorem cstT_w : chkW (cstT.map fun e => Jvm.Cond.constant (ownS e.1) e.2.1 (z3 e.2.2)) [504, 895, 956, 343, 344, 345] = true := by decide +kernel
theorem cslT_w : chkW (cslT.map fun e => Jvm.Cond.constantLong (ownS e.1) e.2.1 (z6 e.2.2)) [427, 838, 833] = true := by decide +kernel
def xOf (a : Nat) : MT := mt (if a = 0 then 17 else 18)
def yW (y : MT) : List Jvm.Cond := [.code y.1 y.2.1 y.2.2.1 y.2.2.2.1, .initialized y.1.cls]
def vW (a C : Nat) (y : MT) : List Jvm.Cond := [.code y.1 y.2.1 y.2.2.1 y.2.2.2.1, .initialized y.1.cls, .selects (ownS C) (xOf a).1 y.1, .instanceMethod y.1]
def calW (e : Nat × Nat × Nat × Nat × Nat × Nat) : List Jvm.Cond :=
  match e.2.2.1 with
  | 0 => yW (mt e.2.2.2.1) ++ [.methodLink (ownS e.1) e.2.1 (mt e.2.2.2.1).1, .instanceMethod (mt e.2.2.2.1).1, .selects (mt e.2.2.2.1).1.cls (mt e.2.2.2.1).1 (mt e.2.2.2.1).1]
  | 1 => yW (mt e.2.2.2.1) ++ [.methodLink (ownS e.1) e.2.1 (mt e.2.2.2.1).1, .static (mt e.2.2.2.1).1]
  | 2 => yW (mt e.2.2.2.1) ++ [.methodLinkNest (ownS e.1) e.2.1 (mt e.2.2.2.1).1 "WalkedWays", .static (mt e.2.2.2.1).1]
  | 3 => yW (mt e.2.2.2.1) ++ [.methodLink (ownS e.1) e.2.1 (mt e.2.2.2.1).1, .instanceMethod (mt e.2.2.2.1).1]
  | 4 => yW (mt e.2.2.2.1) ++ [.methodLinkNest (ownS e.1) e.2.1 (mt e.2.2.2.1).1 "WalkedWays", .instanceMethod (mt e.2.2.2.1).1]
  | 5 => [.methodLink (ownS e.1) e.2.1 objectInit, .instanceMethod objectInit, .code objectInit ⟨#[0xb1]⟩ 1 none]
  | 6 => [.methodLink (ownS e.1) e.2.1 (xOf e.2.2.2.1).1, .sameMethod RX4 RX4 (xOf e.2.2.2.1).1.name (xOf e.2.2.2.1).1.desc, .instanceMethod (xOf e.2.2.2.1).1, .code (xOf e.2.2.2.1).1 (xOf e.2.2.2.1).2.1 (xOf e.2.2.2.1).2.2.1 (xOf e.2.2.2.1).2.2.2.1] ++ vW e.2.2.2.1 4 (mt ((vsel e.2.2.2.1 4).getD 0)) ++ vW e.2.2.2.1 2 (mt ((vsel e.2.2.2.1 2).getD 0)) ++ vW e.2.2.2.1 1 (mt ((vsel e.2.2.2.1 1).getD 0))
  | _ => [.methodLink (ownS e.1) e.2.1 ⟨RX2, (mt e.2.2.2.1).1.name, (mt e.2.2.2.1).1.desc⟩, .sameMethod RX2 RX4 (mt e.2.2.2.1).1.name (mt e.2.2.2.1).1.desc, .superclass RX1 RX2, .superclass RX2 RX4, .instanceMethod (mt e.2.2.2.1).1] ++ yW (mt e.2.2.2.1)
def yOk (y : MT) : Bool := decide (y.1.cls ≠ "java/lang/invoke/MethodHandle" ∧ y.1.cls ≠ "java/lang/invoke/VarHandle") && decide ((parseMethodDescriptor y.1.desc).map (fun d => d.parameters.length) = some y.2.2.2.2) && decide (y.2.2.1 ≤ 19) && plainFor y.1
def calOk (e : Nat × Nat × Nat × Nat × Nat × Nat) : Bool :=
  match e.2.2.1 with
  | 0 => yOk (mt e.2.2.2.1) && decide (e.2.2.2.2.1 = (mt e.2.2.2.1).2.2.2.2 + 1) && decide (mcl e.2.2.2.1 < 10 ∧ ownS (mcl e.2.2.2.1) = (mt e.2.2.2.1).1.cls)
  | 1 => yOk (mt e.2.2.2.1) && decide (e.2.2.2.2.1 = (mt e.2.2.2.1).2.2.2.2)
  | 2 => yOk (mt e.2.2.2.1) && decide (e.2.2.2.2.1 = (mt e.2.2.2.1).2.2.2.2)
  | 3 => yOk (mt e.2.2.2.1) && decide (e.2.2.2.2.1 = (mt e.2.2.2.1).2.2.2.2 + 1) && decide ((mt e.2.2.2.1).1.name = "<init>" ∧ (mt e.2.2.2.1).2.2.2.1 = none)
  | 4 => yOk (mt e.2.2.2.1) && decide (e.2.2.2.2.1 = (mt e.2.2.2.1).2.2.2.2 + 1) && decide ((mt e.2.2.2.1).1.name = "<init>" ∧ (mt e.2.2.2.1).2.2.2.1 = none)
  | 5 => true
  | 6 => decide (e.2.2.2.1 < 2) && yOk (xOf e.2.2.2.1) && yOk (mt ((vsel e.2.2.2.1 4).getD 0)) && yOk (mt ((vsel e.2.2.2.1 2).getD 0)) && yOk (mt ((vsel e.2.2.2.1 1).getD 0)) && decide (e.2.2.2.2.1 = (xOf e.2.2.2.1).2.2.2.2 + 1) && decide ((xOf e.2.2.2.1).1.cls = RX4)
  | 7 => decide (e.1 = 1) && yOk (mt e.2.2.2.1) && decide (e.2.2.2.2.1 = (mt e.2.2.2.1).2.2.2.2 + 1) && decide ((mt e.2.2.2.1).1.cls = RX4 ∧ (mt e.2.2.2.1).1.name ≠ "<init>")
  | _ => false
theorem calT_w0 : chkW (((calT.drop 0).take 24).flatMap calW) [74, 75, 76, 299, 57, 297, 298, 302, 57, 300, 301, 306, 58, 303, 304, 305, 316, 58, 313, 314, 315, 320, 58, 317, 318, 319, 324, 57, 321, 323, 0, 356, 58, 353, 354, 355, 360, 57, 357, 359, 2, 372, 58, 369, 370, 371, 384, 57, 381, 383, 4, 348, 57, 393, 347, 328, 57, 325, 327, 1, 404, 57, 402, 403, 412, 61, 409, 410, 411, 448, 61, 445, 446, 447, 336, 61, 453, 334, 335, 342, 68, 454, 341, 466, 57, 463, 465, 9, 470, 62, 467, 468, 469, 478, 57, 475, 477, 10, 516, 57, 513, 515, 13, 566, 57, 563, 565, 18, 529, 61, 526, 527, 528] = true := by decide +kernel
theorem calT_k0 : ((calT.drop 0).take 24).all calOk = true := by decide +kernel
theorem calT_w1 : chkW (((calT.drop 24).take 24).flatMap calW) [578, 61, 575, 576, 577, 582, 61, 579, 580, 581, 590, 57, 587, 589, 19, 595, 57, 592, 594, 20, 604, 57, 601, 603, 21, 608, 57, 605, 607, 22, 616, 58, 613, 614, 615, 440, 61, 591, 438, 439, 628, 58, 625, 626, 627, 637, 57, 634, 636, 24, 332, 61, 329, 330, 331, 364, 57, 361, 363, 3, 368, 62, 365, 366, 367, 520, 57, 517, 519, 14, 553, 57, 550, 552, 17, 474, 62, 554, 472, 473, 558, 62, 555, 556, 557, 549, 57, 546, 548, 16, 482, 57, 479, 481, 11, 508, 62, 505, 506, 507, 486, 62, 483, 484, 485, 490, 57, 487, 489, 12, 503, 60, 500, 501, 502, 491, 494, 492, 499, 499, 63, 493, 492, 497, 64, 498, 496, 497, 64, 495, 496] = true := by decide +kernel
theorem calT_k1 : ((calT.drop 24).take 24).all calOk = true := by decide +kernel
theorem calT_w2 : chkW (((calT.drop 48).take 24).flatMap calW) [524, 61, 521, 522, 523, 530, 533, 531, 541, 541, 63, 532, 531, 541, 63, 540, 531, 536, 65, 534, 535, 545, 57, 542, 544, 15, 599, 58, 596, 597, 598, 139, 75, 76, 537, 538, 249, 242, 531, 541, 63, 82, 75, 76, 309, 67, 307, 308, 312, 67, 310, 311, 306, 58, 600, 304, 305, 620, 58, 617, 619, 23, 599, 58, 629, 597, 598, 234, 75, 76, 153, 75, 76, 336, 61, 333, 334, 335, 339, 59, 337, 338, 435, 61, 432, 434, 8, 440, 61, 437, 438, 439, 417, 59, 414, 415, 416, 431, 61, 428, 430, 7, 342, 68, 413, 341, 309, 67, 525, 308, 116, 75, 76, 342, 68, 340, 341] = true := by decide +kernel
theorem calT_k2 : ((calT.drop 48).take 24).all calOk = true := by decide +kernel
theorem calT_w3 : chkW (((calT.drop 72).take 24).flatMap calW) [421, 59, 418, 420, 5, 339, 59, 422, 338, 426, 59, 423, 425, 6, 176, 75, 76, 474, 62, 471, 472, 473, 73, 57, 71, 72, 642, 66, 640, 641, 296, 57, 293, 294, 295, 751, 66, 748, 749, 750, 352, 57, 349, 350, 351, 788, 66, 785, 786, 787, 376, 57, 373, 374, 375, 800, 66, 797, 798, 799, 380, 57, 377, 378, 379, 804, 66, 801, 802, 803, 388, 57, 385, 386, 387, 812, 66, 809, 810, 811, 392, 57, 389, 390, 391, 816, 66, 813, 814, 815, 397, 57, 394, 395, 396, 820, 66, 817, 818, 819, 401, 57, 398, 399, 400, 824, 66, 821, 822, 823, 408, 57, 405, 406, 407] = true := by decide +kernel
theorem calT_k3 : ((calT.drop 72).take 24).all calOk = true := by decide +kernel
theorem calT_w4 : chkW (((calT.drop 96).take 24).flatMap calW) [828, 66, 825, 826, 827, 444, 57, 441, 442, 443, 854, 66, 851, 852, 853, 452, 57, 449, 450, 451, 862, 66, 859, 860, 861, 458, 57, 455, 456, 457, 866, 66, 863, 864, 865, 462, 57, 459, 460, 461, 870, 66, 867, 868, 869, 512, 57, 509, 510, 511, 899, 66, 896, 897, 898, 562, 57, 559, 560, 561, 927, 66, 924, 925, 926, 570, 57, 567, 568, 569, 935, 66, 932, 933, 934, 574, 57, 571, 572, 573, 939, 66, 936, 937, 938, 586, 57, 583, 584, 585, 943, 66, 940, 941, 942, 612, 57, 609, 610, 611, 951, 66, 948, 949, 950, 624, 57, 621, 622, 623, 960, 66, 957, 958, 959, 633, 57, 630, 631, 632] = true := by decide +kernel
theorem calT_k4 : ((calT.drop 96).take 24).all calOk = true := by decide +kernel
theorem calT_w5 : chkW (((calT.drop 120).take 24).flatMap calW) [964, 66, 961, 962, 963, 643, 75, 76, 757, 66, 755, 756, 761, 66, 758, 760, 25, 784, 66, 781, 783, 30, 776, 66, 774, 775, 780, 66, 777, 779, 29, 773, 66, 770, 772, 28, 754, 66, 752, 753, 765, 66, 762, 764, 26, 769, 66, 766, 768, 27, 792, 66, 789, 791, 31, 796, 66, 793, 795, 32, 808, 66, 805, 807, 33, 846, 66, 843, 845, 37, 850, 66, 847, 849, 38, 837, 66, 834, 836, 35, 842, 66, 839, 841, 36, 832, 66, 829, 831, 34, 858, 66, 855, 857, 39, 882, 66, 879, 881, 42, 886, 66, 883, 885, 43, 890, 66, 887, 889, 44, 894, 66, 891, 893, 45] = true := by decide +kernel
theorem calT_k5 : ((calT.drop 120).take 24).all calOk = true := by decide +kernel
theorem calT_w6 : chkW (((calT.drop 144).take 24).flatMap calW) [878, 66, 875, 877, 41, 874, 66, 871, 873, 40, 907, 66, 904, 906, 47, 911, 66, 908, 910, 48, 915, 66, 912, 914, 49, 923, 66, 920, 922, 51, 903, 66, 900, 902, 46, 919, 66, 916, 918, 50, 931, 66, 928, 930, 52, 947, 66, 944, 946, 53, 955, 66, 952, 954, 54, 968, 66, 965, 967, 55, 81, 58, 79, 80, 115, 59, 113, 114, 138, 60, 136, 137, 152, 61, 150, 151, 175, 62, 173, 174, 233, 63, 231, 232, 240, 64, 238, 239, 247, 65, 245, 246, 240, 64, 248, 239, 233, 63, 241, 232, 348, 57, 436, 347, 348, 57, 346, 347] = true := by decide +kernel
theorem calT_k6 : ((calT.drop 144).take 24).all calOk = true := by decide +kernel
theorem calT_len : calT.length = 168 := by decide +kernel
theorem calT_at {e : Nat × Nat × Nat × Nat × Nat × Nat} (h : e ∈ calT) : calOk e = true ∧ ∀ w ∈ calW e, w ∈ WS := by
  obtain ⟨i, hi, rfl⟩ := List.mem_iff_getElem.mp h
  rw [calT_len] at hi
  have key : ∀ (a n : Nat) (is : List Nat), chkW (((calT.drop a).take n).flatMap calW) is = true → ((calT.drop a).take n).all calOk = true → a ≤ i → i < a + n → calOk calT[i] = true ∧ ∀ w ∈ calW calT[i], w ∈ WS := by
    intro a n is h1 h2 h3 h4
    have hm : calT[i] ∈ (calT.drop a).take n := by
      refine List.mem_of_getElem? (i := i - a) ?_
      rw [List.getElem?_take_of_lt (by omega), List.getElem?_drop, show a + (i - a) = i by omega]
      exact List.getElem?_eq_getElem _
    exact ⟨List.all_eq_true.mp h2 _ hm, fun w hw => chkW_spec _ _ h1 w (List.mem_flatMap.mpr ⟨_, hm, hw⟩)⟩
  by_cases h0 : i < 24
  · exact key _ _ _ calT_w0 calT_k0 (by omega) (by omega)
  by_cases h1 : i < 48
  · exact key _ _ _ calT_w1 calT_k1 (by omega) (by omega)
  by_cases h2 : i < 72
  · exact key _ _ _ calT_w2 calT_k2 (by omega) (by omega)
  by_cases h3 : i < 96
  · exact key _ _ _ calT_w3 calT_k3 (by omega) (by omega)
  by_cases h4 : i < 120
  · exact key _ _ _ calT_w4 calT_k4 (by omega) (by omega)
  by_cases h5 : i < 144
  · exact key _ _ _ calT_w5 calT_k5 (by omega) (by omega)
  exact key _ _ _ calT_w6 calT_k6 (by omega) (by omega)
theorem u_w0 : chkW (u_ws (ownS 0) (rowT 0) (vwCl.getD 0 ("", TX1, 0)).2.2) [144, 146] = true := by decide +kernel
theorem u_w1 : chkW (u_ws (ownS 1) (rowT 1) (vwCl.getD 1 ("", TX1, 0)).2.2) [] = true := by decide +kernel
theorem u_w2 : chkW (u_ws (ownS 2) (rowT 2) (vwCl.getD 2 ("", TX1, 0)).2.2) [] = true := by decide +kernel
theorem u_w3 : chkW (u_ws (ownS 3) (rowT 3) (vwCl.getD 3 ("", TX1, 0)).2.2) [95, 97, 99, 101, 103, 105] = true := by decide +kernel
theorem u_w4 : chkW (u_ws (ownS 4) (rowT 4) (vwCl.getD 4 ("", TX1, 0)).2.2) [] = true := by decide +kernel
theorem u_w5 : chkW (u_ws (ownS 5) (rowT 5) (vwCl.getD 5 ("", TX1, 0)).2.2) [161, 163, 165, 167, 169] = true := by decide +kernel
theorem u_w6 : chkW (u_ws (ownS 6) (rowT 6) (vwCl.getD 6 ("", TX1, 0)).2.2) [122, 124, 126] = true := by decide +kernel
theorem u_w7 : chkW (u_ws (ownS 7) (rowT 7) (vwCl.getD 7 ("", TX1, 0)).2.2) [203, 205, 207, 209, 211, 213, 215, 217, 219, 221, 223, 225, 227] = true := by decide +kernel
theorem u_w8 : chkW (u_ws (ownS 8) (rowT 8) (vwCl.getD 8 ("", TX1, 0)).2.2) [264, 266, 268, 270, 272, 274, 276, 278, 280, 282, 284, 286, 288, 290] = true := by decide +kernel
theorem u_w9 : chkW (u_ws (ownS 9) (rowT 9) (vwCl.getD 9 ("", TX1, 0)).2.2) [678, 680, 682, 684, 686, 688, 690, 692, 694, 696, 698, 700, 702, 704, 706, 708, 710, 712, 714, 716, 718, 720, 722, 724, 726, 728, 730, 732, 734, 736, 738, 740, 742, 744] = true := by decide +kernel

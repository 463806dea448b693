def mi_L_law : MI := (10, cL_law, 4, 1, false)
def tl_L_law : List (Nat × PT) := [(0, (41, ((8 : Nat) : Int), 0, 3, [])),
  (3, (28, 0, 0, 4, [])),
  (4, (53, ((43 : Nat) : Int), ((1 : Nat) : Int), 7, [])),
  (7, (5, ((1 : Nat) : Int), 0, 8, [])),
  (8, (41, ((9 : Nat) : Int), 0, 11, [])),
  (11, (28, 0, 0, 12, [])),
  (12, (53, ((89 : Nat) : Int), ((1 : Nat) : Int), 15, [])),
  (15, (5, ((2 : Nat) : Int), 0, 16, [])),
  (16, (0, 0, 0, 17, [])),
  (17, (4, ((3 : Nat) : Int), 0, 18, [])),
  (18, (1, ((3 : Nat) : Int), 0, 19, [])),
  (19, (2, ((0 : Nat) : Int), 0, 20, [])),
  (20, (40, 0, 0, 21, [])),
  (21, (0, 5, 0, 22, [])),
  (22, (9, 0, 0, 23, [])),
  (23, (32, 4, ((811 : Nat) : Int), 26, [])),
  (26, (2, ((0 : Nat) : Int), 0, 27, [])),
  (27, (1, ((3 : Nat) : Int), 0, 28, [])),
  (28, (38, 0, 0, 29, [])),
  (29, (0, 31, 0, 31, [])),
  (31, (13, 0, 0, 32, [])),
  (32, (34, 0, ((805 : Nat) : Int), 0, [132, 175, 198, 231, 264, 287, 330, 353, 376, 399, 452, 485, 508, 551, 574, 607, 650, 693, 736, 769, 782])),
  (132, (2, ((1 : Nat) : Int), 0, 133, [])),
  (133, (2, ((0 : Nat) : Int), 0, 134, [])),
  (134, (1, ((3 : Nat) : Int), 0, 135, [])),
  (135, (0, 1, 0, 136, [])),
  (136, (8, 0, 0, 137, [])),
  (137, (38, 0, 0, 138, [])),
  (138, (2, ((0 : Nat) : Int), 0, 139, [])),
  (139, (1, ((3 : Nat) : Int), 0, 140, [])),
  (140, (0, 2, 0, 141, [])),
  (141, (8, 0, 0, 142, [])),
  (142, (38, 0, 0, 143, [])),
  (143, (2, ((0 : Nat) : Int), 0, 144, [])),
  (144, (1, ((3 : Nat) : Int), 0, 145, [])),
  (145, (0, 3, 0, 146, [])),
  (146, (8, 0, 0, 147, [])),
  (147, (38, 0, 0, 148, [])),
  (148, (51, ((44 : Nat) : Int), ((4 : Nat) : Int), 151, [8])),
  (151, (2, ((2 : Nat) : Int), 0, 152, [])),
  (152, (2, ((0 : Nat) : Int), 0, 153, [])),
  (153, (1, ((3 : Nat) : Int), 0, 154, [])),
  (154, (0, 1, 0, 155, [])),
  (155, (8, 0, 0, 156, [])),
  (156, (38, 0, 0, 157, [])),
  (157, (2, ((0 : Nat) : Int), 0, 158, [])),
  (158, (1, ((3 : Nat) : Int), 0, 159, [])),
  (159, (0, 2, 0, 160, [])),
  (160, (8, 0, 0, 161, [])),
  (161, (38, 0, 0, 162, [])),
  (162, (2, ((0 : Nat) : Int), 0, 163, [])),
  (163, (1, ((3 : Nat) : Int), 0, 164, [])),
  (164, (0, 3, 0, 165, [])),
  (165, (8, 0, 0, 166, [])),
  (166, (38, 0, 0, 167, [])),
  (167, (51, ((99 : Nat) : Int), ((4 : Nat) : Int), 170, [9])),
  (170, (32, 0, ((805 : Nat) : Int), 173, [])),
  (173, (0, 0, 0, 174, [])),
  (174, (48, 1, 0, 0, [])),
  (175, (2, ((1 : Nat) : Int), 0, 176, [])),
  (176, (2, ((0 : Nat) : Int), 0, 177, [])),
  (177, (1, ((3 : Nat) : Int), 0, 178, [])),
  (178, (0, 1, 0, 179, [])),
  (179, (8, 0, 0, 180, [])),
  (180, (38, 0, 0, 181, [])),
  (181, (51, ((45 : Nat) : Int), ((2 : Nat) : Int), 184, [8])),
  (184, (2, ((2 : Nat) : Int), 0, 185, [])),
  (185, (2, ((0 : Nat) : Int), 0, 186, [])),
  (186, (1, ((3 : Nat) : Int), 0, 187, [])),
  (187, (0, 1, 0, 188, [])),
  (188, (8, 0, 0, 189, [])),
  (189, (38, 0, 0, 190, [])),
  (190, (51, ((101 : Nat) : Int), ((2 : Nat) : Int), 193, [9])),
  (193, (32, 0, ((805 : Nat) : Int), 196, [])),
  (196, (0, 0, 0, 197, [])),
  (197, (48, 1, 0, 0, [])),
  (198, (2, ((1 : Nat) : Int), 0, 199, [])),
  (199, (2, ((0 : Nat) : Int), 0, 200, [])),
  (200, (1, ((3 : Nat) : Int), 0, 201, [])),
  (201, (0, 1, 0, 202, [])),
  (202, (8, 0, 0, 203, [])),
  (203, (38, 0, 0, 204, [])),
  (204, (2, ((0 : Nat) : Int), 0, 205, [])),
  (205, (1, ((3 : Nat) : Int), 0, 206, [])),
  (206, (0, 2, 0, 207, [])),
  (207, (8, 0, 0, 208, [])),
  (208, (38, 0, 0, 209, [])),
  (209, (51, ((46 : Nat) : Int), ((3 : Nat) : Int), 212, [8])),
  (212, (2, ((2 : Nat) : Int), 0, 213, [])),
  (213, (2, ((0 : Nat) : Int), 0, 214, [])),
  (214, (1, ((3 : Nat) : Int), 0, 215, [])),
  (215, (0, 1, 0, 216, [])),
  (216, (8, 0, 0, 217, [])),
  (217, (38, 0, 0, 218, [])),
  (218, (2, ((0 : Nat) : Int), 0, 219, [])),
  (219, (1, ((3 : Nat) : Int), 0, 220, [])),
  (220, (0, 2, 0, 221, [])),
  (221, (8, 0, 0, 222, [])),
  (222, (38, 0, 0, 223, [])),
  (223, (51, ((102 : Nat) : Int), ((3 : Nat) : Int), 226, [9])),
  (226, (32, 0, ((805 : Nat) : Int), 229, [])),
  (229, (0, 0, 0, 230, [])),
  (230, (48, 1, 0, 0, [])),
  (231, (2, ((1 : Nat) : Int), 0, 232, [])),
  (232, (2, ((0 : Nat) : Int), 0, 233, [])),
  (233, (1, ((3 : Nat) : Int), 0, 234, [])),
  (234, (0, 1, 0, 235, [])),
  (235, (8, 0, 0, 236, [])),
  (236, (38, 0, 0, 237, [])),
  (237, (2, ((0 : Nat) : Int), 0, 238, [])),
  (238, (1, ((3 : Nat) : Int), 0, 239, [])),
  (239, (0, 2, 0, 240, [])),
  (240, (8, 0, 0, 241, [])),
  (241, (38, 0, 0, 242, [])),
  (242, (51, ((47 : Nat) : Int), ((3 : Nat) : Int), 245, [8])),
  (245, (2, ((2 : Nat) : Int), 0, 246, [])),
  (246, (2, ((0 : Nat) : Int), 0, 247, [])),
  (247, (1, ((3 : Nat) : Int), 0, 248, [])),
  (248, (0, 1, 0, 249, [])),
  (249, (8, 0, 0, 250, [])),
  (250, (38, 0, 0, 251, [])),
  (251, (2, ((0 : Nat) : Int), 0, 252, [])),
  (252, (1, ((3 : Nat) : Int), 0, 253, [])),
  (253, (0, 2, 0, 254, [])),
  (254, (8, 0, 0, 255, [])),
  (255, (38, 0, 0, 256, [])),
  (256, (51, ((104 : Nat) : Int), ((3 : Nat) : Int), 259, [9])),
  (259, (32, 0, ((805 : Nat) : Int), 262, [])),
  (262, (0, 0, 0, 263, [])),
  (263, (48, 1, 0, 0, [])),
  (264, (2, ((1 : Nat) : Int), 0, 265, [])),
  (265, (2, ((0 : Nat) : Int), 0, 266, [])),
  (266, (1, ((3 : Nat) : Int), 0, 267, [])),
  (267, (0, 1, 0, 268, [])),
  (268, (8, 0, 0, 269, [])),
  (269, (38, 0, 0, 270, [])),
  (270, (51, ((48 : Nat) : Int), ((2 : Nat) : Int), 273, [8])),
  (273, (2, ((2 : Nat) : Int), 0, 274, [])),
  (274, (2, ((0 : Nat) : Int), 0, 275, [])),
  (275, (1, ((3 : Nat) : Int), 0, 276, [])),
  (276, (0, 1, 0, 277, [])),
  (277, (8, 0, 0, 278, [])),
  (278, (38, 0, 0, 279, [])),
  (279, (51, ((105 : Nat) : Int), ((2 : Nat) : Int), 282, [9])),
  (282, (32, 0, ((805 : Nat) : Int), 285, [])),
  (285, (0, 0, 0, 286, [])),
  (286, (48, 1, 0, 0, [])),
  (287, (2, ((1 : Nat) : Int), 0, 288, [])),
  (288, (2, ((0 : Nat) : Int), 0, 289, [])),
  (289, (1, ((3 : Nat) : Int), 0, 290, [])),
  (290, (0, 1, 0, 291, [])),
  (291, (8, 0, 0, 292, [])),
  (292, (38, 0, 0, 293, [])),
  (293, (2, ((0 : Nat) : Int), 0, 294, [])),
  (294, (1, ((3 : Nat) : Int), 0, 295, [])),
  (295, (0, 2, 0, 296, [])),
  (296, (8, 0, 0, 297, [])),
  (297, (38, 0, 0, 298, [])),
  (298, (2, ((0 : Nat) : Int), 0, 299, [])),
  (299, (1, ((3 : Nat) : Int), 0, 300, [])),
  (300, (0, 3, 0, 301, [])),
  (301, (8, 0, 0, 302, [])),
  (302, (38, 0, 0, 303, [])),
  (303, (51, ((49 : Nat) : Int), ((4 : Nat) : Int), 306, [8])),
  (306, (2, ((2 : Nat) : Int), 0, 307, [])),
  (307, (2, ((0 : Nat) : Int), 0, 308, [])),
  (308, (1, ((3 : Nat) : Int), 0, 309, [])),
  (309, (0, 1, 0, 310, [])),
  (310, (8, 0, 0, 311, [])),
  (311, (38, 0, 0, 312, [])),
  (312, (2, ((0 : Nat) : Int), 0, 313, [])),
  (313, (1, ((3 : Nat) : Int), 0, 314, [])),
  (314, (0, 2, 0, 315, [])),
  (315, (8, 0, 0, 316, [])),
  (316, (38, 0, 0, 317, [])),
  (317, (2, ((0 : Nat) : Int), 0, 318, [])),
  (318, (1, ((3 : Nat) : Int), 0, 319, [])),
  (319, (0, 3, 0, 320, [])),
  (320, (8, 0, 0, 321, [])),
  (321, (38, 0, 0, 322, [])),
  (322, (51, ((106 : Nat) : Int), ((4 : Nat) : Int), 325, [9])),
  (325, (32, 0, ((805 : Nat) : Int), 328, [])),
  (328, (0, 0, 0, 329, [])),
  (329, (48, 1, 0, 0, [])),
  (330, (2, ((1 : Nat) : Int), 0, 331, [])),
  (331, (2, ((0 : Nat) : Int), 0, 332, [])),
  (332, (1, ((3 : Nat) : Int), 0, 333, [])),
  (333, (0, 1, 0, 334, [])),
  (334, (8, 0, 0, 335, [])),
  (335, (38, 0, 0, 336, [])),
  (336, (51, ((50 : Nat) : Int), ((2 : Nat) : Int), 339, [8])),
  (339, (2, ((2 : Nat) : Int), 0, 340, [])),
  (340, (2, ((0 : Nat) : Int), 0, 341, [])),
  (341, (1, ((3 : Nat) : Int), 0, 342, [])),
  (342, (0, 1, 0, 343, [])),
  (343, (8, 0, 0, 344, [])),
  (344, (38, 0, 0, 345, [])),
  (345, (51, ((107 : Nat) : Int), ((2 : Nat) : Int), 348, [9])),
  (348, (32, 0, ((805 : Nat) : Int), 351, [])),
  (351, (0, 0, 0, 352, [])),
  (352, (48, 1, 0, 0, [])),
  (353, (2, ((1 : Nat) : Int), 0, 354, [])),
  (354, (2, ((0 : Nat) : Int), 0, 355, [])),
  (355, (1, ((3 : Nat) : Int), 0, 356, [])),
  (356, (0, 1, 0, 357, [])),
  (357, (8, 0, 0, 358, [])),
  (358, (38, 0, 0, 359, [])),
  (359, (51, ((51 : Nat) : Int), ((2 : Nat) : Int), 362, [8])),
  (362, (2, ((2 : Nat) : Int), 0, 363, [])),
  (363, (2, ((0 : Nat) : Int), 0, 364, [])),
  (364, (1, ((3 : Nat) : Int), 0, 365, [])),
  (365, (0, 1, 0, 366, [])),
  (366, (8, 0, 0, 367, [])),
  (367, (38, 0, 0, 368, [])),
  (368, (51, ((108 : Nat) : Int), ((2 : Nat) : Int), 371, [9])),
  (371, (32, 0, ((805 : Nat) : Int), 374, [])),
  (374, (0, 0, 0, 375, [])),
  (375, (48, 1, 0, 0, [])),
  (376, (2, ((1 : Nat) : Int), 0, 377, [])),
  (377, (2, ((0 : Nat) : Int), 0, 378, [])),
  (378, (1, ((3 : Nat) : Int), 0, 379, [])),
  (379, (0, 1, 0, 380, [])),
  (380, (8, 0, 0, 381, [])),
  (381, (38, 0, 0, 382, [])),
  (382, (51, ((52 : Nat) : Int), ((2 : Nat) : Int), 385, [8])),
  (385, (2, ((2 : Nat) : Int), 0, 386, [])),
  (386, (2, ((0 : Nat) : Int), 0, 387, [])),
  (387, (1, ((3 : Nat) : Int), 0, 388, [])),
  (388, (0, 1, 0, 389, [])),
  (389, (8, 0, 0, 390, [])),
  (390, (38, 0, 0, 391, [])),
  (391, (51, ((114 : Nat) : Int), ((2 : Nat) : Int), 394, [9])),
  (394, (32, 0, ((805 : Nat) : Int), 397, [])),
  (397, (0, 0, 0, 398, [])),
  (398, (48, 1, 0, 0, [])),
  (399, (2, ((1 : Nat) : Int), 0, 400, [])),
  (400, (2, ((0 : Nat) : Int), 0, 401, [])),
  (401, (1, ((3 : Nat) : Int), 0, 402, [])),
  (402, (0, 1, 0, 403, [])),
  (403, (8, 0, 0, 404, [])),
  (404, (38, 0, 0, 405, [])),
  (405, (2, ((0 : Nat) : Int), 0, 406, [])),
  (406, (1, ((3 : Nat) : Int), 0, 407, [])),
  (407, (0, 2, 0, 408, [])),
  (408, (8, 0, 0, 409, [])),
  (409, (38, 0, 0, 410, [])),
  (410, (2, ((0 : Nat) : Int), 0, 411, [])),
  (411, (1, ((3 : Nat) : Int), 0, 412, [])),
  (412, (0, 3, 0, 413, [])),
  (413, (8, 0, 0, 414, [])),
  (414, (38, 0, 0, 415, [])),
  (415, (2, ((0 : Nat) : Int), 0, 416, [])),
  (416, (1, ((3 : Nat) : Int), 0, 417, [])),
  (417, (0, 4, 0, 418, [])),
  (418, (8, 0, 0, 419, [])),
  (419, (38, 0, 0, 420, [])),
  (420, (51, ((53 : Nat) : Int), ((5 : Nat) : Int), 423, [8])),
  (423, (2, ((2 : Nat) : Int), 0, 424, [])),
  (424, (2, ((0 : Nat) : Int), 0, 425, [])),
  (425, (1, ((3 : Nat) : Int), 0, 426, [])),
  (426, (0, 1, 0, 427, [])),
  (427, (8, 0, 0, 428, [])),
  (428, (38, 0, 0, 429, [])),
  (429, (2, ((0 : Nat) : Int), 0, 430, [])),
  (430, (1, ((3 : Nat) : Int), 0, 431, [])),
  (431, (0, 2, 0, 432, [])),
  (432, (8, 0, 0, 433, [])),
  (433, (38, 0, 0, 434, [])),
  (434, (2, ((0 : Nat) : Int), 0, 435, [])),
  (435, (1, ((3 : Nat) : Int), 0, 436, [])),
  (436, (0, 3, 0, 437, [])),
  (437, (8, 0, 0, 438, [])),
  (438, (38, 0, 0, 439, [])),
  (439, (2, ((0 : Nat) : Int), 0, 440, [])),
  (440, (1, ((3 : Nat) : Int), 0, 441, [])),
  (441, (0, 4, 0, 442, [])),
  (442, (8, 0, 0, 443, [])),
  (443, (38, 0, 0, 444, [])),
  (444, (51, ((116 : Nat) : Int), ((5 : Nat) : Int), 447, [9])),
  (447, (32, 0, ((805 : Nat) : Int), 450, [])),
  (450, (0, 0, 0, 451, [])),
  (451, (48, 1, 0, 0, [])),
  (452, (2, ((1 : Nat) : Int), 0, 453, [])),
  (453, (2, ((0 : Nat) : Int), 0, 454, [])),
  (454, (1, ((3 : Nat) : Int), 0, 455, [])),
  (455, (0, 1, 0, 456, [])),
  (456, (8, 0, 0, 457, [])),
  (457, (38, 0, 0, 458, [])),
  (458, (2, ((0 : Nat) : Int), 0, 459, [])),
  (459, (1, ((3 : Nat) : Int), 0, 460, [])),
  (460, (0, 2, 0, 461, [])),
  (461, (8, 0, 0, 462, [])),
  (462, (38, 0, 0, 463, [])),
  (463, (51, ((54 : Nat) : Int), ((3 : Nat) : Int), 466, [8])),
  (466, (2, ((2 : Nat) : Int), 0, 467, [])),
  (467, (2, ((0 : Nat) : Int), 0, 468, [])),
  (468, (1, ((3 : Nat) : Int), 0, 469, [])),
  (469, (0, 1, 0, 470, [])),
  (470, (8, 0, 0, 471, [])),
  (471, (38, 0, 0, 472, [])),
  (472, (2, ((0 : Nat) : Int), 0, 473, [])),
  (473, (1, ((3 : Nat) : Int), 0, 474, [])),
  (474, (0, 2, 0, 475, [])),
  (475, (8, 0, 0, 476, [])),
  (476, (38, 0, 0, 477, [])),
  (477, (51, ((117 : Nat) : Int), ((3 : Nat) : Int), 480, [9])),
  (480, (32, 0, ((805 : Nat) : Int), 483, [])),
  (483, (0, 0, 0, 484, [])),
  (484, (48, 1, 0, 0, [])),
  (485, (2, ((1 : Nat) : Int), 0, 486, [])),
  (486, (2, ((0 : Nat) : Int), 0, 487, [])),
  (487, (1, ((3 : Nat) : Int), 0, 488, [])),
  (488, (0, 1, 0, 489, [])),
  (489, (8, 0, 0, 490, [])),
  (490, (38, 0, 0, 491, [])),
  (491, (51, ((55 : Nat) : Int), ((2 : Nat) : Int), 494, [8])),
  (494, (2, ((2 : Nat) : Int), 0, 495, [])),
  (495, (2, ((0 : Nat) : Int), 0, 496, [])),
  (496, (1, ((3 : Nat) : Int), 0, 497, [])),
  (497, (0, 1, 0, 498, [])),
  (498, (8, 0, 0, 499, [])),
  (499, (38, 0, 0, 500, [])),
  (500, (51, ((118 : Nat) : Int), ((2 : Nat) : Int), 503, [9])),
  (503, (32, 0, ((805 : Nat) : Int), 506, [])),
  (506, (0, 0, 0, 507, [])),
  (507, (48, 1, 0, 0, [])),
  (508, (2, ((1 : Nat) : Int), 0, 509, [])),
  (509, (2, ((0 : Nat) : Int), 0, 510, [])),
  (510, (1, ((3 : Nat) : Int), 0, 511, [])),
  (511, (0, 1, 0, 512, [])),
  (512, (8, 0, 0, 513, [])),
  (513, (38, 0, 0, 514, [])),
  (514, (2, ((0 : Nat) : Int), 0, 515, [])),
  (515, (1, ((3 : Nat) : Int), 0, 516, [])),
  (516, (0, 2, 0, 517, [])),
  (517, (8, 0, 0, 518, [])),
  (518, (38, 0, 0, 519, [])),
  (519, (2, ((0 : Nat) : Int), 0, 520, [])),
  (520, (1, ((3 : Nat) : Int), 0, 521, [])),
  (521, (0, 3, 0, 522, [])),
  (522, (8, 0, 0, 523, [])),
  (523, (38, 0, 0, 524, [])),
  (524, (51, ((56 : Nat) : Int), ((4 : Nat) : Int), 527, [8])),
  (527, (2, ((2 : Nat) : Int), 0, 528, [])),
  (528, (2, ((0 : Nat) : Int), 0, 529, [])),
  (529, (1, ((3 : Nat) : Int), 0, 530, [])),
  (530, (0, 1, 0, 531, [])),
  (531, (8, 0, 0, 532, [])),
  (532, (38, 0, 0, 533, [])),
  (533, (2, ((0 : Nat) : Int), 0, 534, [])),
  (534, (1, ((3 : Nat) : Int), 0, 535, [])),
  (535, (0, 2, 0, 536, [])),
  (536, (8, 0, 0, 537, [])),
  (537, (38, 0, 0, 538, [])),
  (538, (2, ((0 : Nat) : Int), 0, 539, [])),
  (539, (1, ((3 : Nat) : Int), 0, 540, [])),
  (540, (0, 3, 0, 541, [])),
  (541, (8, 0, 0, 542, [])),
  (542, (38, 0, 0, 543, [])),
  (543, (51, ((126 : Nat) : Int), ((4 : Nat) : Int), 546, [9])),
  (546, (32, 0, ((805 : Nat) : Int), 549, [])),
  (549, (0, 0, 0, 550, [])),
  (550, (48, 1, 0, 0, [])),
  (551, (2, ((1 : Nat) : Int), 0, 552, [])),
  (552, (2, ((0 : Nat) : Int), 0, 553, [])),
  (553, (1, ((3 : Nat) : Int), 0, 554, [])),
  (554, (0, 1, 0, 555, [])),
  (555, (8, 0, 0, 556, [])),
  (556, (38, 0, 0, 557, [])),
  (557, (51, ((57 : Nat) : Int), ((2 : Nat) : Int), 560, [8])),
  (560, (2, ((2 : Nat) : Int), 0, 561, [])),
  (561, (2, ((0 : Nat) : Int), 0, 562, [])),
  (562, (1, ((3 : Nat) : Int), 0, 563, [])),
  (563, (0, 1, 0, 564, [])),
  (564, (8, 0, 0, 565, [])),
  (565, (38, 0, 0, 566, [])),
  (566, (51, ((133 : Nat) : Int), ((2 : Nat) : Int), 569, [9])),
  (569, (32, 0, ((805 : Nat) : Int), 572, [])),
  (572, (0, 0, 0, 573, [])),
  (573, (48, 1, 0, 0, [])),
  (574, (2, ((1 : Nat) : Int), 0, 575, [])),
  (575, (2, ((0 : Nat) : Int), 0, 576, [])),
  (576, (1, ((3 : Nat) : Int), 0, 577, [])),
  (577, (0, 1, 0, 578, [])),
  (578, (8, 0, 0, 579, [])),
  (579, (38, 0, 0, 580, [])),
  (580, (2, ((0 : Nat) : Int), 0, 581, [])),
  (581, (1, ((3 : Nat) : Int), 0, 582, [])),
  (582, (0, 2, 0, 583, [])),
  (583, (8, 0, 0, 584, [])),
  (584, (38, 0, 0, 585, [])),
  (585, (51, ((58 : Nat) : Int), ((3 : Nat) : Int), 588, [8])),
  (588, (2, ((2 : Nat) : Int), 0, 589, [])),
  (589, (2, ((0 : Nat) : Int), 0, 590, [])),
  (590, (1, ((3 : Nat) : Int), 0, 591, [])),
  (591, (0, 1, 0, 592, [])),
  (592, (8, 0, 0, 593, [])),
  (593, (38, 0, 0, 594, [])),
  (594, (2, ((0 : Nat) : Int), 0, 595, [])),
  (595, (1, ((3 : Nat) : Int), 0, 596, [])),
  (596, (0, 2, 0, 597, [])),
  (597, (8, 0, 0, 598, [])),
  (598, (38, 0, 0, 599, [])),
  (599, (51, ((135 : Nat) : Int), ((3 : Nat) : Int), 602, [9])),
  (602, (32, 0, ((805 : Nat) : Int), 605, [])),
  (605, (0, 0, 0, 606, [])),
  (606, (48, 1, 0, 0, [])),
  (607, (2, ((1 : Nat) : Int), 0, 608, [])),
  (608, (2, ((0 : Nat) : Int), 0, 609, [])),
  (609, (1, ((3 : Nat) : Int), 0, 610, [])),
  (610, (0, 1, 0, 611, [])),
  (611, (8, 0, 0, 612, [])),
  (612, (38, 0, 0, 613, [])),
  (613, (2, ((0 : Nat) : Int), 0, 614, [])),
  (614, (1, ((3 : Nat) : Int), 0, 615, [])),
  (615, (0, 2, 0, 616, [])),
  (616, (8, 0, 0, 617, [])),
  (617, (38, 0, 0, 618, [])),
  (618, (2, ((0 : Nat) : Int), 0, 619, [])),
  (619, (1, ((3 : Nat) : Int), 0, 620, [])),
  (620, (0, 3, 0, 621, [])),
  (621, (8, 0, 0, 622, [])),
  (622, (38, 0, 0, 623, [])),
  (623, (51, ((59 : Nat) : Int), ((4 : Nat) : Int), 626, [8])),
  (626, (2, ((2 : Nat) : Int), 0, 627, [])),
  (627, (2, ((0 : Nat) : Int), 0, 628, [])),
  (628, (1, ((3 : Nat) : Int), 0, 629, [])),
  (629, (0, 1, 0, 630, [])),
  (630, (8, 0, 0, 631, [])),
  (631, (38, 0, 0, 632, [])),
  (632, (2, ((0 : Nat) : Int), 0, 633, [])),
  (633, (1, ((3 : Nat) : Int), 0, 634, [])),
  (634, (0, 2, 0, 635, [])),
  (635, (8, 0, 0, 636, [])),
  (636, (38, 0, 0, 637, [])),
  (637, (2, ((0 : Nat) : Int), 0, 638, [])),
  (638, (1, ((3 : Nat) : Int), 0, 639, [])),
  (639, (0, 3, 0, 640, [])),
  (640, (8, 0, 0, 641, [])),
  (641, (38, 0, 0, 642, [])),
  (642, (51, ((136 : Nat) : Int), ((4 : Nat) : Int), 645, [9])),
  (645, (32, 0, ((805 : Nat) : Int), 648, [])),
  (648, (0, 0, 0, 649, [])),
  (649, (48, 1, 0, 0, [])),
  (650, (2, ((1 : Nat) : Int), 0, 651, [])),
  (651, (2, ((0 : Nat) : Int), 0, 652, [])),
  (652, (1, ((3 : Nat) : Int), 0, 653, [])),
  (653, (0, 1, 0, 654, [])),
  (654, (8, 0, 0, 655, [])),
  (655, (38, 0, 0, 656, [])),
  (656, (2, ((0 : Nat) : Int), 0, 657, [])),
  (657, (1, ((3 : Nat) : Int), 0, 658, [])),
  (658, (0, 2, 0, 659, [])),
  (659, (8, 0, 0, 660, [])),
  (660, (38, 0, 0, 661, [])),
  (661, (2, ((0 : Nat) : Int), 0, 662, [])),
  (662, (1, ((3 : Nat) : Int), 0, 663, [])),
  (663, (0, 3, 0, 664, [])),
  (664, (8, 0, 0, 665, [])),
  (665, (38, 0, 0, 666, [])),
  (666, (51, ((60 : Nat) : Int), ((4 : Nat) : Int), 669, [8])),
  (669, (2, ((2 : Nat) : Int), 0, 670, [])),
  (670, (2, ((0 : Nat) : Int), 0, 671, [])),
  (671, (1, ((3 : Nat) : Int), 0, 672, [])),
  (672, (0, 1, 0, 673, [])),
  (673, (8, 0, 0, 674, [])),
  (674, (38, 0, 0, 675, [])),
  (675, (2, ((0 : Nat) : Int), 0, 676, [])),
  (676, (1, ((3 : Nat) : Int), 0, 677, [])),
  (677, (0, 2, 0, 678, [])),
  (678, (8, 0, 0, 679, [])),
  (679, (38, 0, 0, 680, [])),
  (680, (2, ((0 : Nat) : Int), 0, 681, [])),
  (681, (1, ((3 : Nat) : Int), 0, 682, [])),
  (682, (0, 3, 0, 683, [])),
  (683, (8, 0, 0, 684, [])),
  (684, (38, 0, 0, 685, [])),
  (685, (51, ((137 : Nat) : Int), ((4 : Nat) : Int), 688, [9])),
  (688, (32, 0, ((805 : Nat) : Int), 691, [])),
  (691, (0, 0, 0, 692, [])),
  (692, (48, 1, 0, 0, [])),
  (693, (2, ((1 : Nat) : Int), 0, 694, [])),
  (694, (2, ((0 : Nat) : Int), 0, 695, [])),
  (695, (1, ((3 : Nat) : Int), 0, 696, [])),
  (696, (0, 1, 0, 697, [])),
  (697, (8, 0, 0, 698, [])),
  (698, (38, 0, 0, 699, [])),
  (699, (2, ((0 : Nat) : Int), 0, 700, [])),
  (700, (1, ((3 : Nat) : Int), 0, 701, [])),
  (701, (0, 2, 0, 702, [])),
  (702, (8, 0, 0, 703, [])),
  (703, (38, 0, 0, 704, [])),
  (704, (2, ((0 : Nat) : Int), 0, 705, [])),
  (705, (1, ((3 : Nat) : Int), 0, 706, [])),
  (706, (0, 3, 0, 707, [])),
  (707, (8, 0, 0, 708, [])),
  (708, (38, 0, 0, 709, [])),
  (709, (51, ((61 : Nat) : Int), ((4 : Nat) : Int), 712, [8])),
  (712, (2, ((2 : Nat) : Int), 0, 713, [])),
  (713, (2, ((0 : Nat) : Int), 0, 714, [])),
  (714, (1, ((3 : Nat) : Int), 0, 715, [])),
  (715, (0, 1, 0, 716, [])),
  (716, (8, 0, 0, 717, [])),
  (717, (38, 0, 0, 718, [])),
  (718, (2, ((0 : Nat) : Int), 0, 719, [])),
  (719, (1, ((3 : Nat) : Int), 0, 720, [])),
  (720, (0, 2, 0, 721, [])),
  (721, (8, 0, 0, 722, [])),
  (722, (38, 0, 0, 723, [])),
  (723, (2, ((0 : Nat) : Int), 0, 724, [])),
  (724, (1, ((3 : Nat) : Int), 0, 725, [])),
  (725, (0, 3, 0, 726, [])),
  (726, (8, 0, 0, 727, [])),
  (727, (38, 0, 0, 728, [])),
  (728, (51, ((139 : Nat) : Int), ((4 : Nat) : Int), 731, [9])),
  (731, (32, 0, ((805 : Nat) : Int), 734, [])),
  (734, (0, 0, 0, 735, [])),
  (735, (48, 1, 0, 0, [])),
  (736, (2, ((1 : Nat) : Int), 0, 737, [])),
  (737, (2, ((0 : Nat) : Int), 0, 738, [])),
  (738, (1, ((3 : Nat) : Int), 0, 739, [])),
  (739, (0, 1, 0, 740, [])),
  (740, (8, 0, 0, 741, [])),
  (741, (38, 0, 0, 742, [])),
  (742, (2, ((0 : Nat) : Int), 0, 743, [])),
  (743, (1, ((3 : Nat) : Int), 0, 744, [])),
  (744, (0, 2, 0, 745, [])),
  (745, (8, 0, 0, 746, [])),
  (746, (38, 0, 0, 747, [])),
  (747, (51, ((62 : Nat) : Int), ((3 : Nat) : Int), 750, [8])),
  (750, (2, ((2 : Nat) : Int), 0, 751, [])),
  (751, (2, ((0 : Nat) : Int), 0, 752, [])),
  (752, (1, ((3 : Nat) : Int), 0, 753, [])),
  (753, (0, 1, 0, 754, [])),
  (754, (8, 0, 0, 755, [])),
  (755, (38, 0, 0, 756, [])),
  (756, (2, ((0 : Nat) : Int), 0, 757, [])),
  (757, (1, ((3 : Nat) : Int), 0, 758, [])),
  (758, (0, 2, 0, 759, [])),
  (759, (8, 0, 0, 760, [])),
  (760, (38, 0, 0, 761, [])),
  (761, (51, ((141 : Nat) : Int), ((3 : Nat) : Int), 764, [9])),
  (764, (32, 0, ((805 : Nat) : Int), 767, [])),
  (767, (0, 0, 0, 768, [])),
  (768, (48, 1, 0, 0, [])),
  (769, (2, ((1 : Nat) : Int), 0, 770, [])),
  (770, (51, ((63 : Nat) : Int), ((1 : Nat) : Int), 773, [8])),
  (773, (2, ((2 : Nat) : Int), 0, 774, [])),
  (774, (51, ((142 : Nat) : Int), ((1 : Nat) : Int), 777, [9])),
  (777, (32, 0, ((805 : Nat) : Int), 780, [])),
  (780, (0, 0, 0, 781, [])),
  (781, (48, 1, 0, 0, [])),
  (782, (2, ((1 : Nat) : Int), 0, 783, [])),
  (783, (2, ((0 : Nat) : Int), 0, 784, [])),
  (784, (1, ((3 : Nat) : Int), 0, 785, [])),
  (785, (0, 1, 0, 786, [])),
  (786, (8, 0, 0, 787, [])),
  (787, (38, 0, 0, 788, [])),
  (788, (51, ((64 : Nat) : Int), ((2 : Nat) : Int), 791, [8])),
  (791, (2, ((2 : Nat) : Int), 0, 792, [])),
  (792, (2, ((0 : Nat) : Int), 0, 793, [])),
  (793, (1, ((3 : Nat) : Int), 0, 794, [])),
  (794, (0, 1, 0, 795, [])),
  (795, (8, 0, 0, 796, [])),
  (796, (38, 0, 0, 797, [])),
  (797, (51, ((144 : Nat) : Int), ((2 : Nat) : Int), 800, [9])),
  (800, (32, 0, ((805 : Nat) : Int), 803, [])),
  (803, (0, 0, 0, 804, [])),
  (804, (48, 1, 0, 0, [])),
  (805, (7, ((3 : Nat) : Int), 5, 808, [])),
  (808, (33, ((18 : Nat) : Int), 0, 0, [])),
  (811, (0, 1, 0, 812, [])),
  (812, (48, 1, 0, 0, []))]
theorem tk_L_law_0 : tOk mi_L_law ((tl_L_law.drop 0).take 45) = true := by decide +kernel
theorem tk_L_law_1 : tOk mi_L_law ((tl_L_law.drop 45).take 45) = true := by decide +kernel
theorem tk_L_law_2 : tOk mi_L_law ((tl_L_law.drop 90).take 45) = true := by decide +kernel
theorem tk_L_law_3 : tOk mi_L_law ((tl_L_law.drop 135).take 45) = true := by decide +kernel
theorem tk_L_law_4 : tOk mi_L_law ((tl_L_law.drop 180).take 45) = true := by decide +kernel
theorem tk_L_law_5 : tOk mi_L_law ((tl_L_law.drop 225).take 45) = true := by decide +kernel
theorem tk_L_law_6 : tOk mi_L_law ((tl_L_law.drop 270).take 45) = true := by decide +kernel
theorem tk_L_law_7 : tOk mi_L_law ((tl_L_law.drop 315).take 45) = true := by decide +kernel
theorem tk_L_law_8 : tOk mi_L_law ((tl_L_law.drop 360).take 45) = true := by decide +kernel
theorem tk_L_law_9 : tOk mi_L_law ((tl_L_law.drop 405).take 45) = true := by decide +kernel
theorem tk_L_law_10 : tOk mi_L_law ((tl_L_law.drop 450).take 45) = true := by decide +kernel
theorem tk_L_law_11 : tOk mi_L_law ((tl_L_law.drop 495).take 45) = true := by decide +kernel
theorem tk_L_law_12 : tOk mi_L_law ((tl_L_law.drop 540).take 45) = true := by decide +kernel
theorem tk_L_law : tOk mi_L_law tl_L_law = true := by
  refine tOk_cut 45 (by decide) (fun q hq => ?_)
  have hl : tl_L_law.length = 573 := by decide +kernel
  rw [hl] at hq
  rcases (show q = 0 ∨ q = 1 ∨ q = 2 ∨ q = 3 ∨ q = 4 ∨ q = 5 ∨ q = 6 ∨ q = 7 ∨ q = 8 ∨ q = 9 ∨ q = 10 ∨ q = 11 ∨ q = 12 by omega) with rfl | rfl | rfl | rfl | rfl | rfl | rfl | rfl | rfl | rfl | rfl | rfl | rfl
  · exact tk_L_law_0
  · exact tk_L_law_1
  · exact tk_L_law_2
  · exact tk_L_law_3
  · exact tk_L_law_4
  · exact tk_L_law_5
  · exact tk_L_law_6
  · exact tk_L_law_7
  · exact tk_L_law_8
  · exact tk_L_law_9
  · exact tk_L_law_10
  · exact tk_L_law_11
  · exact tk_L_law_12
def pm_L_law (pc : Nat) : Option PT := if [18].contains pc then none else tl_L_law.lookup pc
theorem pk_L_law : ∀ pc pt, pm_L_law pc = some pt → okPt mi_L_law pc pt := fun pc pt h => tOk_pm tk_L_law h
section
variable {E : ET} {g : GT} {d : Nat} {lm : Nat × Nat} {RT : RTy} {F : FT} {n : Nat} {L : LV} {st : List AV} {h : AH}
theorem r_L_law_0 : run E g mi_L_law d lm RT F pm_L_law (n + 1) 0 L st h = exI E d lm RT F (run E g mi_L_law d lm RT F pm_L_law n) (41, ((8 : Nat) : Int), 0, 3, []) L st h := run_s (by decide +kernel)
theorem r_L_law_3 : run E g mi_L_law d lm RT F pm_L_law (n + 1) 3 L st h = exI E d lm RT F (run E g mi_L_law d lm RT F pm_L_law n) (28, 0, 0, 4, []) L st h := run_s (by decide +kernel)
theorem r_L_law_4 : run E g mi_L_law d lm RT F pm_L_law (n + 1) 4 L st h = exI E d lm RT F (run E g mi_L_law d lm RT F pm_L_law n) (53, ((43 : Nat) : Int), ((1 : Nat) : Int), 7, []) L st h := run_s (by decide +kernel)
theorem r_L_law_7 : run E g mi_L_law d lm RT F pm_L_law (n + 1) 7 L st h = exI E d lm RT F (run E g mi_L_law d lm RT F pm_L_law n) (5, ((1 : Nat) : Int), 0, 8, []) L st h := run_s (by decide +kernel)
theorem r_L_law_8 : run E g mi_L_law d lm RT F pm_L_law (n + 1) 8 L st h = exI E d lm RT F (run E g mi_L_law d lm RT F pm_L_law n) (41, ((9 : Nat) : Int), 0, 11, []) L st h := run_s (by decide +kernel)
theorem r_L_law_11 : run E g mi_L_law d lm RT F pm_L_law (n + 1) 11 L st h = exI E d lm RT F (run E g mi_L_law d lm RT F pm_L_law n) (28, 0, 0, 12, []) L st h := run_s (by decide +kernel)
theorem r_L_law_12 : run E g mi_L_law d lm RT F pm_L_law (n + 1) 12 L st h = exI E d lm RT F (run E g mi_L_law d lm RT F pm_L_law n) (53, ((89 : Nat) : Int), ((1 : Nat) : Int), 15, []) L st h := run_s (by decide +kernel)
theorem r_L_law_15 : run E g mi_L_law d lm RT F pm_L_law (n + 1) 15 L st h = exI E d lm RT F (run E g mi_L_law d lm RT F pm_L_law n) (5, ((2 : Nat) : Int), 0, 16, []) L st h := run_s (by decide +kernel)
theorem r_L_law_16 : run E g mi_L_law d lm RT F pm_L_law (n + 1) 16 L st h = exI E d lm RT F (run E g mi_L_law d lm RT F pm_L_law n) (0, 0, 0, 17, []) L st h := run_s (by decide +kernel)
theorem r_L_law_17 : run E g mi_L_law d lm RT F pm_L_law (n + 1) 17 L st h = exI E d lm RT F (run E g mi_L_law d lm RT F pm_L_law n) (4, ((3 : Nat) : Int), 0, 18, []) L st h := run_s (by decide +kernel)
theorem r_L_law_18 : run E g mi_L_law d lm RT F pm_L_law (n + 1) 18 L st h = G E g mi_L_law d lm RT 18 L st h := run_c (by decide +kernel)
theorem q_L_law_18 (n : Nat) (hF : FOk E d F) (hx : exI E d lm RT F (run E g mi_L_law d lm RT F pm_L_law n) (1, ((3 : Nat) : Int), 0, 19, []) L st h) : G E g mi_L_law d lm RT 18 L st h := sstep hF (tOk_spec tk_L_law (by decide +kernel)) (run_sound hF pk_L_law n) hx
theorem r_L_law_19 : run E g mi_L_law d lm RT F pm_L_law (n + 1) 19 L st h = exI E d lm RT F (run E g mi_L_law d lm RT F pm_L_law n) (2, ((0 : Nat) : Int), 0, 20, []) L st h := run_s (by decide +kernel)
theorem r_L_law_20 : run E g mi_L_law d lm RT F pm_L_law (n + 1) 20 L st h = exI E d lm RT F (run E g mi_L_law d lm RT F pm_L_law n) (40, 0, 0, 21, []) L st h := run_s (by decide +kernel)
theorem r_L_law_21 : run E g mi_L_law d lm RT F pm_L_law (n + 1) 21 L st h = exI E d lm RT F (run E g mi_L_law d lm RT F pm_L_law n) (0, 5, 0, 22, []) L st h := run_s (by decide +kernel)
theorem r_L_law_22 : run E g mi_L_law d lm RT F pm_L_law (n + 1) 22 L st h = exI E d lm RT F (run E g mi_L_law d lm RT F pm_L_law n) (9, 0, 0, 23, []) L st h := run_s (by decide +kernel)
theorem r_L_law_23 : run E g mi_L_law d lm RT F pm_L_law (n + 1) 23 L st h = exI E d lm RT F (run E g mi_L_law d lm RT F pm_L_law n) (32, 4, ((811 : Nat) : Int), 26, []) L st h := run_s (by decide +kernel)
theorem r_L_law_26 : run E g mi_L_law d lm RT F pm_L_law (n + 1) 26 L st h = exI E d lm RT F (run E g mi_L_law d lm RT F pm_L_law n) (2, ((0 : Nat) : Int), 0, 27, []) L st h := run_s (by decide +kernel)
theorem r_L_law_27 : run E g mi_L_law d lm RT F pm_L_law (n + 1) 27 L st h = exI E d lm RT F (run E g mi_L_law d lm RT F pm_L_law n) (1, ((3 : Nat) : Int), 0, 28, []) L st h := run_s (by decide +kernel)
theorem r_L_law_28 : run E g mi_L_law d lm RT F pm_L_law (n + 1) 28 L st h = exI E d lm RT F (run E g mi_L_law d lm RT F pm_L_law n) (38, 0, 0, 29, []) L st h := run_s (by decide +kernel)
theorem r_L_law_29 : run E g mi_L_law d lm RT F pm_L_law (n + 1) 29 L st h = exI E d lm RT F (run E g mi_L_law d lm RT F pm_L_law n) (0, 31, 0, 31, []) L st h := run_s (by decide +kernel)
theorem r_L_law_31 : run E g mi_L_law d lm RT F pm_L_law (n + 1) 31 L st h = exI E d lm RT F (run E g mi_L_law d lm RT F pm_L_law n) (13, 0, 0, 32, []) L st h := run_s (by decide +kernel)
theorem r_L_law_32 : run E g mi_L_law d lm RT F pm_L_law (n + 1) 32 L st h = exI E d lm RT F (run E g mi_L_law d lm RT F pm_L_law n) (34, 0, ((805 : Nat) : Int), 0, [132, 175, 198, 231, 264, 287, 330, 353, 376, 399, 452, 485, 508, 551, 574, 607, 650, 693, 736, 769, 782]) L st h := run_s (by decide +kernel)
theorem r_L_law_132 : run E g mi_L_law d lm RT F pm_L_law (n + 1) 132 L st h = exI E d lm RT F (run E g mi_L_law d lm RT F pm_L_law n) (2, ((1 : Nat) : Int), 0, 133, []) L st h := run_s (by decide +kernel)
theorem r_L_law_133 : run E g mi_L_law d lm RT F pm_L_law (n + 1) 133 L st h = exI E d lm RT F (run E g mi_L_law d lm RT F pm_L_law n) (2, ((0 : Nat) : Int), 0, 134, []) L st h := run_s (by decide +kernel)
theorem r_L_law_134 : run E g mi_L_law d lm RT F pm_L_law (n + 1) 134 L st h = exI E d lm RT F (run E g mi_L_law d lm RT F pm_L_law n) (1, ((3 : Nat) : Int), 0, 135, []) L st h := run_s (by decide +kernel)
theorem r_L_law_135 : run E g mi_L_law d lm RT F pm_L_law (n + 1) 135 L st h = exI E d lm RT F (run E g mi_L_law d lm RT F pm_L_law n) (0, 1, 0, 136, []) L st h := run_s (by decide +kernel)
theorem r_L_law_136 : run E g mi_L_law d lm RT F pm_L_law (n + 1) 136 L st h = exI E d lm RT F (run E g mi_L_law d lm RT F pm_L_law n) (8, 0, 0, 137, []) L st h := run_s (by decide +kernel)
theorem r_L_law_137 : run E g mi_L_law d lm RT F pm_L_law (n + 1) 137 L st h = exI E d lm RT F (run E g mi_L_law d lm RT F pm_L_law n) (38, 0, 0, 138, []) L st h := run_s (by decide +kernel)
theorem r_L_law_138 : run E g mi_L_law d lm RT F pm_L_law (n + 1) 138 L st h = exI E d lm RT F (run E g mi_L_law d lm RT F pm_L_law n) (2, ((0 : Nat) : Int), 0, 139, []) L st h := run_s (by decide +kernel)
theorem r_L_law_139 : run E g mi_L_law d lm RT F pm_L_law (n + 1) 139 L st h = exI E d lm RT F (run E g mi_L_law d lm RT F pm_L_law n) (1, ((3 : Nat) : Int), 0, 140, []) L st h := run_s (by decide +kernel)
theorem r_L_law_140 : run E g mi_L_law d lm RT F pm_L_law (n + 1) 140 L st h = exI E d lm RT F (run E g mi_L_law d lm RT F pm_L_law n) (0, 2, 0, 141, []) L st h := run_s (by decide +kernel)
theorem r_L_law_141 : run E g mi_L_law d lm RT F pm_L_law (n + 1) 141 L st h = exI E d lm RT F (run E g mi_L_law d lm RT F pm_L_law n) (8, 0, 0, 142, []) L st h := run_s (by decide +kernel)
theorem r_L_law_142 : run E g mi_L_law d lm RT F pm_L_law (n + 1) 142 L st h = exI E d lm RT F (run E g mi_L_law d lm RT F pm_L_law n) (38, 0, 0, 143, []) L st h := run_s (by decide +kernel)
theorem r_L_law_143 : run E g mi_L_law d lm RT F pm_L_law (n + 1) 143 L st h = exI E d lm RT F (run E g mi_L_law d lm RT F pm_L_law n) (2, ((0 : Nat) : Int), 0, 144, []) L st h := run_s (by decide +kernel)
theorem r_L_law_144 : run E g mi_L_law d lm RT F pm_L_law (n + 1) 144 L st h = exI E d lm RT F (run E g mi_L_law d lm RT F pm_L_law n) (1, ((3 : Nat) : Int), 0, 145, []) L st h := run_s (by decide +kernel)
theorem r_L_law_145 : run E g mi_L_law d lm RT F pm_L_law (n + 1) 145 L st h = exI E d lm RT F (run E g mi_L_law d lm RT F pm_L_law n) (0, 3, 0, 146, []) L st h := run_s (by decide +kernel)
theorem r_L_law_146 : run E g mi_L_law d lm RT F pm_L_law (n + 1) 146 L st h = exI E d lm RT F (run E g mi_L_law d lm RT F pm_L_law n) (8, 0, 0, 147, []) L st h := run_s (by decide +kernel)
theorem r_L_law_147 : run E g mi_L_law d lm RT F pm_L_law (n + 1) 147 L st h = exI E d lm RT F (run E g mi_L_law d lm RT F pm_L_law n) (38, 0, 0, 148, []) L st h := run_s (by decide +kernel)
theorem r_L_law_148 : run E g mi_L_law d lm RT F pm_L_law (n + 1) 148 L st h = exI E d lm RT F (run E g mi_L_law d lm RT F pm_L_law n) (51, ((44 : Nat) : Int), ((4 : Nat) : Int), 151, [8]) L st h := run_s (by decide +kernel)
theorem r_L_law_151 : run E g mi_L_law d lm RT F pm_L_law (n + 1) 151 L st h = exI E d lm RT F (run E g mi_L_law d lm RT F pm_L_law n) (2, ((2 : Nat) : Int), 0, 152, []) L st h := run_s (by decide +kernel)
theorem r_L_law_152 : run E g mi_L_law d lm RT F pm_L_law (n + 1) 152 L st h = exI E d lm RT F (run E g mi_L_law d lm RT F pm_L_law n) (2, ((0 : Nat) : Int), 0, 153, []) L st h := run_s (by decide +kernel)
theorem r_L_law_153 : run E g mi_L_law d lm RT F pm_L_law (n + 1) 153 L st h = exI E d lm RT F (run E g mi_L_law d lm RT F pm_L_law n) (1, ((3 : Nat) : Int), 0, 154, []) L st h := run_s (by decide +kernel)
theorem r_L_law_154 : run E g mi_L_law d lm RT F pm_L_law (n + 1) 154 L st h = exI E d lm RT F (run E g mi_L_law d lm RT F pm_L_law n) (0, 1, 0, 155, []) L st h := run_s (by decide +kernel)
theorem r_L_law_155 : run E g mi_L_law d lm RT F pm_L_law (n + 1) 155 L st h = exI E d lm RT F (run E g mi_L_law d lm RT F pm_L_law n) (8, 0, 0, 156, []) L st h := run_s (by decide +kernel)
theorem r_L_law_156 : run E g mi_L_law d lm RT F pm_L_law (n + 1) 156 L st h = exI E d lm RT F (run E g mi_L_law d lm RT F pm_L_law n) (38, 0, 0, 157, []) L st h := run_s (by decide +kernel)
theorem r_L_law_157 : run E g mi_L_law d lm RT F pm_L_law (n + 1) 157 L st h = exI E d lm RT F (run E g mi_L_law d lm RT F pm_L_law n) (2, ((0 : Nat) : Int), 0, 158, []) L st h := run_s (by decide +kernel)
theorem r_L_law_158 : run E g mi_L_law d lm RT F pm_L_law (n + 1) 158 L st h = exI E d lm RT F (run E g mi_L_law d lm RT F pm_L_law n) (1, ((3 : Nat) : Int), 0, 159, []) L st h := run_s (by decide +kernel)
theorem r_L_law_159 : run E g mi_L_law d lm RT F pm_L_law (n + 1) 159 L st h = exI E d lm RT F (run E g mi_L_law d lm RT F pm_L_law n) (0, 2, 0, 160, []) L st h := run_s (by decide +kernel)
theorem r_L_law_160 : run E g mi_L_law d lm RT F pm_L_law (n + 1) 160 L st h = exI E d lm RT F (run E g mi_L_law d lm RT F pm_L_law n) (8, 0, 0, 161, []) L st h := run_s (by decide +kernel)
theorem r_L_law_161 : run E g mi_L_law d lm RT F pm_L_law (n + 1) 161 L st h = exI E d lm RT F (run E g mi_L_law d lm RT F pm_L_law n) (38, 0, 0, 162, []) L st h := run_s (by decide +kernel)
theorem r_L_law_162 : run E g mi_L_law d lm RT F pm_L_law (n + 1) 162 L st h = exI E d lm RT F (run E g mi_L_law d lm RT F pm_L_law n) (2, ((0 : Nat) : Int), 0, 163, []) L st h := run_s (by decide +kernel)
theorem r_L_law_163 : run E g mi_L_law d lm RT F pm_L_law (n + 1) 163 L st h = exI E d lm RT F (run E g mi_L_law d lm RT F pm_L_law n) (1, ((3 : Nat) : Int), 0, 164, []) L st h := run_s (by decide +kernel)
theorem r_L_law_164 : run E g mi_L_law d lm RT F pm_L_law (n + 1) 164 L st h = exI E d lm RT F (run E g mi_L_law d lm RT F pm_L_law n) (0, 3, 0, 165, []) L st h := run_s (by decide +kernel)
theorem r_L_law_165 : run E g mi_L_law d lm RT F pm_L_law (n + 1) 165 L st h = exI E d lm RT F (run E g mi_L_law d lm RT F pm_L_law n) (8, 0, 0, 166, []) L st h := run_s (by decide +kernel)
theorem r_L_law_166 : run E g mi_L_law d lm RT F pm_L_law (n + 1) 166 L st h = exI E d lm RT F (run E g mi_L_law d lm RT F pm_L_law n) (38, 0, 0, 167, []) L st h := run_s (by decide +kernel)
theorem r_L_law_167 : run E g mi_L_law d lm RT F pm_L_law (n + 1) 167 L st h = exI E d lm RT F (run E g mi_L_law d lm RT F pm_L_law n) (51, ((99 : Nat) : Int), ((4 : Nat) : Int), 170, [9]) L st h := run_s (by decide +kernel)
theorem r_L_law_170 : run E g mi_L_law d lm RT F pm_L_law (n + 1) 170 L st h = exI E d lm RT F (run E g mi_L_law d lm RT F pm_L_law n) (32, 0, ((805 : Nat) : Int), 173, []) L st h := run_s (by decide +kernel)
theorem r_L_law_173 : run E g mi_L_law d lm RT F pm_L_law (n + 1) 173 L st h = exI E d lm RT F (run E g mi_L_law d lm RT F pm_L_law n) (0, 0, 0, 174, []) L st h := run_s (by decide +kernel)
theorem r_L_law_174 : run E g mi_L_law d lm RT F pm_L_law (n + 1) 174 L st h = exI E d lm RT F (run E g mi_L_law d lm RT F pm_L_law n) (48, 1, 0, 0, []) L st h := run_s (by decide +kernel)
theorem r_L_law_175 : run E g mi_L_law d lm RT F pm_L_law (n + 1) 175 L st h = exI E d lm RT F (run E g mi_L_law d lm RT F pm_L_law n) (2, ((1 : Nat) : Int), 0, 176, []) L st h := run_s (by decide +kernel)
theorem r_L_law_176 : run E g mi_L_law d lm RT F pm_L_law (n + 1) 176 L st h = exI E d lm RT F (run E g mi_L_law d lm RT F pm_L_law n) (2, ((0 : Nat) : Int), 0, 177, []) L st h := run_s (by decide +kernel)
theorem r_L_law_177 : run E g mi_L_law d lm RT F pm_L_law (n + 1) 177 L st h = exI E d lm RT F (run E g mi_L_law d lm RT F pm_L_law n) (1, ((3 : Nat) : Int), 0, 178, []) L st h := run_s (by decide +kernel)
theorem r_L_law_178 : run E g mi_L_law d lm RT F pm_L_law (n + 1) 178 L st h = exI E d lm RT F (run E g mi_L_law d lm RT F pm_L_law n) (0, 1, 0, 179, []) L st h := run_s (by decide +kernel)
theorem r_L_law_179 : run E g mi_L_law d lm RT F pm_L_law (n + 1) 179 L st h = exI E d lm RT F (run E g mi_L_law d lm RT F pm_L_law n) (8, 0, 0, 180, []) L st h := run_s (by decide +kernel)
theorem r_L_law_180 : run E g mi_L_law d lm RT F pm_L_law (n + 1) 180 L st h = exI E d lm RT F (run E g mi_L_law d lm RT F pm_L_law n) (38, 0, 0, 181, []) L st h := run_s (by decide +kernel)
theorem r_L_law_181 : run E g mi_L_law d lm RT F pm_L_law (n + 1) 181 L st h = exI E d lm RT F (run E g mi_L_law d lm RT F pm_L_law n) (51, ((45 : Nat) : Int), ((2 : Nat) : Int), 184, [8]) L st h := run_s (by decide +kernel)
theorem r_L_law_184 : run E g mi_L_law d lm RT F pm_L_law (n + 1) 184 L st h = exI E d lm RT F (run E g mi_L_law d lm RT F pm_L_law n) (2, ((2 : Nat) : Int), 0, 185, []) L st h := run_s (by decide +kernel)
theorem r_L_law_185 : run E g mi_L_law d lm RT F pm_L_law (n + 1) 185 L st h = exI E d lm RT F (run E g mi_L_law d lm RT F pm_L_law n) (2, ((0 : Nat) : Int), 0, 186, []) L st h := run_s (by decide +kernel)
theorem r_L_law_186 : run E g mi_L_law d lm RT F pm_L_law (n + 1) 186 L st h = exI E d lm RT F (run E g mi_L_law d lm RT F pm_L_law n) (1, ((3 : Nat) : Int), 0, 187, []) L st h := run_s (by decide +kernel)
theorem r_L_law_187 : run E g mi_L_law d lm RT F pm_L_law (n + 1) 187 L st h = exI E d lm RT F (run E g mi_L_law d lm RT F pm_L_law n) (0, 1, 0, 188, []) L st h := run_s (by decide +kernel)
theorem r_L_law_188 : run E g mi_L_law d lm RT F pm_L_law (n + 1) 188 L st h = exI E d lm RT F (run E g mi_L_law d lm RT F pm_L_law n) (8, 0, 0, 189, []) L st h := run_s (by decide +kernel)
theorem r_L_law_189 : run E g mi_L_law d lm RT F pm_L_law (n + 1) 189 L st h = exI E d lm RT F (run E g mi_L_law d lm RT F pm_L_law n) (38, 0, 0, 190, []) L st h := run_s (by decide +kernel)
theorem r_L_law_190 : run E g mi_L_law d lm RT F pm_L_law (n + 1) 190 L st h = exI E d lm RT F (run E g mi_L_law d lm RT F pm_L_law n) (51, ((101 : Nat) : Int), ((2 : Nat) : Int), 193, [9]) L st h := run_s (by decide +kernel)
theorem r_L_law_193 : run E g mi_L_law d lm RT F pm_L_law (n + 1) 193 L st h = exI E d lm RT F (run E g mi_L_law d lm RT F pm_L_law n) (32, 0, ((805 : Nat) : Int), 196, []) L st h := run_s (by decide +kernel)
theorem r_L_law_196 : run E g mi_L_law d lm RT F pm_L_law (n + 1) 196 L st h = exI E d lm RT F (run E g mi_L_law d lm RT F pm_L_law n) (0, 0, 0, 197, []) L st h := run_s (by decide +kernel)
theorem r_L_law_197 : run E g mi_L_law d lm RT F pm_L_law (n + 1) 197 L st h = exI E d lm RT F (run E g mi_L_law d lm RT F pm_L_law n) (48, 1, 0, 0, []) L st h := run_s (by decide +kernel)
theorem r_L_law_198 : run E g mi_L_law d lm RT F pm_L_law (n + 1) 198 L st h = exI E d lm RT F (run E g mi_L_law d lm RT F pm_L_law n) (2, ((1 : Nat) : Int), 0, 199, []) L st h := run_s (by decide +kernel)
theorem r_L_law_199 : run E g mi_L_law d lm RT F pm_L_law (n + 1) 199 L st h = exI E d lm RT F (run E g mi_L_law d lm RT F pm_L_law n) (2, ((0 : Nat) : Int), 0, 200, []) L st h := run_s (by decide +kernel)
theorem r_L_law_200 : run E g mi_L_law d lm RT F pm_L_law (n + 1) 200 L st h = exI E d lm RT F (run E g mi_L_law d lm RT F pm_L_law n) (1, ((3 : Nat) : Int), 0, 201, []) L st h := run_s (by decide +kernel)
theorem r_L_law_201 : run E g mi_L_law d lm RT F pm_L_law (n + 1) 201 L st h = exI E d lm RT F (run E g mi_L_law d lm RT F pm_L_law n) (0, 1, 0, 202, []) L st h := run_s (by decide +kernel)
theorem r_L_law_202 : run E g mi_L_law d lm RT F pm_L_law (n + 1) 202 L st h = exI E d lm RT F (run E g mi_L_law d lm RT F pm_L_law n) (8, 0, 0, 203, []) L st h := run_s (by decide +kernel)
theorem r_L_law_203 : run E g mi_L_law d lm RT F pm_L_law (n + 1) 203 L st h = exI E d lm RT F (run E g mi_L_law d lm RT F pm_L_law n) (38, 0, 0, 204, []) L st h := run_s (by decide +kernel)
theorem r_L_law_204 : run E g mi_L_law d lm RT F pm_L_law (n + 1) 204 L st h = exI E d lm RT F (run E g mi_L_law d lm RT F pm_L_law n) (2, ((0 : Nat) : Int), 0, 205, []) L st h := run_s (by decide +kernel)
theorem r_L_law_205 : run E g mi_L_law d lm RT F pm_L_law (n + 1) 205 L st h = exI E d lm RT F (run E g mi_L_law d lm RT F pm_L_law n) (1, ((3 : Nat) : Int), 0, 206, []) L st h := run_s (by decide +kernel)
theorem r_L_law_206 : run E g mi_L_law d lm RT F pm_L_law (n + 1) 206 L st h = exI E d lm RT F (run E g mi_L_law d lm RT F pm_L_law n) (0, 2, 0, 207, []) L st h := run_s (by decide +kernel)
theorem r_L_law_207 : run E g mi_L_law d lm RT F pm_L_law (n + 1) 207 L st h = exI E d lm RT F (run E g mi_L_law d lm RT F pm_L_law n) (8, 0, 0, 208, []) L st h := run_s (by decide +kernel)
theorem r_L_law_208 : run E g mi_L_law d lm RT F pm_L_law (n + 1) 208 L st h = exI E d lm RT F (run E g mi_L_law d lm RT F pm_L_law n) (38, 0, 0, 209, []) L st h := run_s (by decide +kernel)
theorem r_L_law_209 : run E g mi_L_law d lm RT F pm_L_law (n + 1) 209 L st h = exI E d lm RT F (run E g mi_L_law d lm RT F pm_L_law n) (51, ((46 : Nat) : Int), ((3 : Nat) : Int), 212, [8]) L st h := run_s (by decide +kernel)
theorem r_L_law_212 : run E g mi_L_law d lm RT F pm_L_law (n + 1) 212 L st h = exI E d lm RT F (run E g mi_L_law d lm RT F pm_L_law n) (2, ((2 : Nat) : Int), 0, 213, []) L st h := run_s (by decide +kernel)
theorem r_L_law_213 : run E g mi_L_law d lm RT F pm_L_law (n + 1) 213 L st h = exI E d lm RT F (run E g mi_L_law d lm RT F pm_L_law n) (2, ((0 : Nat) : Int), 0, 214, []) L st h := run_s (by decide +kernel)
theorem r_L_law_214 : run E g mi_L_law d lm RT F pm_L_law (n + 1) 214 L st h = exI E d lm RT F (run E g mi_L_law d lm RT F pm_L_law n) (1, ((3 : Nat) : Int), 0, 215, []) L st h := run_s (by decide +kernel)
theorem r_L_law_215 : run E g mi_L_law d lm RT F pm_L_law (n + 1) 215 L st h = exI E d lm RT F (run E g mi_L_law d lm RT F pm_L_law n) (0, 1, 0, 216, []) L st h := run_s (by decide +kernel)
theorem r_L_law_216 : run E g mi_L_law d lm RT F pm_L_law (n + 1) 216 L st h = exI E d lm RT F (run E g mi_L_law d lm RT F pm_L_law n) (8, 0, 0, 217, []) L st h := run_s (by decide +kernel)
theorem r_L_law_217 : run E g mi_L_law d lm RT F pm_L_law (n + 1) 217 L st h = exI E d lm RT F (run E g mi_L_law d lm RT F pm_L_law n) (38, 0, 0, 218, []) L st h := run_s (by decide +kernel)
theorem r_L_law_218 : run E g mi_L_law d lm RT F pm_L_law (n + 1) 218 L st h = exI E d lm RT F (run E g mi_L_law d lm RT F pm_L_law n) (2, ((0 : Nat) : Int), 0, 219, []) L st h := run_s (by decide +kernel)
theorem r_L_law_219 : run E g mi_L_law d lm RT F pm_L_law (n + 1) 219 L st h = exI E d lm RT F (run E g mi_L_law d lm RT F pm_L_law n) (1, ((3 : Nat) : Int), 0, 220, []) L st h := run_s (by decide +kernel)
theorem r_L_law_220 : run E g mi_L_law d lm RT F pm_L_law (n + 1) 220 L st h = exI E d lm RT F (run E g mi_L_law d lm RT F pm_L_law n) (0, 2, 0, 221, []) L st h := run_s (by decide +kernel)
theorem r_L_law_221 : run E g mi_L_law d lm RT F pm_L_law (n + 1) 221 L st h = exI E d lm RT F (run E g mi_L_law d lm RT F pm_L_law n) (8, 0, 0, 222, []) L st h := run_s (by decide +kernel)
theorem r_L_law_222 : run E g mi_L_law d lm RT F pm_L_law (n + 1) 222 L st h = exI E d lm RT F (run E g mi_L_law d lm RT F pm_L_law n) (38, 0, 0, 223, []) L st h := run_s (by decide +kernel)
theorem r_L_law_223 : run E g mi_L_law d lm RT F pm_L_law (n + 1) 223 L st h = exI E d lm RT F (run E g mi_L_law d lm RT F pm_L_law n) (51, ((102 : Nat) : Int), ((3 : Nat) : Int), 226, [9]) L st h := run_s (by decide +kernel)
theorem r_L_law_226 : run E g mi_L_law d lm RT F pm_L_law (n + 1) 226 L st h = exI E d lm RT F (run E g mi_L_law d lm RT F pm_L_law n) (32, 0, ((805 : Nat) : Int), 229, []) L st h := run_s (by decide +kernel)
theorem r_L_law_229 : run E g mi_L_law d lm RT F pm_L_law (n + 1) 229 L st h = exI E d lm RT F (run E g mi_L_law d lm RT F pm_L_law n) (0, 0, 0, 230, []) L st h := run_s (by decide +kernel)
theorem r_L_law_230 : run E g mi_L_law d lm RT F pm_L_law (n + 1) 230 L st h = exI E d lm RT F (run E g mi_L_law d lm RT F pm_L_law n) (48, 1, 0, 0, []) L st h := run_s (by decide +kernel)
theorem r_L_law_231 : run E g mi_L_law d lm RT F pm_L_law (n + 1) 231 L st h = exI E d lm RT F (run E g mi_L_law d lm RT F pm_L_law n) (2, ((1 : Nat) : Int), 0, 232, []) L st h := run_s (by decide +kernel)
theorem r_L_law_232 : run E g mi_L_law d lm RT F pm_L_law (n + 1) 232 L st h = exI E d lm RT F (run E g mi_L_law d lm RT F pm_L_law n) (2, ((0 : Nat) : Int), 0, 233, []) L st h := run_s (by decide +kernel)
theorem r_L_law_233 : run E g mi_L_law d lm RT F pm_L_law (n + 1) 233 L st h = exI E d lm RT F (run E g mi_L_law d lm RT F pm_L_law n) (1, ((3 : Nat) : Int), 0, 234, []) L st h := run_s (by decide +kernel)
theorem r_L_law_234 : run E g mi_L_law d lm RT F pm_L_law (n + 1) 234 L st h = exI E d lm RT F (run E g mi_L_law d lm RT F pm_L_law n) (0, 1, 0, 235, []) L st h := run_s (by decide +kernel)
theorem r_L_law_235 : run E g mi_L_law d lm RT F pm_L_law (n + 1) 235 L st h = exI E d lm RT F (run E g mi_L_law d lm RT F pm_L_law n) (8, 0, 0, 236, []) L st h := run_s (by decide +kernel)
theorem r_L_law_236 : run E g mi_L_law d lm RT F pm_L_law (n + 1) 236 L st h = exI E d lm RT F (run E g mi_L_law d lm RT F pm_L_law n) (38, 0, 0, 237, []) L st h := run_s (by decide +kernel)
theorem r_L_law_237 : run E g mi_L_law d lm RT F pm_L_law (n + 1) 237 L st h = exI E d lm RT F (run E g mi_L_law d lm RT F pm_L_law n) (2, ((0 : Nat) : Int), 0, 238, []) L st h := run_s (by decide +kernel)
theorem r_L_law_238 : run E g mi_L_law d lm RT F pm_L_law (n + 1) 238 L st h = exI E d lm RT F (run E g mi_L_law d lm RT F pm_L_law n) (1, ((3 : Nat) : Int), 0, 239, []) L st h := run_s (by decide +kernel)
theorem r_L_law_239 : run E g mi_L_law d lm RT F pm_L_law (n + 1) 239 L st h = exI E d lm RT F (run E g mi_L_law d lm RT F pm_L_law n) (0, 2, 0, 240, []) L st h := run_s (by decide +kernel)
theorem r_L_law_240 : run E g mi_L_law d lm RT F pm_L_law (n + 1) 240 L st h = exI E d lm RT F (run E g mi_L_law d lm RT F pm_L_law n) (8, 0, 0, 241, []) L st h := run_s (by decide +kernel)
theorem r_L_law_241 : run E g mi_L_law d lm RT F pm_L_law (n + 1) 241 L st h = exI E d lm RT F (run E g mi_L_law d lm RT F pm_L_law n) (38, 0, 0, 242, []) L st h := run_s (by decide +kernel)
theorem r_L_law_242 : run E g mi_L_law d lm RT F pm_L_law (n + 1) 242 L st h = exI E d lm RT F (run E g mi_L_law d lm RT F pm_L_law n) (51, ((47 : Nat) : Int), ((3 : Nat) : Int), 245, [8]) L st h := run_s (by decide +kernel)
theorem r_L_law_245 : run E g mi_L_law d lm RT F pm_L_law (n + 1) 245 L st h = exI E d lm RT F (run E g mi_L_law d lm RT F pm_L_law n) (2, ((2 : Nat) : Int), 0, 246, []) L st h := run_s (by decide +kernel)
theorem r_L_law_246 : run E g mi_L_law d lm RT F pm_L_law (n + 1) 246 L st h = exI E d lm RT F (run E g mi_L_law d lm RT F pm_L_law n) (2, ((0 : Nat) : Int), 0, 247, []) L st h := run_s (by decide +kernel)
theorem r_L_law_247 : run E g mi_L_law d lm RT F pm_L_law (n + 1) 247 L st h = exI E d lm RT F (run E g mi_L_law d lm RT F pm_L_law n) (1, ((3 : Nat) : Int), 0, 248, []) L st h := run_s (by decide +kernel)
theorem r_L_law_248 : run E g mi_L_law d lm RT F pm_L_law (n + 1) 248 L st h = exI E d lm RT F (run E g mi_L_law d lm RT F pm_L_law n) (0, 1, 0, 249, []) L st h := run_s (by decide +kernel)
theorem r_L_law_249 : run E g mi_L_law d lm RT F pm_L_law (n + 1) 249 L st h = exI E d lm RT F (run E g mi_L_law d lm RT F pm_L_law n) (8, 0, 0, 250, []) L st h := run_s (by decide +kernel)
theorem r_L_law_250 : run E g mi_L_law d lm RT F pm_L_law (n + 1) 250 L st h = exI E d lm RT F (run E g mi_L_law d lm RT F pm_L_law n) (38, 0, 0, 251, []) L st h := run_s (by decide +kernel)
theorem r_L_law_251 : run E g mi_L_law d lm RT F pm_L_law (n + 1) 251 L st h = exI E d lm RT F (run E g mi_L_law d lm RT F pm_L_law n) (2, ((0 : Nat) : Int), 0, 252, []) L st h := run_s (by decide +kernel)
theorem r_L_law_252 : run E g mi_L_law d lm RT F pm_L_law (n + 1) 252 L st h = exI E d lm RT F (run E g mi_L_law d lm RT F pm_L_law n) (1, ((3 : Nat) : Int), 0, 253, []) L st h := run_s (by decide +kernel)
theorem r_L_law_253 : run E g mi_L_law d lm RT F pm_L_law (n + 1) 253 L st h = exI E d lm RT F (run E g mi_L_law d lm RT F pm_L_law n) (0, 2, 0, 254, []) L st h := run_s (by decide +kernel)
theorem r_L_law_254 : run E g mi_L_law d lm RT F pm_L_law (n + 1) 254 L st h = exI E d lm RT F (run E g mi_L_law d lm RT F pm_L_law n) (8, 0, 0, 255, []) L st h := run_s (by decide +kernel)
theorem r_L_law_255 : run E g mi_L_law d lm RT F pm_L_law (n + 1) 255 L st h = exI E d lm RT F (run E g mi_L_law d lm RT F pm_L_law n) (38, 0, 0, 256, []) L st h := run_s (by decide +kernel)
theorem r_L_law_256 : run E g mi_L_law d lm RT F pm_L_law (n + 1) 256 L st h = exI E d lm RT F (run E g mi_L_law d lm RT F pm_L_law n) (51, ((104 : Nat) : Int), ((3 : Nat) : Int), 259, [9]) L st h := run_s (by decide +kernel)
theorem r_L_law_259 : run E g mi_L_law d lm RT F pm_L_law (n + 1) 259 L st h = exI E d lm RT F (run E g mi_L_law d lm RT F pm_L_law n) (32, 0, ((805 : Nat) : Int), 262, []) L st h := run_s (by decide +kernel)
theorem r_L_law_262 : run E g mi_L_law d lm RT F pm_L_law (n + 1) 262 L st h = exI E d lm RT F (run E g mi_L_law d lm RT F pm_L_law n) (0, 0, 0, 263, []) L st h := run_s (by decide +kernel)
theorem r_L_law_263 : run E g mi_L_law d lm RT F pm_L_law (n + 1) 263 L st h = exI E d lm RT F (run E g mi_L_law d lm RT F pm_L_law n) (48, 1, 0, 0, []) L st h := run_s (by decide +kernel)
theorem r_L_law_264 : run E g mi_L_law d lm RT F pm_L_law (n + 1) 264 L st h = exI E d lm RT F (run E g mi_L_law d lm RT F pm_L_law n) (2, ((1 : Nat) : Int), 0, 265, []) L st h := run_s (by decide +kernel)
theorem r_L_law_265 : run E g mi_L_law d lm RT F pm_L_law (n + 1) 265 L st h = exI E d lm RT F (run E g mi_L_law d lm RT F pm_L_law n) (2, ((0 : Nat) : Int), 0, 266, []) L st h := run_s (by decide +kernel)
theorem r_L_law_266 : run E g mi_L_law d lm RT F pm_L_law (n + 1) 266 L st h = exI E d lm RT F (run E g mi_L_law d lm RT F pm_L_law n) (1, ((3 : Nat) : Int), 0, 267, []) L st h := run_s (by decide +kernel)
theorem r_L_law_267 : run E g mi_L_law d lm RT F pm_L_law (n + 1) 267 L st h = exI E d lm RT F (run E g mi_L_law d lm RT F pm_L_law n) (0, 1, 0, 268, []) L st h := run_s (by decide +kernel)
theorem r_L_law_268 : run E g mi_L_law d lm RT F pm_L_law (n + 1) 268 L st h = exI E d lm RT F (run E g mi_L_law d lm RT F pm_L_law n) (8, 0, 0, 269, []) L st h := run_s (by decide +kernel)
theorem r_L_law_269 : run E g mi_L_law d lm RT F pm_L_law (n + 1) 269 L st h = exI E d lm RT F (run E g mi_L_law d lm RT F pm_L_law n) (38, 0, 0, 270, []) L st h := run_s (by decide +kernel)
theorem r_L_law_270 : run E g mi_L_law d lm RT F pm_L_law (n + 1) 270 L st h = exI E d lm RT F (run E g mi_L_law d lm RT F pm_L_law n) (51, ((48 : Nat) : Int), ((2 : Nat) : Int), 273, [8]) L st h := run_s (by decide +kernel)
theorem r_L_law_273 : run E g mi_L_law d lm RT F pm_L_law (n + 1) 273 L st h = exI E d lm RT F (run E g mi_L_law d lm RT F pm_L_law n) (2, ((2 : Nat) : Int), 0, 274, []) L st h := run_s (by decide +kernel)
theorem r_L_law_274 : run E g mi_L_law d lm RT F pm_L_law (n + 1) 274 L st h = exI E d lm RT F (run E g mi_L_law d lm RT F pm_L_law n) (2, ((0 : Nat) : Int), 0, 275, []) L st h := run_s (by decide +kernel)
theorem r_L_law_275 : run E g mi_L_law d lm RT F pm_L_law (n + 1) 275 L st h = exI E d lm RT F (run E g mi_L_law d lm RT F pm_L_law n) (1, ((3 : Nat) : Int), 0, 276, []) L st h := run_s (by decide +kernel)
theorem r_L_law_276 : run E g mi_L_law d lm RT F pm_L_law (n + 1) 276 L st h = exI E d lm RT F (run E g mi_L_law d lm RT F pm_L_law n) (0, 1, 0, 277, []) L st h := run_s (by decide +kernel)
theorem r_L_law_277 : run E g mi_L_law d lm RT F pm_L_law (n + 1) 277 L st h = exI E d lm RT F (run E g mi_L_law d lm RT F pm_L_law n) (8, 0, 0, 278, []) L st h := run_s (by decide +kernel)
theorem r_L_law_278 : run E g mi_L_law d lm RT F pm_L_law (n + 1) 278 L st h = exI E d lm RT F (run E g mi_L_law d lm RT F pm_L_law n) (38, 0, 0, 279, []) L st h := run_s (by decide +kernel)
theorem r_L_law_279 : run E g mi_L_law d lm RT F pm_L_law (n + 1) 279 L st h = exI E d lm RT F (run E g mi_L_law d lm RT F pm_L_law n) (51, ((105 : Nat) : Int), ((2 : Nat) : Int), 282, [9]) L st h := run_s (by decide +kernel)
theorem r_L_law_282 : run E g mi_L_law d lm RT F pm_L_law (n + 1) 282 L st h = exI E d lm RT F (run E g mi_L_law d lm RT F pm_L_law n) (32, 0, ((805 : Nat) : Int), 285, []) L st h := run_s (by decide +kernel)
theorem r_L_law_285 : run E g mi_L_law d lm RT F pm_L_law (n + 1) 285 L st h = exI E d lm RT F (run E g mi_L_law d lm RT F pm_L_law n) (0, 0, 0, 286, []) L st h := run_s (by decide +kernel)
theorem r_L_law_286 : run E g mi_L_law d lm RT F pm_L_law (n + 1) 286 L st h = exI E d lm RT F (run E g mi_L_law d lm RT F pm_L_law n) (48, 1, 0, 0, []) L st h := run_s (by decide +kernel)
theorem r_L_law_287 : run E g mi_L_law d lm RT F pm_L_law (n + 1) 287 L st h = exI E d lm RT F (run E g mi_L_law d lm RT F pm_L_law n) (2, ((1 : Nat) : Int), 0, 288, []) L st h := run_s (by decide +kernel)
theorem r_L_law_288 : run E g mi_L_law d lm RT F pm_L_law (n + 1) 288 L st h = exI E d lm RT F (run E g mi_L_law d lm RT F pm_L_law n) (2, ((0 : Nat) : Int), 0, 289, []) L st h := run_s (by decide +kernel)
theorem r_L_law_289 : run E g mi_L_law d lm RT F pm_L_law (n + 1) 289 L st h = exI E d lm RT F (run E g mi_L_law d lm RT F pm_L_law n) (1, ((3 : Nat) : Int), 0, 290, []) L st h := run_s (by decide +kernel)
theorem r_L_law_290 : run E g mi_L_law d lm RT F pm_L_law (n + 1) 290 L st h = exI E d lm RT F (run E g mi_L_law d lm RT F pm_L_law n) (0, 1, 0, 291, []) L st h := run_s (by decide +kernel)
theorem r_L_law_291 : run E g mi_L_law d lm RT F pm_L_law (n + 1) 291 L st h = exI E d lm RT F (run E g mi_L_law d lm RT F pm_L_law n) (8, 0, 0, 292, []) L st h := run_s (by decide +kernel)
theorem r_L_law_292 : run E g mi_L_law d lm RT F pm_L_law (n + 1) 292 L st h = exI E d lm RT F (run E g mi_L_law d lm RT F pm_L_law n) (38, 0, 0, 293, []) L st h := run_s (by decide +kernel)
theorem r_L_law_293 : run E g mi_L_law d lm RT F pm_L_law (n + 1) 293 L st h = exI E d lm RT F (run E g mi_L_law d lm RT F pm_L_law n) (2, ((0 : Nat) : Int), 0, 294, []) L st h := run_s (by decide +kernel)
theorem r_L_law_294 : run E g mi_L_law d lm RT F pm_L_law (n + 1) 294 L st h = exI E d lm RT F (run E g mi_L_law d lm RT F pm_L_law n) (1, ((3 : Nat) : Int), 0, 295, []) L st h := run_s (by decide +kernel)
theorem r_L_law_295 : run E g mi_L_law d lm RT F pm_L_law (n + 1) 295 L st h = exI E d lm RT F (run E g mi_L_law d lm RT F pm_L_law n) (0, 2, 0, 296, []) L st h := run_s (by decide +kernel)
theorem r_L_law_296 : run E g mi_L_law d lm RT F pm_L_law (n + 1) 296 L st h = exI E d lm RT F (run E g mi_L_law d lm RT F pm_L_law n) (8, 0, 0, 297, []) L st h := run_s (by decide +kernel)
theorem r_L_law_297 : run E g mi_L_law d lm RT F pm_L_law (n + 1) 297 L st h = exI E d lm RT F (run E g mi_L_law d lm RT F pm_L_law n) (38, 0, 0, 298, []) L st h := run_s (by decide +kernel)
theorem r_L_law_298 : run E g mi_L_law d lm RT F pm_L_law (n + 1) 298 L st h = exI E d lm RT F (run E g mi_L_law d lm RT F pm_L_law n) (2, ((0 : Nat) : Int), 0, 299, []) L st h := run_s (by decide +kernel)
theorem r_L_law_299 : run E g mi_L_law d lm RT F pm_L_law (n + 1) 299 L st h = exI E d lm RT F (run E g mi_L_law d lm RT F pm_L_law n) (1, ((3 : Nat) : Int), 0, 300, []) L st h := run_s (by decide +kernel)
theorem r_L_law_300 : run E g mi_L_law d lm RT F pm_L_law (n + 1) 300 L st h = exI E d lm RT F (run E g mi_L_law d lm RT F pm_L_law n) (0, 3, 0, 301, []) L st h := run_s (by decide +kernel)
theorem r_L_law_301 : run E g mi_L_law d lm RT F pm_L_law (n + 1) 301 L st h = exI E d lm RT F (run E g mi_L_law d lm RT F pm_L_law n) (8, 0, 0, 302, []) L st h := run_s (by decide +kernel)
theorem r_L_law_302 : run E g mi_L_law d lm RT F pm_L_law (n + 1) 302 L st h = exI E d lm RT F (run E g mi_L_law d lm RT F pm_L_law n) (38, 0, 0, 303, []) L st h := run_s (by decide +kernel)
theorem r_L_law_303 : run E g mi_L_law d lm RT F pm_L_law (n + 1) 303 L st h = exI E d lm RT F (run E g mi_L_law d lm RT F pm_L_law n) (51, ((49 : Nat) : Int), ((4 : Nat) : Int), 306, [8]) L st h := run_s (by decide +kernel)
theorem r_L_law_306 : run E g mi_L_law d lm RT F pm_L_law (n + 1) 306 L st h = exI E d lm RT F (run E g mi_L_law d lm RT F pm_L_law n) (2, ((2 : Nat) : Int), 0, 307, []) L st h := run_s (by decide +kernel)
theorem r_L_law_307 : run E g mi_L_law d lm RT F pm_L_law (n + 1) 307 L st h = exI E d lm RT F (run E g mi_L_law d lm RT F pm_L_law n) (2, ((0 : Nat) : Int), 0, 308, []) L st h := run_s (by decide +kernel)
theorem r_L_law_308 : run E g mi_L_law d lm RT F pm_L_law (n + 1) 308 L st h = exI E d lm RT F (run E g mi_L_law d lm RT F pm_L_law n) (1, ((3 : Nat) : Int), 0, 309, []) L st h := run_s (by decide +kernel)
theorem r_L_law_309 : run E g mi_L_law d lm RT F pm_L_law (n + 1) 309 L st h = exI E d lm RT F (run E g mi_L_law d lm RT F pm_L_law n) (0, 1, 0, 310, []) L st h := run_s (by decide +kernel)
theorem r_L_law_310 : run E g mi_L_law d lm RT F pm_L_law (n + 1) 310 L st h = exI E d lm RT F (run E g mi_L_law d lm RT F pm_L_law n) (8, 0, 0, 311, []) L st h := run_s (by decide +kernel)
theorem r_L_law_311 : run E g mi_L_law d lm RT F pm_L_law (n + 1) 311 L st h = exI E d lm RT F (run E g mi_L_law d lm RT F pm_L_law n) (38, 0, 0, 312, []) L st h := run_s (by decide +kernel)
theorem r_L_law_312 : run E g mi_L_law d lm RT F pm_L_law (n + 1) 312 L st h = exI E d lm RT F (run E g mi_L_law d lm RT F pm_L_law n) (2, ((0 : Nat) : Int), 0, 313, []) L st h := run_s (by decide +kernel)
theorem r_L_law_313 : run E g mi_L_law d lm RT F pm_L_law (n + 1) 313 L st h = exI E d lm RT F (run E g mi_L_law d lm RT F pm_L_law n) (1, ((3 : Nat) : Int), 0, 314, []) L st h := run_s (by decide +kernel)
theorem r_L_law_314 : run E g mi_L_law d lm RT F pm_L_law (n + 1) 314 L st h = exI E d lm RT F (run E g mi_L_law d lm RT F pm_L_law n) (0, 2, 0, 315, []) L st h := run_s (by decide +kernel)
theorem r_L_law_315 : run E g mi_L_law d lm RT F pm_L_law (n + 1) 315 L st h = exI E d lm RT F (run E g mi_L_law d lm RT F pm_L_law n) (8, 0, 0, 316, []) L st h := run_s (by decide +kernel)
theorem r_L_law_316 : run E g mi_L_law d lm RT F pm_L_law (n + 1) 316 L st h = exI E d lm RT F (run E g mi_L_law d lm RT F pm_L_law n) (38, 0, 0, 317, []) L st h := run_s (by decide +kernel)
theorem r_L_law_317 : run E g mi_L_law d lm RT F pm_L_law (n + 1) 317 L st h = exI E d lm RT F (run E g mi_L_law d lm RT F pm_L_law n) (2, ((0 : Nat) : Int), 0, 318, []) L st h := run_s (by decide +kernel)
theorem r_L_law_318 : run E g mi_L_law d lm RT F pm_L_law (n + 1) 318 L st h = exI E d lm RT F (run E g mi_L_law d lm RT F pm_L_law n) (1, ((3 : Nat) : Int), 0, 319, []) L st h := run_s (by decide +kernel)
theorem r_L_law_319 : run E g mi_L_law d lm RT F pm_L_law (n + 1) 319 L st h = exI E d lm RT F (run E g mi_L_law d lm RT F pm_L_law n) (0, 3, 0, 320, []) L st h := run_s (by decide +kernel)
theorem r_L_law_320 : run E g mi_L_law d lm RT F pm_L_law (n + 1) 320 L st h = exI E d lm RT F (run E g mi_L_law d lm RT F pm_L_law n) (8, 0, 0, 321, []) L st h := run_s (by decide +kernel)
theorem r_L_law_321 : run E g mi_L_law d lm RT F pm_L_law (n + 1) 321 L st h = exI E d lm RT F (run E g mi_L_law d lm RT F pm_L_law n) (38, 0, 0, 322, []) L st h := run_s (by decide +kernel)
theorem r_L_law_322 : run E g mi_L_law d lm RT F pm_L_law (n + 1) 322 L st h = exI E d lm RT F (run E g mi_L_law d lm RT F pm_L_law n) (51, ((106 : Nat) : Int), ((4 : Nat) : Int), 325, [9]) L st h := run_s (by decide +kernel)
theorem r_L_law_325 : run E g mi_L_law d lm RT F pm_L_law (n + 1) 325 L st h = exI E d lm RT F (run E g mi_L_law d lm RT F pm_L_law n) (32, 0, ((805 : Nat) : Int), 328, []) L st h := run_s (by decide +kernel)
theorem r_L_law_328 : run E g mi_L_law d lm RT F pm_L_law (n + 1) 328 L st h = exI E d lm RT F (run E g mi_L_law d lm RT F pm_L_law n) (0, 0, 0, 329, []) L st h := run_s (by decide +kernel)
theorem r_L_law_329 : run E g mi_L_law d lm RT F pm_L_law (n + 1) 329 L st h = exI E d lm RT F (run E g mi_L_law d lm RT F pm_L_law n) (48, 1, 0, 0, []) L st h := run_s (by decide +kernel)
theorem r_L_law_330 : run E g mi_L_law d lm RT F pm_L_law (n + 1) 330 L st h = exI E d lm RT F (run E g mi_L_law d lm RT F pm_L_law n) (2, ((1 : Nat) : Int), 0, 331, []) L st h := run_s (by decide +kernel)
theorem r_L_law_331 : run E g mi_L_law d lm RT F pm_L_law (n + 1) 331 L st h = exI E d lm RT F (run E g mi_L_law d lm RT F pm_L_law n) (2, ((0 : Nat) : Int), 0, 332, []) L st h := run_s (by decide +kernel)
theorem r_L_law_332 : run E g mi_L_law d lm RT F pm_L_law (n + 1) 332 L st h = exI E d lm RT F (run E g mi_L_law d lm RT F pm_L_law n) (1, ((3 : Nat) : Int), 0, 333, []) L st h := run_s (by decide +kernel)
theorem r_L_law_333 : run E g mi_L_law d lm RT F pm_L_law (n + 1) 333 L st h = exI E d lm RT F (run E g mi_L_law d lm RT F pm_L_law n) (0, 1, 0, 334, []) L st h := run_s (by decide +kernel)
theorem r_L_law_334 : run E g mi_L_law d lm RT F pm_L_law (n + 1) 334 L st h = exI E d lm RT F (run E g mi_L_law d lm RT F pm_L_law n) (8, 0, 0, 335, []) L st h := run_s (by decide +kernel)
theorem r_L_law_335 : run E g mi_L_law d lm RT F pm_L_law (n + 1) 335 L st h = exI E d lm RT F (run E g mi_L_law d lm RT F pm_L_law n) (38, 0, 0, 336, []) L st h := run_s (by decide +kernel)
theorem r_L_law_336 : run E g mi_L_law d lm RT F pm_L_law (n + 1) 336 L st h = exI E d lm RT F (run E g mi_L_law d lm RT F pm_L_law n) (51, ((50 : Nat) : Int), ((2 : Nat) : Int), 339, [8]) L st h := run_s (by decide +kernel)
theorem r_L_law_339 : run E g mi_L_law d lm RT F pm_L_law (n + 1) 339 L st h = exI E d lm RT F (run E g mi_L_law d lm RT F pm_L_law n) (2, ((2 : Nat) : Int), 0, 340, []) L st h := run_s (by decide +kernel)
theorem r_L_law_340 : run E g mi_L_law d lm RT F pm_L_law (n + 1) 340 L st h = exI E d lm RT F (run E g mi_L_law d lm RT F pm_L_law n) (2, ((0 : Nat) : Int), 0, 341, []) L st h := run_s (by decide +kernel)
theorem r_L_law_341 : run E g mi_L_law d lm RT F pm_L_law (n + 1) 341 L st h = exI E d lm RT F (run E g mi_L_law d lm RT F pm_L_law n) (1, ((3 : Nat) : Int), 0, 342, []) L st h := run_s (by decide +kernel)
theorem r_L_law_342 : run E g mi_L_law d lm RT F pm_L_law (n + 1) 342 L st h = exI E d lm RT F (run E g mi_L_law d lm RT F pm_L_law n) (0, 1, 0, 343, []) L st h := run_s (by decide +kernel)
theorem r_L_law_343 : run E g mi_L_law d lm RT F pm_L_law (n + 1) 343 L st h = exI E d lm RT F (run E g mi_L_law d lm RT F pm_L_law n) (8, 0, 0, 344, []) L st h := run_s (by decide +kernel)
theorem r_L_law_344 : run E g mi_L_law d lm RT F pm_L_law (n + 1) 344 L st h = exI E d lm RT F (run E g mi_L_law d lm RT F pm_L_law n) (38, 0, 0, 345, []) L st h := run_s (by decide +kernel)
theorem r_L_law_345 : run E g mi_L_law d lm RT F pm_L_law (n + 1) 345 L st h = exI E d lm RT F (run E g mi_L_law d lm RT F pm_L_law n) (51, ((107 : Nat) : Int), ((2 : Nat) : Int), 348, [9]) L st h := run_s (by decide +kernel)
theorem r_L_law_348 : run E g mi_L_law d lm RT F pm_L_law (n + 1) 348 L st h = exI E d lm RT F (run E g mi_L_law d lm RT F pm_L_law n) (32, 0, ((805 : Nat) : Int), 351, []) L st h := run_s (by decide +kernel)
theorem r_L_law_351 : run E g mi_L_law d lm RT F pm_L_law (n + 1) 351 L st h = exI E d lm RT F (run E g mi_L_law d lm RT F pm_L_law n) (0, 0, 0, 352, []) L st h := run_s (by decide +kernel)
theorem r_L_law_352 : run E g mi_L_law d lm RT F pm_L_law (n + 1) 352 L st h = exI E d lm RT F (run E g mi_L_law d lm RT F pm_L_law n) (48, 1, 0, 0, []) L st h := run_s (by decide +kernel)
theorem r_L_law_353 : run E g mi_L_law d lm RT F pm_L_law (n + 1) 353 L st h = exI E d lm RT F (run E g mi_L_law d lm RT F pm_L_law n) (2, ((1 : Nat) : Int), 0, 354, []) L st h := run_s (by decide +kernel)
theorem r_L_law_354 : run E g mi_L_law d lm RT F pm_L_law (n + 1) 354 L st h = exI E d lm RT F (run E g mi_L_law d lm RT F pm_L_law n) (2, ((0 : Nat) : Int), 0, 355, []) L st h := run_s (by decide +kernel)
theorem r_L_law_355 : run E g mi_L_law d lm RT F pm_L_law (n + 1) 355 L st h = exI E d lm RT F (run E g mi_L_law d lm RT F pm_L_law n) (1, ((3 : Nat) : Int), 0, 356, []) L st h := run_s (by decide +kernel)
theorem r_L_law_356 : run E g mi_L_law d lm RT F pm_L_law (n + 1) 356 L st h = exI E d lm RT F (run E g mi_L_law d lm RT F pm_L_law n) (0, 1, 0, 357, []) L st h := run_s (by decide +kernel)
theorem r_L_law_357 : run E g mi_L_law d lm RT F pm_L_law (n + 1) 357 L st h = exI E d lm RT F (run E g mi_L_law d lm RT F pm_L_law n) (8, 0, 0, 358, []) L st h := run_s (by decide +kernel)
theorem r_L_law_358 : run E g mi_L_law d lm RT F pm_L_law (n + 1) 358 L st h = exI E d lm RT F (run E g mi_L_law d lm RT F pm_L_law n) (38, 0, 0, 359, []) L st h := run_s (by decide +kernel)
theorem r_L_law_359 : run E g mi_L_law d lm RT F pm_L_law (n + 1) 359 L st h = exI E d lm RT F (run E g mi_L_law d lm RT F pm_L_law n) (51, ((51 : Nat) : Int), ((2 : Nat) : Int), 362, [8]) L st h := run_s (by decide +kernel)
theorem r_L_law_362 : run E g mi_L_law d lm RT F pm_L_law (n + 1) 362 L st h = exI E d lm RT F (run E g mi_L_law d lm RT F pm_L_law n) (2, ((2 : Nat) : Int), 0, 363, []) L st h := run_s (by decide +kernel)
theorem r_L_law_363 : run E g mi_L_law d lm RT F pm_L_law (n + 1) 363 L st h = exI E d lm RT F (run E g mi_L_law d lm RT F pm_L_law n) (2, ((0 : Nat) : Int), 0, 364, []) L st h := run_s (by decide +kernel)
theorem r_L_law_364 : run E g mi_L_law d lm RT F pm_L_law (n + 1) 364 L st h = exI E d lm RT F (run E g mi_L_law d lm RT F pm_L_law n) (1, ((3 : Nat) : Int), 0, 365, []) L st h := run_s (by decide +kernel)
theorem r_L_law_365 : run E g mi_L_law d lm RT F pm_L_law (n + 1) 365 L st h = exI E d lm RT F (run E g mi_L_law d lm RT F pm_L_law n) (0, 1, 0, 366, []) L st h := run_s (by decide +kernel)
theorem r_L_law_366 : run E g mi_L_law d lm RT F pm_L_law (n + 1) 366 L st h = exI E d lm RT F (run E g mi_L_law d lm RT F pm_L_law n) (8, 0, 0, 367, []) L st h := run_s (by decide +kernel)
theorem r_L_law_367 : run E g mi_L_law d lm RT F pm_L_law (n + 1) 367 L st h = exI E d lm RT F (run E g mi_L_law d lm RT F pm_L_law n) (38, 0, 0, 368, []) L st h := run_s (by decide +kernel)
theorem r_L_law_368 : run E g mi_L_law d lm RT F pm_L_law (n + 1) 368 L st h = exI E d lm RT F (run E g mi_L_law d lm RT F pm_L_law n) (51, ((108 : Nat) : Int), ((2 : Nat) : Int), 371, [9]) L st h := run_s (by decide +kernel)
theorem r_L_law_371 : run E g mi_L_law d lm RT F pm_L_law (n + 1) 371 L st h = exI E d lm RT F (run E g mi_L_law d lm RT F pm_L_law n) (32, 0, ((805 : Nat) : Int), 374, []) L st h := run_s (by decide +kernel)
theorem r_L_law_374 : run E g mi_L_law d lm RT F pm_L_law (n + 1) 374 L st h = exI E d lm RT F (run E g mi_L_law d lm RT F pm_L_law n) (0, 0, 0, 375, []) L st h := run_s (by decide +kernel)
theorem r_L_law_375 : run E g mi_L_law d lm RT F pm_L_law (n + 1) 375 L st h = exI E d lm RT F (run E g mi_L_law d lm RT F pm_L_law n) (48, 1, 0, 0, []) L st h := run_s (by decide +kernel)
theorem r_L_law_376 : run E g mi_L_law d lm RT F pm_L_law (n + 1) 376 L st h = exI E d lm RT F (run E g mi_L_law d lm RT F pm_L_law n) (2, ((1 : Nat) : Int), 0, 377, []) L st h := run_s (by decide +kernel)
theorem r_L_law_377 : run E g mi_L_law d lm RT F pm_L_law (n + 1) 377 L st h = exI E d lm RT F (run E g mi_L_law d lm RT F pm_L_law n) (2, ((0 : Nat) : Int), 0, 378, []) L st h := run_s (by decide +kernel)
theorem r_L_law_378 : run E g mi_L_law d lm RT F pm_L_law (n + 1) 378 L st h = exI E d lm RT F (run E g mi_L_law d lm RT F pm_L_law n) (1, ((3 : Nat) : Int), 0, 379, []) L st h := run_s (by decide +kernel)
theorem r_L_law_379 : run E g mi_L_law d lm RT F pm_L_law (n + 1) 379 L st h = exI E d lm RT F (run E g mi_L_law d lm RT F pm_L_law n) (0, 1, 0, 380, []) L st h := run_s (by decide +kernel)
theorem r_L_law_380 : run E g mi_L_law d lm RT F pm_L_law (n + 1) 380 L st h = exI E d lm RT F (run E g mi_L_law d lm RT F pm_L_law n) (8, 0, 0, 381, []) L st h := run_s (by decide +kernel)
theorem r_L_law_381 : run E g mi_L_law d lm RT F pm_L_law (n + 1) 381 L st h = exI E d lm RT F (run E g mi_L_law d lm RT F pm_L_law n) (38, 0, 0, 382, []) L st h := run_s (by decide +kernel)
theorem r_L_law_382 : run E g mi_L_law d lm RT F pm_L_law (n + 1) 382 L st h = exI E d lm RT F (run E g mi_L_law d lm RT F pm_L_law n) (51, ((52 : Nat) : Int), ((2 : Nat) : Int), 385, [8]) L st h := run_s (by decide +kernel)
theorem r_L_law_385 : run E g mi_L_law d lm RT F pm_L_law (n + 1) 385 L st h = exI E d lm RT F (run E g mi_L_law d lm RT F pm_L_law n) (2, ((2 : Nat) : Int), 0, 386, []) L st h := run_s (by decide +kernel)
theorem r_L_law_386 : run E g mi_L_law d lm RT F pm_L_law (n + 1) 386 L st h = exI E d lm RT F (run E g mi_L_law d lm RT F pm_L_law n) (2, ((0 : Nat) : Int), 0, 387, []) L st h := run_s (by decide +kernel)
theorem r_L_law_387 : run E g mi_L_law d lm RT F pm_L_law (n + 1) 387 L st h = exI E d lm RT F (run E g mi_L_law d lm RT F pm_L_law n) (1, ((3 : Nat) : Int), 0, 388, []) L st h := run_s (by decide +kernel)
theorem r_L_law_388 : run E g mi_L_law d lm RT F pm_L_law (n + 1) 388 L st h = exI E d lm RT F (run E g mi_L_law d lm RT F pm_L_law n) (0, 1, 0, 389, []) L st h := run_s (by decide +kernel)
theorem r_L_law_389 : run E g mi_L_law d lm RT F pm_L_law (n + 1) 389 L st h = exI E d lm RT F (run E g mi_L_law d lm RT F pm_L_law n) (8, 0, 0, 390, []) L st h := run_s (by decide +kernel)
theorem r_L_law_390 : run E g mi_L_law d lm RT F pm_L_law (n + 1) 390 L st h = exI E d lm RT F (run E g mi_L_law d lm RT F pm_L_law n) (38, 0, 0, 391, []) L st h := run_s (by decide +kernel)
theorem r_L_law_391 : run E g mi_L_law d lm RT F pm_L_law (n + 1) 391 L st h = exI E d lm RT F (run E g mi_L_law d lm RT F pm_L_law n) (51, ((114 : Nat) : Int), ((2 : Nat) : Int), 394, [9]) L st h := run_s (by decide +kernel)
theorem r_L_law_394 : run E g mi_L_law d lm RT F pm_L_law (n + 1) 394 L st h = exI E d lm RT F (run E g mi_L_law d lm RT F pm_L_law n) (32, 0, ((805 : Nat) : Int), 397, []) L st h := run_s (by decide +kernel)
theorem r_L_law_397 : run E g mi_L_law d lm RT F pm_L_law (n + 1) 397 L st h = exI E d lm RT F (run E g mi_L_law d lm RT F pm_L_law n) (0, 0, 0, 398, []) L st h := run_s (by decide +kernel)
theorem r_L_law_398 : run E g mi_L_law d lm RT F pm_L_law (n + 1) 398 L st h = exI E d lm RT F (run E g mi_L_law d lm RT F pm_L_law n) (48, 1, 0, 0, []) L st h := run_s (by decide +kernel)
theorem r_L_law_399 : run E g mi_L_law d lm RT F pm_L_law (n + 1) 399 L st h = exI E d lm RT F (run E g mi_L_law d lm RT F pm_L_law n) (2, ((1 : Nat) : Int), 0, 400, []) L st h := run_s (by decide +kernel)
theorem r_L_law_400 : run E g mi_L_law d lm RT F pm_L_law (n + 1) 400 L st h = exI E d lm RT F (run E g mi_L_law d lm RT F pm_L_law n) (2, ((0 : Nat) : Int), 0, 401, []) L st h := run_s (by decide +kernel)
theorem r_L_law_401 : run E g mi_L_law d lm RT F pm_L_law (n + 1) 401 L st h = exI E d lm RT F (run E g mi_L_law d lm RT F pm_L_law n) (1, ((3 : Nat) : Int), 0, 402, []) L st h := run_s (by decide +kernel)
theorem r_L_law_402 : run E g mi_L_law d lm RT F pm_L_law (n + 1) 402 L st h = exI E d lm RT F (run E g mi_L_law d lm RT F pm_L_law n) (0, 1, 0, 403, []) L st h := run_s (by decide +kernel)
theorem r_L_law_403 : run E g mi_L_law d lm RT F pm_L_law (n + 1) 403 L st h = exI E d lm RT F (run E g mi_L_law d lm RT F pm_L_law n) (8, 0, 0, 404, []) L st h := run_s (by decide +kernel)
theorem r_L_law_404 : run E g mi_L_law d lm RT F pm_L_law (n + 1) 404 L st h = exI E d lm RT F (run E g mi_L_law d lm RT F pm_L_law n) (38, 0, 0, 405, []) L st h := run_s (by decide +kernel)
theorem r_L_law_405 : run E g mi_L_law d lm RT F pm_L_law (n + 1) 405 L st h = exI E d lm RT F (run E g mi_L_law d lm RT F pm_L_law n) (2, ((0 : Nat) : Int), 0, 406, []) L st h := run_s (by decide +kernel)
theorem r_L_law_406 : run E g mi_L_law d lm RT F pm_L_law (n + 1) 406 L st h = exI E d lm RT F (run E g mi_L_law d lm RT F pm_L_law n) (1, ((3 : Nat) : Int), 0, 407, []) L st h := run_s (by decide +kernel)
theorem r_L_law_407 : run E g mi_L_law d lm RT F pm_L_law (n + 1) 407 L st h = exI E d lm RT F (run E g mi_L_law d lm RT F pm_L_law n) (0, 2, 0, 408, []) L st h := run_s (by decide +kernel)
theorem r_L_law_408 : run E g mi_L_law d lm RT F pm_L_law (n + 1) 408 L st h = exI E d lm RT F (run E g mi_L_law d lm RT F pm_L_law n) (8, 0, 0, 409, []) L st h := run_s (by decide +kernel)
theorem r_L_law_409 : run E g mi_L_law d lm RT F pm_L_law (n + 1) 409 L st h = exI E d lm RT F (run E g mi_L_law d lm RT F pm_L_law n) (38, 0, 0, 410, []) L st h := run_s (by decide +kernel)
theorem r_L_law_410 : run E g mi_L_law d lm RT F pm_L_law (n + 1) 410 L st h = exI E d lm RT F (run E g mi_L_law d lm RT F pm_L_law n) (2, ((0 : Nat) : Int), 0, 411, []) L st h := run_s (by decide +kernel)
theorem r_L_law_411 : run E g mi_L_law d lm RT F pm_L_law (n + 1) 411 L st h = exI E d lm RT F (run E g mi_L_law d lm RT F pm_L_law n) (1, ((3 : Nat) : Int), 0, 412, []) L st h := run_s (by decide +kernel)
theorem r_L_law_412 : run E g mi_L_law d lm RT F pm_L_law (n + 1) 412 L st h = exI E d lm RT F (run E g mi_L_law d lm RT F pm_L_law n) (0, 3, 0, 413, []) L st h := run_s (by decide +kernel)
theorem r_L_law_413 : run E g mi_L_law d lm RT F pm_L_law (n + 1) 413 L st h = exI E d lm RT F (run E g mi_L_law d lm RT F pm_L_law n) (8, 0, 0, 414, []) L st h := run_s (by decide +kernel)
theorem r_L_law_414 : run E g mi_L_law d lm RT F pm_L_law (n + 1) 414 L st h = exI E d lm RT F (run E g mi_L_law d lm RT F pm_L_law n) (38, 0, 0, 415, []) L st h := run_s (by decide +kernel)
theorem r_L_law_415 : run E g mi_L_law d lm RT F pm_L_law (n + 1) 415 L st h = exI E d lm RT F (run E g mi_L_law d lm RT F pm_L_law n) (2, ((0 : Nat) : Int), 0, 416, []) L st h := run_s (by decide +kernel)
theorem r_L_law_416 : run E g mi_L_law d lm RT F pm_L_law (n + 1) 416 L st h = exI E d lm RT F (run E g mi_L_law d lm RT F pm_L_law n) (1, ((3 : Nat) : Int), 0, 417, []) L st h := run_s (by decide +kernel)
theorem r_L_law_417 : run E g mi_L_law d lm RT F pm_L_law (n + 1) 417 L st h = exI E d lm RT F (run E g mi_L_law d lm RT F pm_L_law n) (0, 4, 0, 418, []) L st h := run_s (by decide +kernel)
theorem r_L_law_418 : run E g mi_L_law d lm RT F pm_L_law (n + 1) 418 L st h = exI E d lm RT F (run E g mi_L_law d lm RT F pm_L_law n) (8, 0, 0, 419, []) L st h := run_s (by decide +kernel)
theorem r_L_law_419 : run E g mi_L_law d lm RT F pm_L_law (n + 1) 419 L st h = exI E d lm RT F (run E g mi_L_law d lm RT F pm_L_law n) (38, 0, 0, 420, []) L st h := run_s (by decide +kernel)
theorem r_L_law_420 : run E g mi_L_law d lm RT F pm_L_law (n + 1) 420 L st h = exI E d lm RT F (run E g mi_L_law d lm RT F pm_L_law n) (51, ((53 : Nat) : Int), ((5 : Nat) : Int), 423, [8]) L st h := run_s (by decide +kernel)
theorem r_L_law_423 : run E g mi_L_law d lm RT F pm_L_law (n + 1) 423 L st h = exI E d lm RT F (run E g mi_L_law d lm RT F pm_L_law n) (2, ((2 : Nat) : Int), 0, 424, []) L st h := run_s (by decide +kernel)
theorem r_L_law_424 : run E g mi_L_law d lm RT F pm_L_law (n + 1) 424 L st h = exI E d lm RT F (run E g mi_L_law d lm RT F pm_L_law n) (2, ((0 : Nat) : Int), 0, 425, []) L st h := run_s (by decide +kernel)
theorem r_L_law_425 : run E g mi_L_law d lm RT F pm_L_law (n + 1) 425 L st h = exI E d lm RT F (run E g mi_L_law d lm RT F pm_L_law n) (1, ((3 : Nat) : Int), 0, 426, []) L st h := run_s (by decide +kernel)
theorem r_L_law_426 : run E g mi_L_law d lm RT F pm_L_law (n + 1) 426 L st h = exI E d lm RT F (run E g mi_L_law d lm RT F pm_L_law n) (0, 1, 0, 427, []) L st h := run_s (by decide +kernel)
theorem r_L_law_427 : run E g mi_L_law d lm RT F pm_L_law (n + 1) 427 L st h = exI E d lm RT F (run E g mi_L_law d lm RT F pm_L_law n) (8, 0, 0, 428, []) L st h := run_s (by decide +kernel)
theorem r_L_law_428 : run E g mi_L_law d lm RT F pm_L_law (n + 1) 428 L st h = exI E d lm RT F (run E g mi_L_law d lm RT F pm_L_law n) (38, 0, 0, 429, []) L st h := run_s (by decide +kernel)
theorem r_L_law_429 : run E g mi_L_law d lm RT F pm_L_law (n + 1) 429 L st h = exI E d lm RT F (run E g mi_L_law d lm RT F pm_L_law n) (2, ((0 : Nat) : Int), 0, 430, []) L st h := run_s (by decide +kernel)
theorem r_L_law_430 : run E g mi_L_law d lm RT F pm_L_law (n + 1) 430 L st h = exI E d lm RT F (run E g mi_L_law d lm RT F pm_L_law n) (1, ((3 : Nat) : Int), 0, 431, []) L st h := run_s (by decide +kernel)
theorem r_L_law_431 : run E g mi_L_law d lm RT F pm_L_law (n + 1) 431 L st h = exI E d lm RT F (run E g mi_L_law d lm RT F pm_L_law n) (0, 2, 0, 432, []) L st h := run_s (by decide +kernel)
theorem r_L_law_432 : run E g mi_L_law d lm RT F pm_L_law (n + 1) 432 L st h = exI E d lm RT F (run E g mi_L_law d lm RT F pm_L_law n) (8, 0, 0, 433, []) L st h := run_s (by decide +kernel)
theorem r_L_law_433 : run E g mi_L_law d lm RT F pm_L_law (n + 1) 433 L st h = exI E d lm RT F (run E g mi_L_law d lm RT F pm_L_law n) (38, 0, 0, 434, []) L st h := run_s (by decide +kernel)
theorem r_L_law_434 : run E g mi_L_law d lm RT F pm_L_law (n + 1) 434 L st h = exI E d lm RT F (run E g mi_L_law d lm RT F pm_L_law n) (2, ((0 : Nat) : Int), 0, 435, []) L st h := run_s (by decide +kernel)
theorem r_L_law_435 : run E g mi_L_law d lm RT F pm_L_law (n + 1) 435 L st h = exI E d lm RT F (run E g mi_L_law d lm RT F pm_L_law n) (1, ((3 : Nat) : Int), 0, 436, []) L st h := run_s (by decide +kernel)
theorem r_L_law_436 : run E g mi_L_law d lm RT F pm_L_law (n + 1) 436 L st h = exI E d lm RT F (run E g mi_L_law d lm RT F pm_L_law n) (0, 3, 0, 437, []) L st h := run_s (by decide +kernel)
theorem r_L_law_437 : run E g mi_L_law d lm RT F pm_L_law (n + 1) 437 L st h = exI E d lm RT F (run E g mi_L_law d lm RT F pm_L_law n) (8, 0, 0, 438, []) L st h := run_s (by decide +kernel)
theorem r_L_law_438 : run E g mi_L_law d lm RT F pm_L_law (n + 1) 438 L st h = exI E d lm RT F (run E g mi_L_law d lm RT F pm_L_law n) (38, 0, 0, 439, []) L st h := run_s (by decide +kernel)
theorem r_L_law_439 : run E g mi_L_law d lm RT F pm_L_law (n + 1) 439 L st h = exI E d lm RT F (run E g mi_L_law d lm RT F pm_L_law n) (2, ((0 : Nat) : Int), 0, 440, []) L st h := run_s (by decide +kernel)
theorem r_L_law_440 : run E g mi_L_law d lm RT F pm_L_law (n + 1) 440 L st h = exI E d lm RT F (run E g mi_L_law d lm RT F pm_L_law n) (1, ((3 : Nat) : Int), 0, 441, []) L st h := run_s (by decide +kernel)
theorem r_L_law_441 : run E g mi_L_law d lm RT F pm_L_law (n + 1) 441 L st h = exI E d lm RT F (run E g mi_L_law d lm RT F pm_L_law n) (0, 4, 0, 442, []) L st h := run_s (by decide +kernel)
theorem r_L_law_442 : run E g mi_L_law d lm RT F pm_L_law (n + 1) 442 L st h = exI E d lm RT F (run E g mi_L_law d lm RT F pm_L_law n) (8, 0, 0, 443, []) L st h := run_s (by decide +kernel)
theorem r_L_law_443 : run E g mi_L_law d lm RT F pm_L_law (n + 1) 443 L st h = exI E d lm RT F (run E g mi_L_law d lm RT F pm_L_law n) (38, 0, 0, 444, []) L st h := run_s (by decide +kernel)
theorem r_L_law_444 : run E g mi_L_law d lm RT F pm_L_law (n + 1) 444 L st h = exI E d lm RT F (run E g mi_L_law d lm RT F pm_L_law n) (51, ((116 : Nat) : Int), ((5 : Nat) : Int), 447, [9]) L st h := run_s (by decide +kernel)
theorem r_L_law_447 : run E g mi_L_law d lm RT F pm_L_law (n + 1) 447 L st h = exI E d lm RT F (run E g mi_L_law d lm RT F pm_L_law n) (32, 0, ((805 : Nat) : Int), 450, []) L st h := run_s (by decide +kernel)
theorem r_L_law_450 : run E g mi_L_law d lm RT F pm_L_law (n + 1) 450 L st h = exI E d lm RT F (run E g mi_L_law d lm RT F pm_L_law n) (0, 0, 0, 451, []) L st h := run_s (by decide +kernel)
theorem r_L_law_451 : run E g mi_L_law d lm RT F pm_L_law (n + 1) 451 L st h = exI E d lm RT F (run E g mi_L_law d lm RT F pm_L_law n) (48, 1, 0, 0, []) L st h := run_s (by decide +kernel)
theorem r_L_law_452 : run E g mi_L_law d lm RT F pm_L_law (n + 1) 452 L st h = exI E d lm RT F (run E g mi_L_law d lm RT F pm_L_law n) (2, ((1 : Nat) : Int), 0, 453, []) L st h := run_s (by decide +kernel)
theorem r_L_law_453 : run E g mi_L_law d lm RT F pm_L_law (n + 1) 453 L st h = exI E d lm RT F (run E g mi_L_law d lm RT F pm_L_law n) (2, ((0 : Nat) : Int), 0, 454, []) L st h := run_s (by decide +kernel)
theorem r_L_law_454 : run E g mi_L_law d lm RT F pm_L_law (n + 1) 454 L st h = exI E d lm RT F (run E g mi_L_law d lm RT F pm_L_law n) (1, ((3 : Nat) : Int), 0, 455, []) L st h := run_s (by decide +kernel)
theorem r_L_law_455 : run E g mi_L_law d lm RT F pm_L_law (n + 1) 455 L st h = exI E d lm RT F (run E g mi_L_law d lm RT F pm_L_law n) (0, 1, 0, 456, []) L st h := run_s (by decide +kernel)
theorem r_L_law_456 : run E g mi_L_law d lm RT F pm_L_law (n + 1) 456 L st h = exI E d lm RT F (run E g mi_L_law d lm RT F pm_L_law n) (8, 0, 0, 457, []) L st h := run_s (by decide +kernel)
theorem r_L_law_457 : run E g mi_L_law d lm RT F pm_L_law (n + 1) 457 L st h = exI E d lm RT F (run E g mi_L_law d lm RT F pm_L_law n) (38, 0, 0, 458, []) L st h := run_s (by decide +kernel)
theorem r_L_law_458 : run E g mi_L_law d lm RT F pm_L_law (n + 1) 458 L st h = exI E d lm RT F (run E g mi_L_law d lm RT F pm_L_law n) (2, ((0 : Nat) : Int), 0, 459, []) L st h := run_s (by decide +kernel)
theorem r_L_law_459 : run E g mi_L_law d lm RT F pm_L_law (n + 1) 459 L st h = exI E d lm RT F (run E g mi_L_law d lm RT F pm_L_law n) (1, ((3 : Nat) : Int), 0, 460, []) L st h := run_s (by decide +kernel)
theorem r_L_law_460 : run E g mi_L_law d lm RT F pm_L_law (n + 1) 460 L st h = exI E d lm RT F (run E g mi_L_law d lm RT F pm_L_law n) (0, 2, 0, 461, []) L st h := run_s (by decide +kernel)
theorem r_L_law_461 : run E g mi_L_law d lm RT F pm_L_law (n + 1) 461 L st h = exI E d lm RT F (run E g mi_L_law d lm RT F pm_L_law n) (8, 0, 0, 462, []) L st h := run_s (by decide +kernel)
theorem r_L_law_462 : run E g mi_L_law d lm RT F pm_L_law (n + 1) 462 L st h = exI E d lm RT F (run E g mi_L_law d lm RT F pm_L_law n) (38, 0, 0, 463, []) L st h := run_s (by decide +kernel)
theorem r_L_law_463 : run E g mi_L_law d lm RT F pm_L_law (n + 1) 463 L st h = exI E d lm RT F (run E g mi_L_law d lm RT F pm_L_law n) (51, ((54 : Nat) : Int), ((3 : Nat) : Int), 466, [8]) L st h := run_s (by decide +kernel)
theorem r_L_law_466 : run E g mi_L_law d lm RT F pm_L_law (n + 1) 466 L st h = exI E d lm RT F (run E g mi_L_law d lm RT F pm_L_law n) (2, ((2 : Nat) : Int), 0, 467, []) L st h := run_s (by decide +kernel)
theorem r_L_law_467 : run E g mi_L_law d lm RT F pm_L_law (n + 1) 467 L st h = exI E d lm RT F (run E g mi_L_law d lm RT F pm_L_law n) (2, ((0 : Nat) : Int), 0, 468, []) L st h := run_s (by decide +kernel)
theorem r_L_law_468 : run E g mi_L_law d lm RT F pm_L_law (n + 1) 468 L st h = exI E d lm RT F (run E g mi_L_law d lm RT F pm_L_law n) (1, ((3 : Nat) : Int), 0, 469, []) L st h := run_s (by decide +kernel)
theorem r_L_law_469 : run E g mi_L_law d lm RT F pm_L_law (n + 1) 469 L st h = exI E d lm RT F (run E g mi_L_law d lm RT F pm_L_law n) (0, 1, 0, 470, []) L st h := run_s (by decide +kernel)
theorem r_L_law_470 : run E g mi_L_law d lm RT F pm_L_law (n + 1) 470 L st h = exI E d lm RT F (run E g mi_L_law d lm RT F pm_L_law n) (8, 0, 0, 471, []) L st h := run_s (by decide +kernel)
theorem r_L_law_471 : run E g mi_L_law d lm RT F pm_L_law (n + 1) 471 L st h = exI E d lm RT F (run E g mi_L_law d lm RT F pm_L_law n) (38, 0, 0, 472, []) L st h := run_s (by decide +kernel)
theorem r_L_law_472 : run E g mi_L_law d lm RT F pm_L_law (n + 1) 472 L st h = exI E d lm RT F (run E g mi_L_law d lm RT F pm_L_law n) (2, ((0 : Nat) : Int), 0, 473, []) L st h := run_s (by decide +kernel)
theorem r_L_law_473 : run E g mi_L_law d lm RT F pm_L_law (n + 1) 473 L st h = exI E d lm RT F (run E g mi_L_law d lm RT F pm_L_law n) (1, ((3 : Nat) : Int), 0, 474, []) L st h := run_s (by decide +kernel)
theorem r_L_law_474 : run E g mi_L_law d lm RT F pm_L_law (n + 1) 474 L st h = exI E d lm RT F (run E g mi_L_law d lm RT F pm_L_law n) (0, 2, 0, 475, []) L st h := run_s (by decide +kernel)
theorem r_L_law_475 : run E g mi_L_law d lm RT F pm_L_law (n + 1) 475 L st h = exI E d lm RT F (run E g mi_L_law d lm RT F pm_L_law n) (8, 0, 0, 476, []) L st h := run_s (by decide +kernel)
theorem r_L_law_476 : run E g mi_L_law d lm RT F pm_L_law (n + 1) 476 L st h = exI E d lm RT F (run E g mi_L_law d lm RT F pm_L_law n) (38, 0, 0, 477, []) L st h := run_s (by decide +kernel)
theorem r_L_law_477 : run E g mi_L_law d lm RT F pm_L_law (n + 1) 477 L st h = exI E d lm RT F (run E g mi_L_law d lm RT F pm_L_law n) (51, ((117 : Nat) : Int), ((3 : Nat) : Int), 480, [9]) L st h := run_s (by decide +kernel)
theorem r_L_law_480 : run E g mi_L_law d lm RT F pm_L_law (n + 1) 480 L st h = exI E d lm RT F (run E g mi_L_law d lm RT F pm_L_law n) (32, 0, ((805 : Nat) : Int), 483, []) L st h := run_s (by decide +kernel)
theorem r_L_law_483 : run E g mi_L_law d lm RT F pm_L_law (n + 1) 483 L st h = exI E d lm RT F (run E g mi_L_law d lm RT F pm_L_law n) (0, 0, 0, 484, []) L st h := run_s (by decide +kernel)
theorem r_L_law_484 : run E g mi_L_law d lm RT F pm_L_law (n + 1) 484 L st h = exI E d lm RT F (run E g mi_L_law d lm RT F pm_L_law n) (48, 1, 0, 0, []) L st h := run_s (by decide +kernel)
theorem r_L_law_485 : run E g mi_L_law d lm RT F pm_L_law (n + 1) 485 L st h = exI E d lm RT F (run E g mi_L_law d lm RT F pm_L_law n) (2, ((1 : Nat) : Int), 0, 486, []) L st h := run_s (by decide +kernel)
theorem r_L_law_486 : run E g mi_L_law d lm RT F pm_L_law (n + 1) 486 L st h = exI E d lm RT F (run E g mi_L_law d lm RT F pm_L_law n) (2, ((0 : Nat) : Int), 0, 487, []) L st h := run_s (by decide +kernel)
theorem r_L_law_487 : run E g mi_L_law d lm RT F pm_L_law (n + 1) 487 L st h = exI E d lm RT F (run E g mi_L_law d lm RT F pm_L_law n) (1, ((3 : Nat) : Int), 0, 488, []) L st h := run_s (by decide +kernel)
theorem r_L_law_488 : run E g mi_L_law d lm RT F pm_L_law (n + 1) 488 L st h = exI E d lm RT F (run E g mi_L_law d lm RT F pm_L_law n) (0, 1, 0, 489, []) L st h := run_s (by decide +kernel)
theorem r_L_law_489 : run E g mi_L_law d lm RT F pm_L_law (n + 1) 489 L st h = exI E d lm RT F (run E g mi_L_law d lm RT F pm_L_law n) (8, 0, 0, 490, []) L st h := run_s (by decide +kernel)
theorem r_L_law_490 : run E g mi_L_law d lm RT F pm_L_law (n + 1) 490 L st h = exI E d lm RT F (run E g mi_L_law d lm RT F pm_L_law n) (38, 0, 0, 491, []) L st h := run_s (by decide +kernel)
theorem r_L_law_491 : run E g mi_L_law d lm RT F pm_L_law (n + 1) 491 L st h = exI E d lm RT F (run E g mi_L_law d lm RT F pm_L_law n) (51, ((55 : Nat) : Int), ((2 : Nat) : Int), 494, [8]) L st h := run_s (by decide +kernel)
theorem r_L_law_494 : run E g mi_L_law d lm RT F pm_L_law (n + 1) 494 L st h = exI E d lm RT F (run E g mi_L_law d lm RT F pm_L_law n) (2, ((2 : Nat) : Int), 0, 495, []) L st h := run_s (by decide +kernel)
theorem r_L_law_495 : run E g mi_L_law d lm RT F pm_L_law (n + 1) 495 L st h = exI E d lm RT F (run E g mi_L_law d lm RT F pm_L_law n) (2, ((0 : Nat) : Int), 0, 496, []) L st h := run_s (by decide +kernel)
theorem r_L_law_496 : run E g mi_L_law d lm RT F pm_L_law (n + 1) 496 L st h = exI E d lm RT F (run E g mi_L_law d lm RT F pm_L_law n) (1, ((3 : Nat) : Int), 0, 497, []) L st h := run_s (by decide +kernel)
theorem r_L_law_497 : run E g mi_L_law d lm RT F pm_L_law (n + 1) 497 L st h = exI E d lm RT F (run E g mi_L_law d lm RT F pm_L_law n) (0, 1, 0, 498, []) L st h := run_s (by decide +kernel)
theorem r_L_law_498 : run E g mi_L_law d lm RT F pm_L_law (n + 1) 498 L st h = exI E d lm RT F (run E g mi_L_law d lm RT F pm_L_law n) (8, 0, 0, 499, []) L st h := run_s (by decide +kernel)
theorem r_L_law_499 : run E g mi_L_law d lm RT F pm_L_law (n + 1) 499 L st h = exI E d lm RT F (run E g mi_L_law d lm RT F pm_L_law n) (38, 0, 0, 500, []) L st h := run_s (by decide +kernel)
theorem r_L_law_500 : run E g mi_L_law d lm RT F pm_L_law (n + 1) 500 L st h = exI E d lm RT F (run E g mi_L_law d lm RT F pm_L_law n) (51, ((118 : Nat) : Int), ((2 : Nat) : Int), 503, [9]) L st h := run_s (by decide +kernel)
theorem r_L_law_503 : run E g mi_L_law d lm RT F pm_L_law (n + 1) 503 L st h = exI E d lm RT F (run E g mi_L_law d lm RT F pm_L_law n) (32, 0, ((805 : Nat) : Int), 506, []) L st h := run_s (by decide +kernel)
theorem r_L_law_506 : run E g mi_L_law d lm RT F pm_L_law (n + 1) 506 L st h = exI E d lm RT F (run E g mi_L_law d lm RT F pm_L_law n) (0, 0, 0, 507, []) L st h := run_s (by decide +kernel)
theorem r_L_law_507 : run E g mi_L_law d lm RT F pm_L_law (n + 1) 507 L st h = exI E d lm RT F (run E g mi_L_law d lm RT F pm_L_law n) (48, 1, 0, 0, []) L st h := run_s (by decide +kernel)
theorem r_L_law_508 : run E g mi_L_law d lm RT F pm_L_law (n + 1) 508 L st h = exI E d lm RT F (run E g mi_L_law d lm RT F pm_L_law n) (2, ((1 : Nat) : Int), 0, 509, []) L st h := run_s (by decide +kernel)
theorem r_L_law_509 : run E g mi_L_law d lm RT F pm_L_law (n + 1) 509 L st h = exI E d lm RT F (run E g mi_L_law d lm RT F pm_L_law n) (2, ((0 : Nat) : Int), 0, 510, []) L st h := run_s (by decide +kernel)
theorem r_L_law_510 : run E g mi_L_law d lm RT F pm_L_law (n + 1) 510 L st h = exI E d lm RT F (run E g mi_L_law d lm RT F pm_L_law n) (1, ((3 : Nat) : Int), 0, 511, []) L st h := run_s (by decide +kernel)
theorem r_L_law_511 : run E g mi_L_law d lm RT F pm_L_law (n + 1) 511 L st h = exI E d lm RT F (run E g mi_L_law d lm RT F pm_L_law n) (0, 1, 0, 512, []) L st h := run_s (by decide +kernel)
theorem r_L_law_512 : run E g mi_L_law d lm RT F pm_L_law (n + 1) 512 L st h = exI E d lm RT F (run E g mi_L_law d lm RT F pm_L_law n) (8, 0, 0, 513, []) L st h := run_s (by decide +kernel)
theorem r_L_law_513 : run E g mi_L_law d lm RT F pm_L_law (n + 1) 513 L st h = exI E d lm RT F (run E g mi_L_law d lm RT F pm_L_law n) (38, 0, 0, 514, []) L st h := run_s (by decide +kernel)
theorem r_L_law_514 : run E g mi_L_law d lm RT F pm_L_law (n + 1) 514 L st h = exI E d lm RT F (run E g mi_L_law d lm RT F pm_L_law n) (2, ((0 : Nat) : Int), 0, 515, []) L st h := run_s (by decide +kernel)
theorem r_L_law_515 : run E g mi_L_law d lm RT F pm_L_law (n + 1) 515 L st h = exI E d lm RT F (run E g mi_L_law d lm RT F pm_L_law n) (1, ((3 : Nat) : Int), 0, 516, []) L st h := run_s (by decide +kernel)
theorem r_L_law_516 : run E g mi_L_law d lm RT F pm_L_law (n + 1) 516 L st h = exI E d lm RT F (run E g mi_L_law d lm RT F pm_L_law n) (0, 2, 0, 517, []) L st h := run_s (by decide +kernel)
theorem r_L_law_517 : run E g mi_L_law d lm RT F pm_L_law (n + 1) 517 L st h = exI E d lm RT F (run E g mi_L_law d lm RT F pm_L_law n) (8, 0, 0, 518, []) L st h := run_s (by decide +kernel)
theorem r_L_law_518 : run E g mi_L_law d lm RT F pm_L_law (n + 1) 518 L st h = exI E d lm RT F (run E g mi_L_law d lm RT F pm_L_law n) (38, 0, 0, 519, []) L st h := run_s (by decide +kernel)
theorem r_L_law_519 : run E g mi_L_law d lm RT F pm_L_law (n + 1) 519 L st h = exI E d lm RT F (run E g mi_L_law d lm RT F pm_L_law n) (2, ((0 : Nat) : Int), 0, 520, []) L st h := run_s (by decide +kernel)
theorem r_L_law_520 : run E g mi_L_law d lm RT F pm_L_law (n + 1) 520 L st h = exI E d lm RT F (run E g mi_L_law d lm RT F pm_L_law n) (1, ((3 : Nat) : Int), 0, 521, []) L st h := run_s (by decide +kernel)
theorem r_L_law_521 : run E g mi_L_law d lm RT F pm_L_law (n + 1) 521 L st h = exI E d lm RT F (run E g mi_L_law d lm RT F pm_L_law n) (0, 3, 0, 522, []) L st h := run_s (by decide +kernel)
theorem r_L_law_522 : run E g mi_L_law d lm RT F pm_L_law (n + 1) 522 L st h = exI E d lm RT F (run E g mi_L_law d lm RT F pm_L_law n) (8, 0, 0, 523, []) L st h := run_s (by decide +kernel)
theorem r_L_law_523 : run E g mi_L_law d lm RT F pm_L_law (n + 1) 523 L st h = exI E d lm RT F (run E g mi_L_law d lm RT F pm_L_law n) (38, 0, 0, 524, []) L st h := run_s (by decide +kernel)
theorem r_L_law_524 : run E g mi_L_law d lm RT F pm_L_law (n + 1) 524 L st h = exI E d lm RT F (run E g mi_L_law d lm RT F pm_L_law n) (51, ((56 : Nat) : Int), ((4 : Nat) : Int), 527, [8]) L st h := run_s (by decide +kernel)
theorem r_L_law_527 : run E g mi_L_law d lm RT F pm_L_law (n + 1) 527 L st h = exI E d lm RT F (run E g mi_L_law d lm RT F pm_L_law n) (2, ((2 : Nat) : Int), 0, 528, []) L st h := run_s (by decide +kernel)
theorem r_L_law_528 : run E g mi_L_law d lm RT F pm_L_law (n + 1) 528 L st h = exI E d lm RT F (run E g mi_L_law d lm RT F pm_L_law n) (2, ((0 : Nat) : Int), 0, 529, []) L st h := run_s (by decide +kernel)
theorem r_L_law_529 : run E g mi_L_law d lm RT F pm_L_law (n + 1) 529 L st h = exI E d lm RT F (run E g mi_L_law d lm RT F pm_L_law n) (1, ((3 : Nat) : Int), 0, 530, []) L st h := run_s (by decide +kernel)
theorem r_L_law_530 : run E g mi_L_law d lm RT F pm_L_law (n + 1) 530 L st h = exI E d lm RT F (run E g mi_L_law d lm RT F pm_L_law n) (0, 1, 0, 531, []) L st h := run_s (by decide +kernel)
theorem r_L_law_531 : run E g mi_L_law d lm RT F pm_L_law (n + 1) 531 L st h = exI E d lm RT F (run E g mi_L_law d lm RT F pm_L_law n) (8, 0, 0, 532, []) L st h := run_s (by decide +kernel)
theorem r_L_law_532 : run E g mi_L_law d lm RT F pm_L_law (n + 1) 532 L st h = exI E d lm RT F (run E g mi_L_law d lm RT F pm_L_law n) (38, 0, 0, 533, []) L st h := run_s (by decide +kernel)
theorem r_L_law_533 : run E g mi_L_law d lm RT F pm_L_law (n + 1) 533 L st h = exI E d lm RT F (run E g mi_L_law d lm RT F pm_L_law n) (2, ((0 : Nat) : Int), 0, 534, []) L st h := run_s (by decide +kernel)
theorem r_L_law_534 : run E g mi_L_law d lm RT F pm_L_law (n + 1) 534 L st h = exI E d lm RT F (run E g mi_L_law d lm RT F pm_L_law n) (1, ((3 : Nat) : Int), 0, 535, []) L st h := run_s (by decide +kernel)
theorem r_L_law_535 : run E g mi_L_law d lm RT F pm_L_law (n + 1) 535 L st h = exI E d lm RT F (run E g mi_L_law d lm RT F pm_L_law n) (0, 2, 0, 536, []) L st h := run_s (by decide +kernel)
theorem r_L_law_536 : run E g mi_L_law d lm RT F pm_L_law (n + 1) 536 L st h = exI E d lm RT F (run E g mi_L_law d lm RT F pm_L_law n) (8, 0, 0, 537, []) L st h := run_s (by decide +kernel)
theorem r_L_law_537 : run E g mi_L_law d lm RT F pm_L_law (n + 1) 537 L st h = exI E d lm RT F (run E g mi_L_law d lm RT F pm_L_law n) (38, 0, 0, 538, []) L st h := run_s (by decide +kernel)
theorem r_L_law_538 : run E g mi_L_law d lm RT F pm_L_law (n + 1) 538 L st h = exI E d lm RT F (run E g mi_L_law d lm RT F pm_L_law n) (2, ((0 : Nat) : Int), 0, 539, []) L st h := run_s (by decide +kernel)
theorem r_L_law_539 : run E g mi_L_law d lm RT F pm_L_law (n + 1) 539 L st h = exI E d lm RT F (run E g mi_L_law d lm RT F pm_L_law n) (1, ((3 : Nat) : Int), 0, 540, []) L st h := run_s (by decide +kernel)
theorem r_L_law_540 : run E g mi_L_law d lm RT F pm_L_law (n + 1) 540 L st h = exI E d lm RT F (run E g mi_L_law d lm RT F pm_L_law n) (0, 3, 0, 541, []) L st h := run_s (by decide +kernel)
theorem r_L_law_541 : run E g mi_L_law d lm RT F pm_L_law (n + 1) 541 L st h = exI E d lm RT F (run E g mi_L_law d lm RT F pm_L_law n) (8, 0, 0, 542, []) L st h := run_s (by decide +kernel)
theorem r_L_law_542 : run E g mi_L_law d lm RT F pm_L_law (n + 1) 542 L st h = exI E d lm RT F (run E g mi_L_law d lm RT F pm_L_law n) (38, 0, 0, 543, []) L st h := run_s (by decide +kernel)
theorem r_L_law_543 : run E g mi_L_law d lm RT F pm_L_law (n + 1) 543 L st h = exI E d lm RT F (run E g mi_L_law d lm RT F pm_L_law n) (51, ((126 : Nat) : Int), ((4 : Nat) : Int), 546, [9]) L st h := run_s (by decide +kernel)
theorem r_L_law_546 : run E g mi_L_law d lm RT F pm_L_law (n + 1) 546 L st h = exI E d lm RT F (run E g mi_L_law d lm RT F pm_L_law n) (32, 0, ((805 : Nat) : Int), 549, []) L st h := run_s (by decide +kernel)
theorem r_L_law_549 : run E g mi_L_law d lm RT F pm_L_law (n + 1) 549 L st h = exI E d lm RT F (run E g mi_L_law d lm RT F pm_L_law n) (0, 0, 0, 550, []) L st h := run_s (by decide +kernel)
theorem r_L_law_550 : run E g mi_L_law d lm RT F pm_L_law (n + 1) 550 L st h = exI E d lm RT F (run E g mi_L_law d lm RT F pm_L_law n) (48, 1, 0, 0, []) L st h := run_s (by decide +kernel)
theorem r_L_law_551 : run E g mi_L_law d lm RT F pm_L_law (n + 1) 551 L st h = exI E d lm RT F (run E g mi_L_law d lm RT F pm_L_law n) (2, ((1 : Nat) : Int), 0, 552, []) L st h := run_s (by decide +kernel)
theorem r_L_law_552 : run E g mi_L_law d lm RT F pm_L_law (n + 1) 552 L st h = exI E d lm RT F (run E g mi_L_law d lm RT F pm_L_law n) (2, ((0 : Nat) : Int), 0, 553, []) L st h := run_s (by decide +kernel)
theorem r_L_law_553 : run E g mi_L_law d lm RT F pm_L_law (n + 1) 553 L st h = exI E d lm RT F (run E g mi_L_law d lm RT F pm_L_law n) (1, ((3 : Nat) : Int), 0, 554, []) L st h := run_s (by decide +kernel)
theorem r_L_law_554 : run E g mi_L_law d lm RT F pm_L_law (n + 1) 554 L st h = exI E d lm RT F (run E g mi_L_law d lm RT F pm_L_law n) (0, 1, 0, 555, []) L st h := run_s (by decide +kernel)
theorem r_L_law_555 : run E g mi_L_law d lm RT F pm_L_law (n + 1) 555 L st h = exI E d lm RT F (run E g mi_L_law d lm RT F pm_L_law n) (8, 0, 0, 556, []) L st h := run_s (by decide +kernel)
theorem r_L_law_556 : run E g mi_L_law d lm RT F pm_L_law (n + 1) 556 L st h = exI E d lm RT F (run E g mi_L_law d lm RT F pm_L_law n) (38, 0, 0, 557, []) L st h := run_s (by decide +kernel)
theorem r_L_law_557 : run E g mi_L_law d lm RT F pm_L_law (n + 1) 557 L st h = exI E d lm RT F (run E g mi_L_law d lm RT F pm_L_law n) (51, ((57 : Nat) : Int), ((2 : Nat) : Int), 560, [8]) L st h := run_s (by decide +kernel)
theorem r_L_law_560 : run E g mi_L_law d lm RT F pm_L_law (n + 1) 560 L st h = exI E d lm RT F (run E g mi_L_law d lm RT F pm_L_law n) (2, ((2 : Nat) : Int), 0, 561, []) L st h := run_s (by decide +kernel)
theorem r_L_law_561 : run E g mi_L_law d lm RT F pm_L_law (n + 1) 561 L st h = exI E d lm RT F (run E g mi_L_law d lm RT F pm_L_law n) (2, ((0 : Nat) : Int), 0, 562, []) L st h := run_s (by decide +kernel)
theorem r_L_law_562 : run E g mi_L_law d lm RT F pm_L_law (n + 1) 562 L st h = exI E d lm RT F (run E g mi_L_law d lm RT F pm_L_law n) (1, ((3 : Nat) : Int), 0, 563, []) L st h := run_s (by decide +kernel)
theorem r_L_law_563 : run E g mi_L_law d lm RT F pm_L_law (n + 1) 563 L st h = exI E d lm RT F (run E g mi_L_law d lm RT F pm_L_law n) (0, 1, 0, 564, []) L st h := run_s (by decide +kernel)
theorem r_L_law_564 : run E g mi_L_law d lm RT F pm_L_law (n + 1) 564 L st h = exI E d lm RT F (run E g mi_L_law d lm RT F pm_L_law n) (8, 0, 0, 565, []) L st h := run_s (by decide +kernel)
theorem r_L_law_565 : run E g mi_L_law d lm RT F pm_L_law (n + 1) 565 L st h = exI E d lm RT F (run E g mi_L_law d lm RT F pm_L_law n) (38, 0, 0, 566, []) L st h := run_s (by decide +kernel)
theorem r_L_law_566 : run E g mi_L_law d lm RT F pm_L_law (n + 1) 566 L st h = exI E d lm RT F (run E g mi_L_law d lm RT F pm_L_law n) (51, ((133 : Nat) : Int), ((2 : Nat) : Int), 569, [9]) L st h := run_s (by decide +kernel)
theorem r_L_law_569 : run E g mi_L_law d lm RT F pm_L_law (n + 1) 569 L st h = exI E d lm RT F (run E g mi_L_law d lm RT F pm_L_law n) (32, 0, ((805 : Nat) : Int), 572, []) L st h := run_s (by decide +kernel)
theorem r_L_law_572 : run E g mi_L_law d lm RT F pm_L_law (n + 1) 572 L st h = exI E d lm RT F (run E g mi_L_law d lm RT F pm_L_law n) (0, 0, 0, 573, []) L st h := run_s (by decide +kernel)
theorem r_L_law_573 : run E g mi_L_law d lm RT F pm_L_law (n + 1) 573 L st h = exI E d lm RT F (run E g mi_L_law d lm RT F pm_L_law n) (48, 1, 0, 0, []) L st h := run_s (by decide +kernel)
theorem r_L_law_574 : run E g mi_L_law d lm RT F pm_L_law (n + 1) 574 L st h = exI E d lm RT F (run E g mi_L_law d lm RT F pm_L_law n) (2, ((1 : Nat) : Int), 0, 575, []) L st h := run_s (by decide +kernel)
theorem r_L_law_575 : run E g mi_L_law d lm RT F pm_L_law (n + 1) 575 L st h = exI E d lm RT F (run E g mi_L_law d lm RT F pm_L_law n) (2, ((0 : Nat) : Int), 0, 576, []) L st h := run_s (by decide +kernel)
theorem r_L_law_576 : run E g mi_L_law d lm RT F pm_L_law (n + 1) 576 L st h = exI E d lm RT F (run E g mi_L_law d lm RT F pm_L_law n) (1, ((3 : Nat) : Int), 0, 577, []) L st h := run_s (by decide +kernel)
theorem r_L_law_577 : run E g mi_L_law d lm RT F pm_L_law (n + 1) 577 L st h = exI E d lm RT F (run E g mi_L_law d lm RT F pm_L_law n) (0, 1, 0, 578, []) L st h := run_s (by decide +kernel)
theorem r_L_law_578 : run E g mi_L_law d lm RT F pm_L_law (n + 1) 578 L st h = exI E d lm RT F (run E g mi_L_law d lm RT F pm_L_law n) (8, 0, 0, 579, []) L st h := run_s (by decide +kernel)
theorem r_L_law_579 : run E g mi_L_law d lm RT F pm_L_law (n + 1) 579 L st h = exI E d lm RT F (run E g mi_L_law d lm RT F pm_L_law n) (38, 0, 0, 580, []) L st h := run_s (by decide +kernel)
theorem r_L_law_580 : run E g mi_L_law d lm RT F pm_L_law (n + 1) 580 L st h = exI E d lm RT F (run E g mi_L_law d lm RT F pm_L_law n) (2, ((0 : Nat) : Int), 0, 581, []) L st h := run_s (by decide +kernel)
theorem r_L_law_581 : run E g mi_L_law d lm RT F pm_L_law (n + 1) 581 L st h = exI E d lm RT F (run E g mi_L_law d lm RT F pm_L_law n) (1, ((3 : Nat) : Int), 0, 582, []) L st h := run_s (by decide +kernel)
theorem r_L_law_582 : run E g mi_L_law d lm RT F pm_L_law (n + 1) 582 L st h = exI E d lm RT F (run E g mi_L_law d lm RT F pm_L_law n) (0, 2, 0, 583, []) L st h := run_s (by decide +kernel)
theorem r_L_law_583 : run E g mi_L_law d lm RT F pm_L_law (n + 1) 583 L st h = exI E d lm RT F (run E g mi_L_law d lm RT F pm_L_law n) (8, 0, 0, 584, []) L st h := run_s (by decide +kernel)
theorem r_L_law_584 : run E g mi_L_law d lm RT F pm_L_law (n + 1) 584 L st h = exI E d lm RT F (run E g mi_L_law d lm RT F pm_L_law n) (38, 0, 0, 585, []) L st h := run_s (by decide +kernel)
theorem r_L_law_585 : run E g mi_L_law d lm RT F pm_L_law (n + 1) 585 L st h = exI E d lm RT F (run E g mi_L_law d lm RT F pm_L_law n) (51, ((58 : Nat) : Int), ((3 : Nat) : Int), 588, [8]) L st h := run_s (by decide +kernel)
theorem r_L_law_588 : run E g mi_L_law d lm RT F pm_L_law (n + 1) 588 L st h = exI E d lm RT F (run E g mi_L_law d lm RT F pm_L_law n) (2, ((2 : Nat) : Int), 0, 589, []) L st h := run_s (by decide +kernel)
theorem r_L_law_589 : run E g mi_L_law d lm RT F pm_L_law (n + 1) 589 L st h = exI E d lm RT F (run E g mi_L_law d lm RT F pm_L_law n) (2, ((0 : Nat) : Int), 0, 590, []) L st h := run_s (by decide +kernel)
theorem r_L_law_590 : run E g mi_L_law d lm RT F pm_L_law (n + 1) 590 L st h = exI E d lm RT F (run E g mi_L_law d lm RT F pm_L_law n) (1, ((3 : Nat) : Int), 0, 591, []) L st h := run_s (by decide +kernel)
theorem r_L_law_591 : run E g mi_L_law d lm RT F pm_L_law (n + 1) 591 L st h = exI E d lm RT F (run E g mi_L_law d lm RT F pm_L_law n) (0, 1, 0, 592, []) L st h := run_s (by decide +kernel)
theorem r_L_law_592 : run E g mi_L_law d lm RT F pm_L_law (n + 1) 592 L st h = exI E d lm RT F (run E g mi_L_law d lm RT F pm_L_law n) (8, 0, 0, 593, []) L st h := run_s (by decide +kernel)
theorem r_L_law_593 : run E g mi_L_law d lm RT F pm_L_law (n + 1) 593 L st h = exI E d lm RT F (run E g mi_L_law d lm RT F pm_L_law n) (38, 0, 0, 594, []) L st h := run_s (by decide +kernel)
theorem r_L_law_594 : run E g mi_L_law d lm RT F pm_L_law (n + 1) 594 L st h = exI E d lm RT F (run E g mi_L_law d lm RT F pm_L_law n) (2, ((0 : Nat) : Int), 0, 595, []) L st h := run_s (by decide +kernel)
theorem r_L_law_595 : run E g mi_L_law d lm RT F pm_L_law (n + 1) 595 L st h = exI E d lm RT F (run E g mi_L_law d lm RT F pm_L_law n) (1, ((3 : Nat) : Int), 0, 596, []) L st h := run_s (by decide +kernel)
theorem r_L_law_596 : run E g mi_L_law d lm RT F pm_L_law (n + 1) 596 L st h = exI E d lm RT F (run E g mi_L_law d lm RT F pm_L_law n) (0, 2, 0, 597, []) L st h := run_s (by decide +kernel)
theorem r_L_law_597 : run E g mi_L_law d lm RT F pm_L_law (n + 1) 597 L st h = exI E d lm RT F (run E g mi_L_law d lm RT F pm_L_law n) (8, 0, 0, 598, []) L st h := run_s (by decide +kernel)
theorem r_L_law_598 : run E g mi_L_law d lm RT F pm_L_law (n + 1) 598 L st h = exI E d lm RT F (run E g mi_L_law d lm RT F pm_L_law n) (38, 0, 0, 599, []) L st h := run_s (by decide +kernel)
theorem r_L_law_599 : run E g mi_L_law d lm RT F pm_L_law (n + 1) 599 L st h = exI E d lm RT F (run E g mi_L_law d lm RT F pm_L_law n) (51, ((135 : Nat) : Int), ((3 : Nat) : Int), 602, [9]) L st h := run_s (by decide +kernel)
theorem r_L_law_602 : run E g mi_L_law d lm RT F pm_L_law (n + 1) 602 L st h = exI E d lm RT F (run E g mi_L_law d lm RT F pm_L_law n) (32, 0, ((805 : Nat) : Int), 605, []) L st h := run_s (by decide +kernel)
theorem r_L_law_605 : run E g mi_L_law d lm RT F pm_L_law (n + 1) 605 L st h = exI E d lm RT F (run E g mi_L_law d lm RT F pm_L_law n) (0, 0, 0, 606, []) L st h := run_s (by decide +kernel)
theorem r_L_law_606 : run E g mi_L_law d lm RT F pm_L_law (n + 1) 606 L st h = exI E d lm RT F (run E g mi_L_law d lm RT F pm_L_law n) (48, 1, 0, 0, []) L st h := run_s (by decide +kernel)
theorem r_L_law_607 : run E g mi_L_law d lm RT F pm_L_law (n + 1) 607 L st h = exI E d lm RT F (run E g mi_L_law d lm RT F pm_L_law n) (2, ((1 : Nat) : Int), 0, 608, []) L st h := run_s (by decide +kernel)
theorem r_L_law_608 : run E g mi_L_law d lm RT F pm_L_law (n + 1) 608 L st h = exI E d lm RT F (run E g mi_L_law d lm RT F pm_L_law n) (2, ((0 : Nat) : Int), 0, 609, []) L st h := run_s (by decide +kernel)
theorem r_L_law_609 : run E g mi_L_law d lm RT F pm_L_law (n + 1) 609 L st h = exI E d lm RT F (run E g mi_L_law d lm RT F pm_L_law n) (1, ((3 : Nat) : Int), 0, 610, []) L st h := run_s (by decide +kernel)
theorem r_L_law_610 : run E g mi_L_law d lm RT F pm_L_law (n + 1) 610 L st h = exI E d lm RT F (run E g mi_L_law d lm RT F pm_L_law n) (0, 1, 0, 611, []) L st h := run_s (by decide +kernel)
theorem r_L_law_611 : run E g mi_L_law d lm RT F pm_L_law (n + 1) 611 L st h = exI E d lm RT F (run E g mi_L_law d lm RT F pm_L_law n) (8, 0, 0, 612, []) L st h := run_s (by decide +kernel)
theorem r_L_law_612 : run E g mi_L_law d lm RT F pm_L_law (n + 1) 612 L st h = exI E d lm RT F (run E g mi_L_law d lm RT F pm_L_law n) (38, 0, 0, 613, []) L st h := run_s (by decide +kernel)
theorem r_L_law_613 : run E g mi_L_law d lm RT F pm_L_law (n + 1) 613 L st h = exI E d lm RT F (run E g mi_L_law d lm RT F pm_L_law n) (2, ((0 : Nat) : Int), 0, 614, []) L st h := run_s (by decide +kernel)
theorem r_L_law_614 : run E g mi_L_law d lm RT F pm_L_law (n + 1) 614 L st h = exI E d lm RT F (run E g mi_L_law d lm RT F pm_L_law n) (1, ((3 : Nat) : Int), 0, 615, []) L st h := run_s (by decide +kernel)
theorem r_L_law_615 : run E g mi_L_law d lm RT F pm_L_law (n + 1) 615 L st h = exI E d lm RT F (run E g mi_L_law d lm RT F pm_L_law n) (0, 2, 0, 616, []) L st h := run_s (by decide +kernel)
theorem r_L_law_616 : run E g mi_L_law d lm RT F pm_L_law (n + 1) 616 L st h = exI E d lm RT F (run E g mi_L_law d lm RT F pm_L_law n) (8, 0, 0, 617, []) L st h := run_s (by decide +kernel)
theorem r_L_law_617 : run E g mi_L_law d lm RT F pm_L_law (n + 1) 617 L st h = exI E d lm RT F (run E g mi_L_law d lm RT F pm_L_law n) (38, 0, 0, 618, []) L st h := run_s (by decide +kernel)
theorem r_L_law_618 : run E g mi_L_law d lm RT F pm_L_law (n + 1) 618 L st h = exI E d lm RT F (run E g mi_L_law d lm RT F pm_L_law n) (2, ((0 : Nat) : Int), 0, 619, []) L st h := run_s (by decide +kernel)
theorem r_L_law_619 : run E g mi_L_law d lm RT F pm_L_law (n + 1) 619 L st h = exI E d lm RT F (run E g mi_L_law d lm RT F pm_L_law n) (1, ((3 : Nat) : Int), 0, 620, []) L st h := run_s (by decide +kernel)
theorem r_L_law_620 : run E g mi_L_law d lm RT F pm_L_law (n + 1) 620 L st h = exI E d lm RT F (run E g mi_L_law d lm RT F pm_L_law n) (0, 3, 0, 621, []) L st h := run_s (by decide +kernel)
theorem r_L_law_621 : run E g mi_L_law d lm RT F pm_L_law (n + 1) 621 L st h = exI E d lm RT F (run E g mi_L_law d lm RT F pm_L_law n) (8, 0, 0, 622, []) L st h := run_s (by decide +kernel)
theorem r_L_law_622 : run E g mi_L_law d lm RT F pm_L_law (n + 1) 622 L st h = exI E d lm RT F (run E g mi_L_law d lm RT F pm_L_law n) (38, 0, 0, 623, []) L st h := run_s (by decide +kernel)
theorem r_L_law_623 : run E g mi_L_law d lm RT F pm_L_law (n + 1) 623 L st h = exI E d lm RT F (run E g mi_L_law d lm RT F pm_L_law n) (51, ((59 : Nat) : Int), ((4 : Nat) : Int), 626, [8]) L st h := run_s (by decide +kernel)
theorem r_L_law_626 : run E g mi_L_law d lm RT F pm_L_law (n + 1) 626 L st h = exI E d lm RT F (run E g mi_L_law d lm RT F pm_L_law n) (2, ((2 : Nat) : Int), 0, 627, []) L st h := run_s (by decide +kernel)
theorem r_L_law_627 : run E g mi_L_law d lm RT F pm_L_law (n + 1) 627 L st h = exI E d lm RT F (run E g mi_L_law d lm RT F pm_L_law n) (2, ((0 : Nat) : Int), 0, 628, []) L st h := run_s (by decide +kernel)
theorem r_L_law_628 : run E g mi_L_law d lm RT F pm_L_law (n + 1) 628 L st h = exI E d lm RT F (run E g mi_L_law d lm RT F pm_L_law n) (1, ((3 : Nat) : Int), 0, 629, []) L st h := run_s (by decide +kernel)
theorem r_L_law_629 : run E g mi_L_law d lm RT F pm_L_law (n + 1) 629 L st h = exI E d lm RT F (run E g mi_L_law d lm RT F pm_L_law n) (0, 1, 0, 630, []) L st h := run_s (by decide +kernel)
theorem r_L_law_630 : run E g mi_L_law d lm RT F pm_L_law (n + 1) 630 L st h = exI E d lm RT F (run E g mi_L_law d lm RT F pm_L_law n) (8, 0, 0, 631, []) L st h := run_s (by decide +kernel)
theorem r_L_law_631 : run E g mi_L_law d lm RT F pm_L_law (n + 1) 631 L st h = exI E d lm RT F (run E g mi_L_law d lm RT F pm_L_law n) (38, 0, 0, 632, []) L st h := run_s (by decide +kernel)
theorem r_L_law_632 : run E g mi_L_law d lm RT F pm_L_law (n + 1) 632 L st h = exI E d lm RT F (run E g mi_L_law d lm RT F pm_L_law n) (2, ((0 : Nat) : Int), 0, 633, []) L st h := run_s (by decide +kernel)
theorem r_L_law_633 : run E g mi_L_law d lm RT F pm_L_law (n + 1) 633 L st h = exI E d lm RT F (run E g mi_L_law d lm RT F pm_L_law n) (1, ((3 : Nat) : Int), 0, 634, []) L st h := run_s (by decide +kernel)
theorem r_L_law_634 : run E g mi_L_law d lm RT F pm_L_law (n + 1) 634 L st h = exI E d lm RT F (run E g mi_L_law d lm RT F pm_L_law n) (0, 2, 0, 635, []) L st h := run_s (by decide +kernel)
theorem r_L_law_635 : run E g mi_L_law d lm RT F pm_L_law (n + 1) 635 L st h = exI E d lm RT F (run E g mi_L_law d lm RT F pm_L_law n) (8, 0, 0, 636, []) L st h := run_s (by decide +kernel)
theorem r_L_law_636 : run E g mi_L_law d lm RT F pm_L_law (n + 1) 636 L st h = exI E d lm RT F (run E g mi_L_law d lm RT F pm_L_law n) (38, 0, 0, 637, []) L st h := run_s (by decide +kernel)
theorem r_L_law_637 : run E g mi_L_law d lm RT F pm_L_law (n + 1) 637 L st h = exI E d lm RT F (run E g mi_L_law d lm RT F pm_L_law n) (2, ((0 : Nat) : Int), 0, 638, []) L st h := run_s (by decide +kernel)
theorem r_L_law_638 : run E g mi_L_law d lm RT F pm_L_law (n + 1) 638 L st h = exI E d lm RT F (run E g mi_L_law d lm RT F pm_L_law n) (1, ((3 : Nat) : Int), 0, 639, []) L st h := run_s (by decide +kernel)
theorem r_L_law_639 : run E g mi_L_law d lm RT F pm_L_law (n + 1) 639 L st h = exI E d lm RT F (run E g mi_L_law d lm RT F pm_L_law n) (0, 3, 0, 640, []) L st h := run_s (by decide +kernel)
theorem r_L_law_640 : run E g mi_L_law d lm RT F pm_L_law (n + 1) 640 L st h = exI E d lm RT F (run E g mi_L_law d lm RT F pm_L_law n) (8, 0, 0, 641, []) L st h := run_s (by decide +kernel)
theorem r_L_law_641 : run E g mi_L_law d lm RT F pm_L_law (n + 1) 641 L st h = exI E d lm RT F (run E g mi_L_law d lm RT F pm_L_law n) (38, 0, 0, 642, []) L st h := run_s (by decide +kernel)
theorem r_L_law_642 : run E g mi_L_law d lm RT F pm_L_law (n + 1) 642 L st h = exI E d lm RT F (run E g mi_L_law d lm RT F pm_L_law n) (51, ((136 : Nat) : Int), ((4 : Nat) : Int), 645, [9]) L st h := run_s (by decide +kernel)
theorem r_L_law_645 : run E g mi_L_law d lm RT F pm_L_law (n + 1) 645 L st h = exI E d lm RT F (run E g mi_L_law d lm RT F pm_L_law n) (32, 0, ((805 : Nat) : Int), 648, []) L st h := run_s (by decide +kernel)
theorem r_L_law_648 : run E g mi_L_law d lm RT F pm_L_law (n + 1) 648 L st h = exI E d lm RT F (run E g mi_L_law d lm RT F pm_L_law n) (0, 0, 0, 649, []) L st h := run_s (by decide +kernel)
theorem r_L_law_649 : run E g mi_L_law d lm RT F pm_L_law (n + 1) 649 L st h = exI E d lm RT F (run E g mi_L_law d lm RT F pm_L_law n) (48, 1, 0, 0, []) L st h := run_s (by decide +kernel)
theorem r_L_law_650 : run E g mi_L_law d lm RT F pm_L_law (n + 1) 650 L st h = exI E d lm RT F (run E g mi_L_law d lm RT F pm_L_law n) (2, ((1 : Nat) : Int), 0, 651, []) L st h := run_s (by decide +kernel)
theorem r_L_law_651 : run E g mi_L_law d lm RT F pm_L_law (n + 1) 651 L st h = exI E d lm RT F (run E g mi_L_law d lm RT F pm_L_law n) (2, ((0 : Nat) : Int), 0, 652, []) L st h := run_s (by decide +kernel)
theorem r_L_law_652 : run E g mi_L_law d lm RT F pm_L_law (n + 1) 652 L st h = exI E d lm RT F (run E g mi_L_law d lm RT F pm_L_law n) (1, ((3 : Nat) : Int), 0, 653, []) L st h := run_s (by decide +kernel)
theorem r_L_law_653 : run E g mi_L_law d lm RT F pm_L_law (n + 1) 653 L st h = exI E d lm RT F (run E g mi_L_law d lm RT F pm_L_law n) (0, 1, 0, 654, []) L st h := run_s (by decide +kernel)
theorem r_L_law_654 : run E g mi_L_law d lm RT F pm_L_law (n + 1) 654 L st h = exI E d lm RT F (run E g mi_L_law d lm RT F pm_L_law n) (8, 0, 0, 655, []) L st h := run_s (by decide +kernel)
theorem r_L_law_655 : run E g mi_L_law d lm RT F pm_L_law (n + 1) 655 L st h = exI E d lm RT F (run E g mi_L_law d lm RT F pm_L_law n) (38, 0, 0, 656, []) L st h := run_s (by decide +kernel)
theorem r_L_law_656 : run E g mi_L_law d lm RT F pm_L_law (n + 1) 656 L st h = exI E d lm RT F (run E g mi_L_law d lm RT F pm_L_law n) (2, ((0 : Nat) : Int), 0, 657, []) L st h := run_s (by decide +kernel)
theorem r_L_law_657 : run E g mi_L_law d lm RT F pm_L_law (n + 1) 657 L st h = exI E d lm RT F (run E g mi_L_law d lm RT F pm_L_law n) (1, ((3 : Nat) : Int), 0, 658, []) L st h := run_s (by decide +kernel)
theorem r_L_law_658 : run E g mi_L_law d lm RT F pm_L_law (n + 1) 658 L st h = exI E d lm RT F (run E g mi_L_law d lm RT F pm_L_law n) (0, 2, 0, 659, []) L st h := run_s (by decide +kernel)
theorem r_L_law_659 : run E g mi_L_law d lm RT F pm_L_law (n + 1) 659 L st h = exI E d lm RT F (run E g mi_L_law d lm RT F pm_L_law n) (8, 0, 0, 660, []) L st h := run_s (by decide +kernel)
theorem r_L_law_660 : run E g mi_L_law d lm RT F pm_L_law (n + 1) 660 L st h = exI E d lm RT F (run E g mi_L_law d lm RT F pm_L_law n) (38, 0, 0, 661, []) L st h := run_s (by decide +kernel)
theorem r_L_law_661 : run E g mi_L_law d lm RT F pm_L_law (n + 1) 661 L st h = exI E d lm RT F (run E g mi_L_law d lm RT F pm_L_law n) (2, ((0 : Nat) : Int), 0, 662, []) L st h := run_s (by decide +kernel)
theorem r_L_law_662 : run E g mi_L_law d lm RT F pm_L_law (n + 1) 662 L st h = exI E d lm RT F (run E g mi_L_law d lm RT F pm_L_law n) (1, ((3 : Nat) : Int), 0, 663, []) L st h := run_s (by decide +kernel)
theorem r_L_law_663 : run E g mi_L_law d lm RT F pm_L_law (n + 1) 663 L st h = exI E d lm RT F (run E g mi_L_law d lm RT F pm_L_law n) (0, 3, 0, 664, []) L st h := run_s (by decide +kernel)
theorem r_L_law_664 : run E g mi_L_law d lm RT F pm_L_law (n + 1) 664 L st h = exI E d lm RT F (run E g mi_L_law d lm RT F pm_L_law n) (8, 0, 0, 665, []) L st h := run_s (by decide +kernel)
theorem r_L_law_665 : run E g mi_L_law d lm RT F pm_L_law (n + 1) 665 L st h = exI E d lm RT F (run E g mi_L_law d lm RT F pm_L_law n) (38, 0, 0, 666, []) L st h := run_s (by decide +kernel)
theorem r_L_law_666 : run E g mi_L_law d lm RT F pm_L_law (n + 1) 666 L st h = exI E d lm RT F (run E g mi_L_law d lm RT F pm_L_law n) (51, ((60 : Nat) : Int), ((4 : Nat) : Int), 669, [8]) L st h := run_s (by decide +kernel)
theorem r_L_law_669 : run E g mi_L_law d lm RT F pm_L_law (n + 1) 669 L st h = exI E d lm RT F (run E g mi_L_law d lm RT F pm_L_law n) (2, ((2 : Nat) : Int), 0, 670, []) L st h := run_s (by decide +kernel)
theorem r_L_law_670 : run E g mi_L_law d lm RT F pm_L_law (n + 1) 670 L st h = exI E d lm RT F (run E g mi_L_law d lm RT F pm_L_law n) (2, ((0 : Nat) : Int), 0, 671, []) L st h := run_s (by decide +kernel)
theorem r_L_law_671 : run E g mi_L_law d lm RT F pm_L_law (n + 1) 671 L st h = exI E d lm RT F (run E g mi_L_law d lm RT F pm_L_law n) (1, ((3 : Nat) : Int), 0, 672, []) L st h := run_s (by decide +kernel)
theorem r_L_law_672 : run E g mi_L_law d lm RT F pm_L_law (n + 1) 672 L st h = exI E d lm RT F (run E g mi_L_law d lm RT F pm_L_law n) (0, 1, 0, 673, []) L st h := run_s (by decide +kernel)
theorem r_L_law_673 : run E g mi_L_law d lm RT F pm_L_law (n + 1) 673 L st h = exI E d lm RT F (run E g mi_L_law d lm RT F pm_L_law n) (8, 0, 0, 674, []) L st h := run_s (by decide +kernel)
theorem r_L_law_674 : run E g mi_L_law d lm RT F pm_L_law (n + 1) 674 L st h = exI E d lm RT F (run E g mi_L_law d lm RT F pm_L_law n) (38, 0, 0, 675, []) L st h := run_s (by decide +kernel)
theorem r_L_law_675 : run E g mi_L_law d lm RT F pm_L_law (n + 1) 675 L st h = exI E d lm RT F (run E g mi_L_law d lm RT F pm_L_law n) (2, ((0 : Nat) : Int), 0, 676, []) L st h := run_s (by decide +kernel)
theorem r_L_law_676 : run E g mi_L_law d lm RT F pm_L_law (n + 1) 676 L st h = exI E d lm RT F (run E g mi_L_law d lm RT F pm_L_law n) (1, ((3 : Nat) : Int), 0, 677, []) L st h := run_s (by decide +kernel)
theorem r_L_law_677 : run E g mi_L_law d lm RT F pm_L_law (n + 1) 677 L st h = exI E d lm RT F (run E g mi_L_law d lm RT F pm_L_law n) (0, 2, 0, 678, []) L st h := run_s (by decide +kernel)
theorem r_L_law_678 : run E g mi_L_law d lm RT F pm_L_law (n + 1) 678 L st h = exI E d lm RT F (run E g mi_L_law d lm RT F pm_L_law n) (8, 0, 0, 679, []) L st h := run_s (by decide +kernel)
theorem r_L_law_679 : run E g mi_L_law d lm RT F pm_L_law (n + 1) 679 L st h = exI E d lm RT F (run E g mi_L_law d lm RT F pm_L_law n) (38, 0, 0, 680, []) L st h := run_s (by decide +kernel)
theorem r_L_law_680 : run E g mi_L_law d lm RT F pm_L_law (n + 1) 680 L st h = exI E d lm RT F (run E g mi_L_law d lm RT F pm_L_law n) (2, ((0 : Nat) : Int), 0, 681, []) L st h := run_s (by decide +kernel)
theorem r_L_law_681 : run E g mi_L_law d lm RT F pm_L_law (n + 1) 681 L st h = exI E d lm RT F (run E g mi_L_law d lm RT F pm_L_law n) (1, ((3 : Nat) : Int), 0, 682, []) L st h := run_s (by decide +kernel)
theorem r_L_law_682 : run E g mi_L_law d lm RT F pm_L_law (n + 1) 682 L st h = exI E d lm RT F (run E g mi_L_law d lm RT F pm_L_law n) (0, 3, 0, 683, []) L st h := run_s (by decide +kernel)
theorem r_L_law_683 : run E g mi_L_law d lm RT F pm_L_law (n + 1) 683 L st h = exI E d lm RT F (run E g mi_L_law d lm RT F pm_L_law n) (8, 0, 0, 684, []) L st h := run_s (by decide +kernel)
theorem r_L_law_684 : run E g mi_L_law d lm RT F pm_L_law (n + 1) 684 L st h = exI E d lm RT F (run E g mi_L_law d lm RT F pm_L_law n) (38, 0, 0, 685, []) L st h := run_s (by decide +kernel)
theorem r_L_law_685 : run E g mi_L_law d lm RT F pm_L_law (n + 1) 685 L st h = exI E d lm RT F (run E g mi_L_law d lm RT F pm_L_law n) (51, ((137 : Nat) : Int), ((4 : Nat) : Int), 688, [9]) L st h := run_s (by decide +kernel)
theorem r_L_law_688 : run E g mi_L_law d lm RT F pm_L_law (n + 1) 688 L st h = exI E d lm RT F (run E g mi_L_law d lm RT F pm_L_law n) (32, 0, ((805 : Nat) : Int), 691, []) L st h := run_s (by decide +kernel)
theorem r_L_law_691 : run E g mi_L_law d lm RT F pm_L_law (n + 1) 691 L st h = exI E d lm RT F (run E g mi_L_law d lm RT F pm_L_law n) (0, 0, 0, 692, []) L st h := run_s (by decide +kernel)
theorem r_L_law_692 : run E g mi_L_law d lm RT F pm_L_law (n + 1) 692 L st h = exI E d lm RT F (run E g mi_L_law d lm RT F pm_L_law n) (48, 1, 0, 0, []) L st h := run_s (by decide +kernel)
theorem r_L_law_693 : run E g mi_L_law d lm RT F pm_L_law (n + 1) 693 L st h = exI E d lm RT F (run E g mi_L_law d lm RT F pm_L_law n) (2, ((1 : Nat) : Int), 0, 694, []) L st h := run_s (by decide +kernel)
theorem r_L_law_694 : run E g mi_L_law d lm RT F pm_L_law (n + 1) 694 L st h = exI E d lm RT F (run E g mi_L_law d lm RT F pm_L_law n) (2, ((0 : Nat) : Int), 0, 695, []) L st h := run_s (by decide +kernel)
theorem r_L_law_695 : run E g mi_L_law d lm RT F pm_L_law (n + 1) 695 L st h = exI E d lm RT F (run E g mi_L_law d lm RT F pm_L_law n) (1, ((3 : Nat) : Int), 0, 696, []) L st h := run_s (by decide +kernel)
theorem r_L_law_696 : run E g mi_L_law d lm RT F pm_L_law (n + 1) 696 L st h = exI E d lm RT F (run E g mi_L_law d lm RT F pm_L_law n) (0, 1, 0, 697, []) L st h := run_s (by decide +kernel)
theorem r_L_law_697 : run E g mi_L_law d lm RT F pm_L_law (n + 1) 697 L st h = exI E d lm RT F (run E g mi_L_law d lm RT F pm_L_law n) (8, 0, 0, 698, []) L st h := run_s (by decide +kernel)
theorem r_L_law_698 : run E g mi_L_law d lm RT F pm_L_law (n + 1) 698 L st h = exI E d lm RT F (run E g mi_L_law d lm RT F pm_L_law n) (38, 0, 0, 699, []) L st h := run_s (by decide +kernel)
theorem r_L_law_699 : run E g mi_L_law d lm RT F pm_L_law (n + 1) 699 L st h = exI E d lm RT F (run E g mi_L_law d lm RT F pm_L_law n) (2, ((0 : Nat) : Int), 0, 700, []) L st h := run_s (by decide +kernel)
theorem r_L_law_700 : run E g mi_L_law d lm RT F pm_L_law (n + 1) 700 L st h = exI E d lm RT F (run E g mi_L_law d lm RT F pm_L_law n) (1, ((3 : Nat) : Int), 0, 701, []) L st h := run_s (by decide +kernel)
theorem r_L_law_701 : run E g mi_L_law d lm RT F pm_L_law (n + 1) 701 L st h = exI E d lm RT F (run E g mi_L_law d lm RT F pm_L_law n) (0, 2, 0, 702, []) L st h := run_s (by decide +kernel)
theorem r_L_law_702 : run E g mi_L_law d lm RT F pm_L_law (n + 1) 702 L st h = exI E d lm RT F (run E g mi_L_law d lm RT F pm_L_law n) (8, 0, 0, 703, []) L st h := run_s (by decide +kernel)
theorem r_L_law_703 : run E g mi_L_law d lm RT F pm_L_law (n + 1) 703 L st h = exI E d lm RT F (run E g mi_L_law d lm RT F pm_L_law n) (38, 0, 0, 704, []) L st h := run_s (by decide +kernel)
theorem r_L_law_704 : run E g mi_L_law d lm RT F pm_L_law (n + 1) 704 L st h = exI E d lm RT F (run E g mi_L_law d lm RT F pm_L_law n) (2, ((0 : Nat) : Int), 0, 705, []) L st h := run_s (by decide +kernel)
theorem r_L_law_705 : run E g mi_L_law d lm RT F pm_L_law (n + 1) 705 L st h = exI E d lm RT F (run E g mi_L_law d lm RT F pm_L_law n) (1, ((3 : Nat) : Int), 0, 706, []) L st h := run_s (by decide +kernel)
theorem r_L_law_706 : run E g mi_L_law d lm RT F pm_L_law (n + 1) 706 L st h = exI E d lm RT F (run E g mi_L_law d lm RT F pm_L_law n) (0, 3, 0, 707, []) L st h := run_s (by decide +kernel)
theorem r_L_law_707 : run E g mi_L_law d lm RT F pm_L_law (n + 1) 707 L st h = exI E d lm RT F (run E g mi_L_law d lm RT F pm_L_law n) (8, 0, 0, 708, []) L st h := run_s (by decide +kernel)
theorem r_L_law_708 : run E g mi_L_law d lm RT F pm_L_law (n + 1) 708 L st h = exI E d lm RT F (run E g mi_L_law d lm RT F pm_L_law n) (38, 0, 0, 709, []) L st h := run_s (by decide +kernel)
theorem r_L_law_709 : run E g mi_L_law d lm RT F pm_L_law (n + 1) 709 L st h = exI E d lm RT F (run E g mi_L_law d lm RT F pm_L_law n) (51, ((61 : Nat) : Int), ((4 : Nat) : Int), 712, [8]) L st h := run_s (by decide +kernel)
theorem r_L_law_712 : run E g mi_L_law d lm RT F pm_L_law (n + 1) 712 L st h = exI E d lm RT F (run E g mi_L_law d lm RT F pm_L_law n) (2, ((2 : Nat) : Int), 0, 713, []) L st h := run_s (by decide +kernel)
theorem r_L_law_713 : run E g mi_L_law d lm RT F pm_L_law (n + 1) 713 L st h = exI E d lm RT F (run E g mi_L_law d lm RT F pm_L_law n) (2, ((0 : Nat) : Int), 0, 714, []) L st h := run_s (by decide +kernel)
theorem r_L_law_714 : run E g mi_L_law d lm RT F pm_L_law (n + 1) 714 L st h = exI E d lm RT F (run E g mi_L_law d lm RT F pm_L_law n) (1, ((3 : Nat) : Int), 0, 715, []) L st h := run_s (by decide +kernel)
theorem r_L_law_715 : run E g mi_L_law d lm RT F pm_L_law (n + 1) 715 L st h = exI E d lm RT F (run E g mi_L_law d lm RT F pm_L_law n) (0, 1, 0, 716, []) L st h := run_s (by decide +kernel)
theorem r_L_law_716 : run E g mi_L_law d lm RT F pm_L_law (n + 1) 716 L st h = exI E d lm RT F (run E g mi_L_law d lm RT F pm_L_law n) (8, 0, 0, 717, []) L st h := run_s (by decide +kernel)
theorem r_L_law_717 : run E g mi_L_law d lm RT F pm_L_law (n + 1) 717 L st h = exI E d lm RT F (run E g mi_L_law d lm RT F pm_L_law n) (38, 0, 0, 718, []) L st h := run_s (by decide +kernel)
theorem r_L_law_718 : run E g mi_L_law d lm RT F pm_L_law (n + 1) 718 L st h = exI E d lm RT F (run E g mi_L_law d lm RT F pm_L_law n) (2, ((0 : Nat) : Int), 0, 719, []) L st h := run_s (by decide +kernel)
theorem r_L_law_719 : run E g mi_L_law d lm RT F pm_L_law (n + 1) 719 L st h = exI E d lm RT F (run E g mi_L_law d lm RT F pm_L_law n) (1, ((3 : Nat) : Int), 0, 720, []) L st h := run_s (by decide +kernel)
theorem r_L_law_720 : run E g mi_L_law d lm RT F pm_L_law (n + 1) 720 L st h = exI E d lm RT F (run E g mi_L_law d lm RT F pm_L_law n) (0, 2, 0, 721, []) L st h := run_s (by decide +kernel)
theorem r_L_law_721 : run E g mi_L_law d lm RT F pm_L_law (n + 1) 721 L st h = exI E d lm RT F (run E g mi_L_law d lm RT F pm_L_law n) (8, 0, 0, 722, []) L st h := run_s (by decide +kernel)
theorem r_L_law_722 : run E g mi_L_law d lm RT F pm_L_law (n + 1) 722 L st h = exI E d lm RT F (run E g mi_L_law d lm RT F pm_L_law n) (38, 0, 0, 723, []) L st h := run_s (by decide +kernel)
theorem r_L_law_723 : run E g mi_L_law d lm RT F pm_L_law (n + 1) 723 L st h = exI E d lm RT F (run E g mi_L_law d lm RT F pm_L_law n) (2, ((0 : Nat) : Int), 0, 724, []) L st h := run_s (by decide +kernel)
theorem r_L_law_724 : run E g mi_L_law d lm RT F pm_L_law (n + 1) 724 L st h = exI E d lm RT F (run E g mi_L_law d lm RT F pm_L_law n) (1, ((3 : Nat) : Int), 0, 725, []) L st h := run_s (by decide +kernel)
theorem r_L_law_725 : run E g mi_L_law d lm RT F pm_L_law (n + 1) 725 L st h = exI E d lm RT F (run E g mi_L_law d lm RT F pm_L_law n) (0, 3, 0, 726, []) L st h := run_s (by decide +kernel)
theorem r_L_law_726 : run E g mi_L_law d lm RT F pm_L_law (n + 1) 726 L st h = exI E d lm RT F (run E g mi_L_law d lm RT F pm_L_law n) (8, 0, 0, 727, []) L st h := run_s (by decide +kernel)
theorem r_L_law_727 : run E g mi_L_law d lm RT F pm_L_law (n + 1) 727 L st h = exI E d lm RT F (run E g mi_L_law d lm RT F pm_L_law n) (38, 0, 0, 728, []) L st h := run_s (by decide +kernel)
theorem r_L_law_728 : run E g mi_L_law d lm RT F pm_L_law (n + 1) 728 L st h = exI E d lm RT F (run E g mi_L_law d lm RT F pm_L_law n) (51, ((139 : Nat) : Int), ((4 : Nat) : Int), 731, [9]) L st h := run_s (by decide +kernel)
theorem r_L_law_731 : run E g mi_L_law d lm RT F pm_L_law (n + 1) 731 L st h = exI E d lm RT F (run E g mi_L_law d lm RT F pm_L_law n) (32, 0, ((805 : Nat) : Int), 734, []) L st h := run_s (by decide +kernel)
theorem r_L_law_734 : run E g mi_L_law d lm RT F pm_L_law (n + 1) 734 L st h = exI E d lm RT F (run E g mi_L_law d lm RT F pm_L_law n) (0, 0, 0, 735, []) L st h := run_s (by decide +kernel)
theorem r_L_law_735 : run E g mi_L_law d lm RT F pm_L_law (n + 1) 735 L st h = exI E d lm RT F (run E g mi_L_law d lm RT F pm_L_law n) (48, 1, 0, 0, []) L st h := run_s (by decide +kernel)
theorem r_L_law_736 : run E g mi_L_law d lm RT F pm_L_law (n + 1) 736 L st h = exI E d lm RT F (run E g mi_L_law d lm RT F pm_L_law n) (2, ((1 : Nat) : Int), 0, 737, []) L st h := run_s (by decide +kernel)
theorem r_L_law_737 : run E g mi_L_law d lm RT F pm_L_law (n + 1) 737 L st h = exI E d lm RT F (run E g mi_L_law d lm RT F pm_L_law n) (2, ((0 : Nat) : Int), 0, 738, []) L st h := run_s (by decide +kernel)
theorem r_L_law_738 : run E g mi_L_law d lm RT F pm_L_law (n + 1) 738 L st h = exI E d lm RT F (run E g mi_L_law d lm RT F pm_L_law n) (1, ((3 : Nat) : Int), 0, 739, []) L st h := run_s (by decide +kernel)
theorem r_L_law_739 : run E g mi_L_law d lm RT F pm_L_law (n + 1) 739 L st h = exI E d lm RT F (run E g mi_L_law d lm RT F pm_L_law n) (0, 1, 0, 740, []) L st h := run_s (by decide +kernel)
theorem r_L_law_740 : run E g mi_L_law d lm RT F pm_L_law (n + 1) 740 L st h = exI E d lm RT F (run E g mi_L_law d lm RT F pm_L_law n) (8, 0, 0, 741, []) L st h := run_s (by decide +kernel)
theorem r_L_law_741 : run E g mi_L_law d lm RT F pm_L_law (n + 1) 741 L st h = exI E d lm RT F (run E g mi_L_law d lm RT F pm_L_law n) (38, 0, 0, 742, []) L st h := run_s (by decide +kernel)
theorem r_L_law_742 : run E g mi_L_law d lm RT F pm_L_law (n + 1) 742 L st h = exI E d lm RT F (run E g mi_L_law d lm RT F pm_L_law n) (2, ((0 : Nat) : Int), 0, 743, []) L st h := run_s (by decide +kernel)
theorem r_L_law_743 : run E g mi_L_law d lm RT F pm_L_law (n + 1) 743 L st h = exI E d lm RT F (run E g mi_L_law d lm RT F pm_L_law n) (1, ((3 : Nat) : Int), 0, 744, []) L st h := run_s (by decide +kernel)
theorem r_L_law_744 : run E g mi_L_law d lm RT F pm_L_law (n + 1) 744 L st h = exI E d lm RT F (run E g mi_L_law d lm RT F pm_L_law n) (0, 2, 0, 745, []) L st h := run_s (by decide +kernel)
theorem r_L_law_745 : run E g mi_L_law d lm RT F pm_L_law (n + 1) 745 L st h = exI E d lm RT F (run E g mi_L_law d lm RT F pm_L_law n) (8, 0, 0, 746, []) L st h := run_s (by decide +kernel)
theorem r_L_law_746 : run E g mi_L_law d lm RT F pm_L_law (n + 1) 746 L st h = exI E d lm RT F (run E g mi_L_law d lm RT F pm_L_law n) (38, 0, 0, 747, []) L st h := run_s (by decide +kernel)
theorem r_L_law_747 : run E g mi_L_law d lm RT F pm_L_law (n + 1) 747 L st h = exI E d lm RT F (run E g mi_L_law d lm RT F pm_L_law n) (51, ((62 : Nat) : Int), ((3 : Nat) : Int), 750, [8]) L st h := run_s (by decide +kernel)
theorem r_L_law_750 : run E g mi_L_law d lm RT F pm_L_law (n + 1) 750 L st h = exI E d lm RT F (run E g mi_L_law d lm RT F pm_L_law n) (2, ((2 : Nat) : Int), 0, 751, []) L st h := run_s (by decide +kernel)
theorem r_L_law_751 : run E g mi_L_law d lm RT F pm_L_law (n + 1) 751 L st h = exI E d lm RT F (run E g mi_L_law d lm RT F pm_L_law n) (2, ((0 : Nat) : Int), 0, 752, []) L st h := run_s (by decide +kernel)
theorem r_L_law_752 : run E g mi_L_law d lm RT F pm_L_law (n + 1) 752 L st h = exI E d lm RT F (run E g mi_L_law d lm RT F pm_L_law n) (1, ((3 : Nat) : Int), 0, 753, []) L st h := run_s (by decide +kernel)
theorem r_L_law_753 : run E g mi_L_law d lm RT F pm_L_law (n + 1) 753 L st h = exI E d lm RT F (run E g mi_L_law d lm RT F pm_L_law n) (0, 1, 0, 754, []) L st h := run_s (by decide +kernel)
theorem r_L_law_754 : run E g mi_L_law d lm RT F pm_L_law (n + 1) 754 L st h = exI E d lm RT F (run E g mi_L_law d lm RT F pm_L_law n) (8, 0, 0, 755, []) L st h := run_s (by decide +kernel)
theorem r_L_law_755 : run E g mi_L_law d lm RT F pm_L_law (n + 1) 755 L st h = exI E d lm RT F (run E g mi_L_law d lm RT F pm_L_law n) (38, 0, 0, 756, []) L st h := run_s (by decide +kernel)
theorem r_L_law_756 : run E g mi_L_law d lm RT F pm_L_law (n + 1) 756 L st h = exI E d lm RT F (run E g mi_L_law d lm RT F pm_L_law n) (2, ((0 : Nat) : Int), 0, 757, []) L st h := run_s (by decide +kernel)
theorem r_L_law_757 : run E g mi_L_law d lm RT F pm_L_law (n + 1) 757 L st h = exI E d lm RT F (run E g mi_L_law d lm RT F pm_L_law n) (1, ((3 : Nat) : Int), 0, 758, []) L st h := run_s (by decide +kernel)
theorem r_L_law_758 : run E g mi_L_law d lm RT F pm_L_law (n + 1) 758 L st h = exI E d lm RT F (run E g mi_L_law d lm RT F pm_L_law n) (0, 2, 0, 759, []) L st h := run_s (by decide +kernel)
theorem r_L_law_759 : run E g mi_L_law d lm RT F pm_L_law (n + 1) 759 L st h = exI E d lm RT F (run E g mi_L_law d lm RT F pm_L_law n) (8, 0, 0, 760, []) L st h := run_s (by decide +kernel)
theorem r_L_law_760 : run E g mi_L_law d lm RT F pm_L_law (n + 1) 760 L st h = exI E d lm RT F (run E g mi_L_law d lm RT F pm_L_law n) (38, 0, 0, 761, []) L st h := run_s (by decide +kernel)
theorem r_L_law_761 : run E g mi_L_law d lm RT F pm_L_law (n + 1) 761 L st h = exI E d lm RT F (run E g mi_L_law d lm RT F pm_L_law n) (51, ((141 : Nat) : Int), ((3 : Nat) : Int), 764, [9]) L st h := run_s (by decide +kernel)
theorem r_L_law_764 : run E g mi_L_law d lm RT F pm_L_law (n + 1) 764 L st h = exI E d lm RT F (run E g mi_L_law d lm RT F pm_L_law n) (32, 0, ((805 : Nat) : Int), 767, []) L st h := run_s (by decide +kernel)
theorem r_L_law_767 : run E g mi_L_law d lm RT F pm_L_law (n + 1) 767 L st h = exI E d lm RT F (run E g mi_L_law d lm RT F pm_L_law n) (0, 0, 0, 768, []) L st h := run_s (by decide +kernel)
theorem r_L_law_768 : run E g mi_L_law d lm RT F pm_L_law (n + 1) 768 L st h = exI E d lm RT F (run E g mi_L_law d lm RT F pm_L_law n) (48, 1, 0, 0, []) L st h := run_s (by decide +kernel)
theorem r_L_law_769 : run E g mi_L_law d lm RT F pm_L_law (n + 1) 769 L st h = exI E d lm RT F (run E g mi_L_law d lm RT F pm_L_law n) (2, ((1 : Nat) : Int), 0, 770, []) L st h := run_s (by decide +kernel)
theorem r_L_law_770 : run E g mi_L_law d lm RT F pm_L_law (n + 1) 770 L st h = exI E d lm RT F (run E g mi_L_law d lm RT F pm_L_law n) (51, ((63 : Nat) : Int), ((1 : Nat) : Int), 773, [8]) L st h := run_s (by decide +kernel)
theorem r_L_law_773 : run E g mi_L_law d lm RT F pm_L_law (n + 1) 773 L st h = exI E d lm RT F (run E g mi_L_law d lm RT F pm_L_law n) (2, ((2 : Nat) : Int), 0, 774, []) L st h := run_s (by decide +kernel)
theorem r_L_law_774 : run E g mi_L_law d lm RT F pm_L_law (n + 1) 774 L st h = exI E d lm RT F (run E g mi_L_law d lm RT F pm_L_law n) (51, ((142 : Nat) : Int), ((1 : Nat) : Int), 777, [9]) L st h := run_s (by decide +kernel)
theorem r_L_law_777 : run E g mi_L_law d lm RT F pm_L_law (n + 1) 777 L st h = exI E d lm RT F (run E g mi_L_law d lm RT F pm_L_law n) (32, 0, ((805 : Nat) : Int), 780, []) L st h := run_s (by decide +kernel)
theorem r_L_law_780 : run E g mi_L_law d lm RT F pm_L_law (n + 1) 780 L st h = exI E d lm RT F (run E g mi_L_law d lm RT F pm_L_law n) (0, 0, 0, 781, []) L st h := run_s (by decide +kernel)
theorem r_L_law_781 : run E g mi_L_law d lm RT F pm_L_law (n + 1) 781 L st h = exI E d lm RT F (run E g mi_L_law d lm RT F pm_L_law n) (48, 1, 0, 0, []) L st h := run_s (by decide +kernel)
theorem r_L_law_782 : run E g mi_L_law d lm RT F pm_L_law (n + 1) 782 L st h = exI E d lm RT F (run E g mi_L_law d lm RT F pm_L_law n) (2, ((1 : Nat) : Int), 0, 783, []) L st h := run_s (by decide +kernel)
theorem r_L_law_783 : run E g mi_L_law d lm RT F pm_L_law (n + 1) 783 L st h = exI E d lm RT F (run E g mi_L_law d lm RT F pm_L_law n) (2, ((0 : Nat) : Int), 0, 784, []) L st h := run_s (by decide +kernel)
theorem r_L_law_784 : run E g mi_L_law d lm RT F pm_L_law (n + 1) 784 L st h = exI E d lm RT F (run E g mi_L_law d lm RT F pm_L_law n) (1, ((3 : Nat) : Int), 0, 785, []) L st h := run_s (by decide +kernel)
theorem r_L_law_785 : run E g mi_L_law d lm RT F pm_L_law (n + 1) 785 L st h = exI E d lm RT F (run E g mi_L_law d lm RT F pm_L_law n) (0, 1, 0, 786, []) L st h := run_s (by decide +kernel)
theorem r_L_law_786 : run E g mi_L_law d lm RT F pm_L_law (n + 1) 786 L st h = exI E d lm RT F (run E g mi_L_law d lm RT F pm_L_law n) (8, 0, 0, 787, []) L st h := run_s (by decide +kernel)
theorem r_L_law_787 : run E g mi_L_law d lm RT F pm_L_law (n + 1) 787 L st h = exI E d lm RT F (run E g mi_L_law d lm RT F pm_L_law n) (38, 0, 0, 788, []) L st h := run_s (by decide +kernel)
theorem r_L_law_788 : run E g mi_L_law d lm RT F pm_L_law (n + 1) 788 L st h = exI E d lm RT F (run E g mi_L_law d lm RT F pm_L_law n) (51, ((64 : Nat) : Int), ((2 : Nat) : Int), 791, [8]) L st h := run_s (by decide +kernel)
theorem r_L_law_791 : run E g mi_L_law d lm RT F pm_L_law (n + 1) 791 L st h = exI E d lm RT F (run E g mi_L_law d lm RT F pm_L_law n) (2, ((2 : Nat) : Int), 0, 792, []) L st h := run_s (by decide +kernel)
theorem r_L_law_792 : run E g mi_L_law d lm RT F pm_L_law (n + 1) 792 L st h = exI E d lm RT F (run E g mi_L_law d lm RT F pm_L_law n) (2, ((0 : Nat) : Int), 0, 793, []) L st h := run_s (by decide +kernel)
theorem r_L_law_793 : run E g mi_L_law d lm RT F pm_L_law (n + 1) 793 L st h = exI E d lm RT F (run E g mi_L_law d lm RT F pm_L_law n) (1, ((3 : Nat) : Int), 0, 794, []) L st h := run_s (by decide +kernel)
theorem r_L_law_794 : run E g mi_L_law d lm RT F pm_L_law (n + 1) 794 L st h = exI E d lm RT F (run E g mi_L_law d lm RT F pm_L_law n) (0, 1, 0, 795, []) L st h := run_s (by decide +kernel)
theorem r_L_law_795 : run E g mi_L_law d lm RT F pm_L_law (n + 1) 795 L st h = exI E d lm RT F (run E g mi_L_law d lm RT F pm_L_law n) (8, 0, 0, 796, []) L st h := run_s (by decide +kernel)
theorem r_L_law_796 : run E g mi_L_law d lm RT F pm_L_law (n + 1) 796 L st h = exI E d lm RT F (run E g mi_L_law d lm RT F pm_L_law n) (38, 0, 0, 797, []) L st h := run_s (by decide +kernel)
theorem r_L_law_797 : run E g mi_L_law d lm RT F pm_L_law (n + 1) 797 L st h = exI E d lm RT F (run E g mi_L_law d lm RT F pm_L_law n) (51, ((144 : Nat) : Int), ((2 : Nat) : Int), 800, [9]) L st h := run_s (by decide +kernel)
theorem r_L_law_800 : run E g mi_L_law d lm RT F pm_L_law (n + 1) 800 L st h = exI E d lm RT F (run E g mi_L_law d lm RT F pm_L_law n) (32, 0, ((805 : Nat) : Int), 803, []) L st h := run_s (by decide +kernel)
theorem r_L_law_803 : run E g mi_L_law d lm RT F pm_L_law (n + 1) 803 L st h = exI E d lm RT F (run E g mi_L_law d lm RT F pm_L_law n) (0, 0, 0, 804, []) L st h := run_s (by decide +kernel)
theorem r_L_law_804 : run E g mi_L_law d lm RT F pm_L_law (n + 1) 804 L st h = exI E d lm RT F (run E g mi_L_law d lm RT F pm_L_law n) (48, 1, 0, 0, []) L st h := run_s (by decide +kernel)
theorem r_L_law_805 : run E g mi_L_law d lm RT F pm_L_law (n + 1) 805 L st h = exI E d lm RT F (run E g mi_L_law d lm RT F pm_L_law n) (7, ((3 : Nat) : Int), 5, 808, []) L st h := run_s (by decide +kernel)
theorem r_L_law_808 : run E g mi_L_law d lm RT F pm_L_law (n + 1) 808 L st h = exI E d lm RT F (run E g mi_L_law d lm RT F pm_L_law n) (33, ((18 : Nat) : Int), 0, 0, []) L st h := run_s (by decide +kernel)
theorem r_L_law_811 : run E g mi_L_law d lm RT F pm_L_law (n + 1) 811 L st h = exI E d lm RT F (run E g mi_L_law d lm RT F pm_L_law n) (0, 1, 0, 812, []) L st h := run_s (by decide +kernel)
theorem r_L_law_812 : run E g mi_L_law d lm RT F pm_L_law (n + 1) 812 L st h = exI E d lm RT F (run E g mi_L_law d lm RT F pm_L_law n) (48, 1, 0, 0, []) L st h := run_s (by decide +kernel)
theorem e_L_law (n : Nat) {pc : Nat} (hF : FOk E d F) (hx : run E g mi_L_law d lm RT F pm_L_law n pc L st h) : G E g mi_L_law d lm RT pc L st h := run_sound hF pk_L_law n pc L st h hx
end

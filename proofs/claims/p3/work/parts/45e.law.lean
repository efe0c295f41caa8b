/-! ===== the law: its code, its calls ===== -/
def tb_L : Tab := [(0, .new 7, 3, []),
  (3, .dup, 4, []),
  (4, .invokespecial 9, 7, []),
  (7, .astore_n 1, 8, []),
  (8, .new 10, 11, []),
  (11, .dup, 12, []),
  (12, .invokespecial 12, 15, []),
  (15, .astore_n 2, 16, []),
  (16, .iconst 0, 17, []),
  (17, .istore_n 3, 18, []),
  (18, .iload_n 3, 19, []),
  (19, .aload_n 0, 20, []),
  (20, .arraylength, 21, []),
  (21, .bipush 7, 23, []),
  (23, .isub, 24, []),
  (24, .if_icmp .gt 1281, 27, [1305]),
  (27, .aload_n 0, 28, []),
  (28, .iload_n 3, 29, []),
  (29, .iaload, 30, []),
  (30, .bipush 63, 32, []),
  (32, .iand, 33, []),
  (33, .tableswitch 1266 0 32 #[147, 180, 213, 246, 309, 322, 335, 348, 381, 424, 493, 536, 595, 648, 661, 704, 727, 740, 851, 864, 877, 910, 943, 976, 1009, 1042, 1075, 1098, 1141, 1174, 1217, 1230, 1243], 147, [1299, 180, 213, 246, 279, 342, 355, 368, 381, 414, 457, 526, 569, 628, 681, 694, 737, 760, 773, 884, 897, 910, 943, 976, 1009, 1042, 1075, 1108, 1131, 1174, 1207, 1250, 1263, 1276]),
  (180, .aload_n 1, 181, []),
  (181, .aload_n 0, 182, []),
  (182, .iload_n 3, 183, []),
  (183, .iconst 1, 184, []),
  (184, .iadd, 185, []),
  (185, .iaload, 186, []),
  (186, .aload_n 0, 187, []),
  (187, .iload_n 3, 188, []),
  (188, .iconst 2, 189, []),
  (189, .iadd, 190, []),
  (190, .iaload, 191, []),
  (191, .invokevirtual 13, 194, []),
  (194, .pop, 195, []),
  (195, .aload_n 2, 196, []),
  (196, .aload_n 0, 197, []),
  (197, .iload_n 3, 198, []),
  (198, .iconst 1, 199, []),
  (199, .iadd, 200, []),
  (200, .iaload, 201, []),
  (201, .aload_n 0, 202, []),
  (202, .iload_n 3, 203, []),
  (203, .iconst 2, 204, []),
  (204, .iadd, 205, []),
  (205, .iaload, 206, []),
  (206, .invokevirtual 17, 209, []),
  (209, .pop, 210, []),
  (210, .goto 1089, 213, [1299]),
  (213, .aload_n 1, 214, []),
  (214, .aload_n 0, 215, []),
  (215, .iload_n 3, 216, []),
  (216, .iconst 1, 217, []),
  (217, .iadd, 218, []),
  (218, .iaload, 219, []),
  (219, .aload_n 0, 220, []),
  (220, .iload_n 3, 221, []),
  (221, .iconst 2, 222, []),
  (222, .iadd, 223, []),
  (223, .iaload, 224, []),
  (224, .invokevirtual 18, 227, []),
  (227, .aload_n 2, 228, []),
  (228, .aload_n 0, 229, []),
  (229, .iload_n 3, 230, []),
  (230, .iconst 1, 231, []),
  (231, .iadd, 232, []),
  (232, .iaload, 233, []),
  (233, .aload_n 0, 234, []),
  (234, .iload_n 3, 235, []),
  (235, .iconst 2, 236, []),
  (236, .iadd, 237, []),
  (237, .iaload, 238, []),
  (238, .invokevirtual 21, 241, []),
  (241, .if_icmp .eq 1058, 244, [1299]),
  (244, .iconst 0, 245, []),
  (245, .ireturn, 246, []),
  (246, .aload_n 1, 247, []),
  (247, .aload_n 0, 248, []),
  (248, .iload_n 3, 249, []),
  (249, .iconst 1, 250, []),
  (250, .iadd, 251, []),
  (251, .iaload, 252, []),
  (252, .aload_n 0, 253, []),
  (253, .iload_n 3, 254, []),
  (254, .iconst 2, 255, []),
  (255, .iadd, 256, []),
  (256, .iaload, 257, []),
  (257, .invokevirtual 22, 260, []),
  (260, .pop, 261, []),
  (261, .aload_n 2, 262, []),
  (262, .aload_n 0, 263, []),
  (263, .iload_n 3, 264, []),
  (264, .iconst 1, 265, []),
  (265, .iadd, 266, []),
  (266, .iaload, 267, []),
  (267, .aload_n 0, 268, []),
  (268, .iload_n 3, 269, []),
  (269, .iconst 2, 270, []),
  (270, .iadd, 271, []),
  (271, .iaload, 272, []),
  (272, .invokevirtual 25, 275, []),
  (275, .pop, 276, []),
  (276, .goto 1023, 279, [1299]),
  (279, .aload_n 1, 280, []),
  (280, .aload_n 0, 281, []),
  (281, .iload_n 3, 282, []),
  (282, .iconst 1, 283, []),
  (283, .iadd, 284, []),
  (284, .iaload, 285, []),
  (285, .aload_n 0, 286, []),
  (286, .iload_n 3, 287, []),
  (287, .iconst 2, 288, []),
  (288, .iadd, 289, []),
  (289, .iaload, 290, []),
  (290, .i2l, 291, []),
  (291, .bipush 32, 293, []),
  (293, .lshl, 294, []),
  (294, .aload_n 0, 295, []),
  (295, .iload_n 3, 296, []),
  (296, .iconst 3, 297, []),
  (297, .iadd, 298, []),
  (298, .iaload, 299, []),
  (299, .i2l, 300, []),
  (300, .ldc2_w 26, 303, []),
  (303, .land, 304, []),
  (304, .lor, 305, []),
  (305, .invokevirtual 28, 308, []),
  (308, .pop, 309, []),
  (309, .aload_n 2, 310, []),
  (310, .aload_n 0, 311, []),
  (311, .iload_n 3, 312, []),
  (312, .iconst 1, 313, []),
  (313, .iadd, 314, []),
  (314, .iaload, 315, []),
  (315, .aload_n 0, 316, []),
  (316, .iload_n 3, 317, []),
  (317, .iconst 2, 318, []),
  (318, .iadd, 319, []),
  (319, .iaload, 320, []),
  (320, .i2l, 321, []),
  (321, .bipush 32, 323, []),
  (323, .lshl, 324, []),
  (324, .aload_n 0, 325, []),
  (325, .iload_n 3, 326, []),
  (326, .iconst 3, 327, []),
  (327, .iadd, 328, []),
  (328, .iaload, 329, []),
  (329, .i2l, 330, []),
  (330, .ldc2_w 26, 333, []),
  (333, .land, 334, []),
  (334, .lor, 335, []),
  (335, .invokevirtual 32, 338, []),
  (338, .pop, 339, []),
  (339, .goto 960, 342, [1299]),
  (342, .aload_n 1, 343, []),
  (343, .invokevirtual 33, 346, []),
  (346, .pop, 347, []),
  (347, .aload_n 2, 348, []),
  (348, .invokevirtual 37, 351, []),
  (351, .pop, 352, []),
  (352, .goto 947, 355, [1299]),
  (355, .aload_n 1, 356, []),
  (356, .invokevirtual 38, 359, []),
  (359, .pop, 360, []),
  (360, .aload_n 2, 361, []),
  (361, .invokevirtual 41, 364, []),
  (364, .pop, 365, []),
  (365, .goto 934, 368, [1299]),
  (368, .aload_n 1, 369, []),
  (369, .invokevirtual 42, 372, []),
  (372, .pop, 373, []),
  (373, .aload_n 2, 374, []),
  (374, .invokevirtual 45, 377, []),
  (377, .pop, 378, []),
  (378, .goto 921, 381, [1299]),
  (381, .aload_n 1, 382, []),
  (382, .aload_n 0, 383, []),
  (383, .iload_n 3, 384, []),
  (384, .iconst 1, 385, []),
  (385, .iadd, 386, []),
  (386, .iaload, 387, []),
  (387, .aload_n 0, 388, []),
  (388, .iload_n 3, 389, []),
  (389, .iconst 2, 390, []),
  (390, .iadd, 391, []),
  (391, .iaload, 392, []),
  (392, .invokevirtual 46, 395, []),
  (395, .pop, 396, []),
  (396, .aload_n 2, 397, []),
  (397, .aload_n 0, 398, []),
  (398, .iload_n 3, 399, []),
  (399, .iconst 1, 400, []),
  (400, .iadd, 401, []),
  (401, .iaload, 402, []),
  (402, .aload_n 0, 403, []),
  (403, .iload_n 3, 404, []),
  (404, .iconst 2, 405, []),
  (405, .iadd, 406, []),
  (406, .iaload, 407, []),
  (407, .invokevirtual 49, 410, []),
  (410, .pop, 411, []),
  (411, .goto 888, 414, [1299]),
  (414, .aload_n 1, 415, []),
  (415, .aload_n 0, 416, []),
  (416, .iload_n 3, 417, []),
  (417, .iconst 1, 418, []),
  (418, .iadd, 419, []),
  (419, .iaload, 420, []),
  (420, .aload_n 0, 421, []),
  (421, .iload_n 3, 422, []),
  (422, .iconst 2, 423, []),
  (423, .iadd, 424, []),
  (424, .iaload, 425, []),
  (425, .aload_n 0, 426, []),
  (426, .iload_n 3, 427, []),
  (427, .iconst 3, 428, []),
  (428, .iadd, 429, []),
  (429, .iaload, 430, []),
  (430, .invokevirtual 50, 433, []),
  (433, .pop, 434, []),
  (434, .aload_n 2, 435, []),
  (435, .aload_n 0, 436, []),
  (436, .iload_n 3, 437, []),
  (437, .iconst 1, 438, []),
  (438, .iadd, 439, []),
  (439, .iaload, 440, []),
  (440, .aload_n 0, 441, []),
  (441, .iload_n 3, 442, []),
  (442, .iconst 2, 443, []),
  (443, .iadd, 444, []),
  (444, .iaload, 445, []),
  (445, .aload_n 0, 446, []),
  (446, .iload_n 3, 447, []),
  (447, .iconst 3, 448, []),
  (448, .iadd, 449, []),
  (449, .iaload, 450, []),
  (450, .invokevirtual 54, 453, []),
  (453, .pop, 454, []),
  (454, .goto 845, 457, [1299]),
  (457, .aload_n 1, 458, []),
  (458, .aload_n 0, 459, []),
  (459, .iload_n 3, 460, []),
  (460, .iconst 1, 461, []),
  (461, .iadd, 462, []),
  (462, .iaload, 463, []),
  (463, .ifCond .eq 7, 466, [470]),
  (466, .iconst 1, 467, []),
  (467, .goto 4, 470, [471]),
  (470, .iconst 0, 471, []),
  (471, .aload_n 0, 472, []),
  (472, .iload_n 3, 473, []),
  (473, .iconst 2, 474, []),
  (474, .iadd, 475, []),
  (475, .iaload, 476, []),
  (476, .aload_n 0, 477, []),
  (477, .iload_n 3, 478, []),
  (478, .iconst 3, 479, []),
  (479, .iadd, 480, []),
  (480, .iaload, 481, []),
  (481, .aload_n 0, 482, []),
  (482, .iload_n 3, 483, []),
  (483, .iconst 4, 484, []),
  (484, .iadd, 485, []),
  (485, .iaload, 486, []),
  (486, .invokevirtual 55, 489, []),
  (489, .pop, 490, []),
  (490, .aload_n 2, 491, []),
  (491, .aload_n 0, 492, []),
  (492, .iload_n 3, 493, []),
  (493, .iconst 1, 494, []),
  (494, .iadd, 495, []),
  (495, .iaload, 496, []),
  (496, .ifCond .eq 7, 499, [503]),
  (499, .iconst 1, 500, []),
  (500, .goto 4, 503, [504]),
  (503, .iconst 0, 504, []),
  (504, .aload_n 0, 505, []),
  (505, .iload_n 3, 506, []),
  (506, .iconst 2, 507, []),
  (507, .iadd, 508, []),
  (508, .iaload, 509, []),
  (509, .aload_n 0, 510, []),
  (510, .iload_n 3, 511, []),
  (511, .iconst 3, 512, []),
  (512, .iadd, 513, []),
  (513, .iaload, 514, []),
  (514, .aload_n 0, 515, []),
  (515, .iload_n 3, 516, []),
  (516, .iconst 4, 517, []),
  (517, .iadd, 518, []),
  (518, .iaload, 519, []),
  (519, .invokevirtual 59, 522, []),
  (522, .pop, 523, []),
  (523, .goto 776, 526, [1299]),
  (526, .aload_n 1, 527, []),
  (527, .aload_n 0, 528, []),
  (528, .iload_n 3, 529, []),
  (529, .iconst 1, 530, []),
  (530, .iadd, 531, []),
  (531, .iaload, 532, []),
  (532, .aload_n 0, 533, []),
  (533, .iload_n 3, 534, []),
  (534, .iconst 2, 535, []),
  (535, .iadd, 536, []),
  (536, .iaload, 537, []),
  (537, .aload_n 0, 538, []),
  (538, .iload_n 3, 539, []),
  (539, .iconst 3, 540, []),
  (540, .iadd, 541, []),
  (541, .iaload, 542, []),
  (542, .invokevirtual 60, 545, []),
  (545, .pop, 546, []),
  (546, .aload_n 2, 547, []),
  (547, .aload_n 0, 548, []),
  (548, .iload_n 3, 549, []),
  (549, .iconst 1, 550, []),
  (550, .iadd, 551, []),
  (551, .iaload, 552, []),
  (552, .aload_n 0, 553, []),
  (553, .iload_n 3, 554, []),
  (554, .iconst 2, 555, []),
  (555, .iadd, 556, []),
  (556, .iaload, 557, []),
  (557, .aload_n 0, 558, []),
  (558, .iload_n 3, 559, []),
  (559, .iconst 3, 560, []),
  (560, .iadd, 561, []),
  (561, .iaload, 562, []),
  (562, .invokevirtual 63, 565, []),
  (565, .pop, 566, []),
  (566, .goto 733, 569, [1299]),
  (569, .aload_n 1, 570, []),
  (570, .aload_n 0, 571, []),
  (571, .iload_n 3, 572, []),
  (572, .iconst 1, 573, []),
  (573, .iadd, 574, []),
  (574, .iaload, 575, []),
  (575, .ifCond .eq 7, 578, [582]),
  (578, .iconst 1, 579, []),
  (579, .goto 4, 582, [583]),
  (582, .iconst 0, 583, []),
  (583, .aload_n 0, 584, []),
  (584, .iload_n 3, 585, []),
  (585, .iconst 2, 586, []),
  (586, .iadd, 587, []),
  (587, .iaload, 588, []),
  (588, .aload_n 0, 589, []),
  (589, .iload_n 3, 590, []),
  (590, .iconst 3, 591, []),
  (591, .iadd, 592, []),
  (592, .iaload, 593, []),
  (593, .invokevirtual 64, 596, []),
  (596, .pop2, 597, []),
  (597, .aload_n 2, 598, []),
  (598, .aload_n 0, 599, []),
  (599, .iload_n 3, 600, []),
  (600, .iconst 1, 601, []),
  (601, .iadd, 602, []),
  (602, .iaload, 603, []),
  (603, .ifCond .eq 7, 606, [610]),
  (606, .iconst 1, 607, []),
  (607, .goto 4, 610, [611]),
  (610, .iconst 0, 611, []),
  (611, .aload_n 0, 612, []),
  (612, .iload_n 3, 613, []),
  (613, .iconst 2, 614, []),
  (614, .iadd, 615, []),
  (615, .iaload, 616, []),
  (616, .aload_n 0, 617, []),
  (617, .iload_n 3, 618, []),
  (618, .iconst 3, 619, []),
  (619, .iadd, 620, []),
  (620, .iaload, 621, []),
  (621, .invokevirtual 68, 624, []),
  (624, .pop2, 625, []),
  (625, .goto 674, 628, [1299]),
  (628, .aload_n 1, 629, []),
  (629, .aload_n 0, 630, []),
  (630, .iload_n 3, 631, []),
  (631, .iconst 1, 632, []),
  (632, .iadd, 633, []),
  (633, .iaload, 634, []),
  (634, .aload_n 0, 635, []),
  (635, .iload_n 3, 636, []),
  (636, .iconst 2, 637, []),
  (637, .iadd, 638, []),
  (638, .iaload, 639, []),
  (639, .aload_n 0, 640, []),
  (640, .iload_n 3, 641, []),
  (641, .iconst 3, 642, []),
  (642, .iadd, 643, []),
  (643, .iaload, 644, []),
  (644, .aload_n 0, 645, []),
  (645, .iload_n 3, 646, []),
  (646, .iconst 4, 647, []),
  (647, .iadd, 648, []),
  (648, .iaload, 649, []),
  (649, .invokevirtual 69, 652, []),
  (652, .pop, 653, []),
  (653, .aload_n 2, 654, []),
  (654, .aload_n 0, 655, []),
  (655, .iload_n 3, 656, []),
  (656, .iconst 1, 657, []),
  (657, .iadd, 658, []),
  (658, .iaload, 659, []),
  (659, .aload_n 0, 660, []),
  (660, .iload_n 3, 661, []),
  (661, .iconst 2, 662, []),
  (662, .iadd, 663, []),
  (663, .iaload, 664, []),
  (664, .aload_n 0, 665, []),
  (665, .iload_n 3, 666, []),
  (666, .iconst 3, 667, []),
  (667, .iadd, 668, []),
  (668, .iaload, 669, []),
  (669, .aload_n 0, 670, []),
  (670, .iload_n 3, 671, []),
  (671, .iconst 4, 672, []),
  (672, .iadd, 673, []),
  (673, .iaload, 674, []),
  (674, .invokevirtual 73, 677, []),
  (677, .pop, 678, []),
  (678, .goto 621, 681, [1299]),
  (681, .aload_n 1, 682, []),
  (682, .invokevirtual 74, 685, []),
  (685, .pop, 686, []),
  (686, .aload_n 2, 687, []),
  (687, .invokevirtual 77, 690, []),
  (690, .pop, 691, []),
  (691, .goto 608, 694, [1299]),
  (694, .aload_n 1, 695, []),
  (695, .aload_n 0, 696, []),
  (696, .iload_n 3, 697, []),
  (697, .iconst 1, 698, []),
  (698, .iadd, 699, []),
  (699, .iaload, 700, []),
  (700, .aload_n 0, 701, []),
  (701, .iload_n 3, 702, []),
  (702, .iconst 2, 703, []),
  (703, .iadd, 704, []),
  (704, .iaload, 705, []),
  (705, .aload_n 0, 706, []),
  (706, .iload_n 3, 707, []),
  (707, .iconst 3, 708, []),
  (708, .iadd, 709, []),
  (709, .iaload, 710, []),
  (710, .invokevirtual 78, 713, []),
  (713, .pop, 714, []),
  (714, .aload_n 2, 715, []),
  (715, .aload_n 0, 716, []),
  (716, .iload_n 3, 717, []),
  (717, .iconst 1, 718, []),
  (718, .iadd, 719, []),
  (719, .iaload, 720, []),
  (720, .aload_n 0, 721, []),
  (721, .iload_n 3, 722, []),
  (722, .iconst 2, 723, []),
  (723, .iadd, 724, []),
  (724, .iaload, 725, []),
  (725, .aload_n 0, 726, []),
  (726, .iload_n 3, 727, []),
  (727, .iconst 3, 728, []),
  (728, .iadd, 729, []),
  (729, .iaload, 730, []),
  (730, .invokevirtual 81, 733, []),
  (733, .pop, 734, []),
  (734, .goto 565, 737, [1299]),
  (737, .aload_n 1, 738, []),
  (738, .aload_n 0, 739, []),
  (739, .iload_n 3, 740, []),
  (740, .iconst 1, 741, []),
  (741, .iadd, 742, []),
  (742, .iaload, 743, []),
  (743, .invokevirtual 82, 746, []),
  (746, .pop, 747, []),
  (747, .aload_n 2, 748, []),
  (748, .aload_n 0, 749, []),
  (749, .iload_n 3, 750, []),
  (750, .iconst 1, 751, []),
  (751, .iadd, 752, []),
  (752, .iaload, 753, []),
  (753, .invokevirtual 86, 756, []),
  (756, .pop, 757, []),
  (757, .goto 542, 760, [1299]),
  (760, .aload_n 1, 761, []),
  (761, .invokevirtual 87, 764, []),
  (764, .pop, 765, []),
  (765, .aload_n 2, 766, []),
  (766, .invokevirtual 90, 769, []),
  (769, .pop, 770, []),
  (770, .goto 529, 773, [1299]),
  (773, .aload_n 1, 774, []),
  (774, .aload_n 0, 775, []),
  (775, .iload_n 3, 776, []),
  (776, .iconst 1, 777, []),
  (777, .iadd, 778, []),
  (778, .iaload, 779, []),
  (779, .aload_n 0, 780, []),
  (780, .iload_n 3, 781, []),
  (781, .iconst 2, 782, []),
  (782, .iadd, 783, []),
  (783, .iaload, 784, []),
  (784, .aload_n 0, 785, []),
  (785, .iload_n 3, 786, []),
  (786, .iconst 3, 787, []),
  (787, .iadd, 788, []),
  (788, .iaload, 789, []),
  (789, .ifCond .eq 7, 792, [796]),
  (792, .iconst 1, 793, []),
  (793, .goto 4, 796, [797]),
  (796, .iconst 0, 797, []),
  (797, .aload_n 0, 798, []),
  (798, .iload_n 3, 799, []),
  (799, .iconst 4, 800, []),
  (800, .iadd, 801, []),
  (801, .iaload, 802, []),
  (802, .aload_n 0, 803, []),
  (803, .iload_n 3, 804, []),
  (804, .iconst 5, 805, []),
  (805, .iadd, 806, []),
  (806, .iaload, 807, []),
  (807, .i2l, 808, []),
  (808, .bipush 32, 810, []),
  (810, .lshl, 811, []),
  (811, .aload_n 0, 812, []),
  (812, .iload_n 3, 813, []),
  (813, .bipush 6, 815, []),
  (815, .iadd, 816, []),
  (816, .iaload, 817, []),
  (817, .i2l, 818, []),
  (818, .ldc2_w 26, 821, []),
  (821, .land, 822, []),
  (822, .lor, 823, []),
  (823, .invokevirtual 91, 826, []),
  (826, .pop, 827, []),
  (827, .aload_n 2, 828, []),
  (828, .aload_n 0, 829, []),
  (829, .iload_n 3, 830, []),
  (830, .iconst 1, 831, []),
  (831, .iadd, 832, []),
  (832, .iaload, 833, []),
  (833, .aload_n 0, 834, []),
  (834, .iload_n 3, 835, []),
  (835, .iconst 2, 836, []),
  (836, .iadd, 837, []),
  (837, .iaload, 838, []),
  (838, .aload_n 0, 839, []),
  (839, .iload_n 3, 840, []),
  (840, .iconst 3, 841, []),
  (841, .iadd, 842, []),
  (842, .iaload, 843, []),
  (843, .ifCond .eq 7, 846, [850]),
  (846, .iconst 1, 847, []),
  (847, .goto 4, 850, [851]),
  (850, .iconst 0, 851, []),
  (851, .aload_n 0, 852, []),
  (852, .iload_n 3, 853, []),
  (853, .iconst 4, 854, []),
  (854, .iadd, 855, []),
  (855, .iaload, 856, []),
  (856, .aload_n 0, 857, []),
  (857, .iload_n 3, 858, []),
  (858, .iconst 5, 859, []),
  (859, .iadd, 860, []),
  (860, .iaload, 861, []),
  (861, .i2l, 862, []),
  (862, .bipush 32, 864, []),
  (864, .lshl, 865, []),
  (865, .aload_n 0, 866, []),
  (866, .iload_n 3, 867, []),
  (867, .bipush 6, 869, []),
  (869, .iadd, 870, []),
  (870, .iaload, 871, []),
  (871, .i2l, 872, []),
  (872, .ldc2_w 26, 875, []),
  (875, .land, 876, []),
  (876, .lor, 877, []),
  (877, .invokevirtual 95, 880, []),
  (880, .pop, 881, []),
  (881, .goto 418, 884, [1299]),
  (884, .aload_n 1, 885, []),
  (885, .invokevirtual 96, 888, []),
  (888, .pop, 889, []),
  (889, .aload_n 2, 890, []),
  (890, .invokevirtual 99, 893, []),
  (893, .pop, 894, []),
  (894, .goto 405, 897, [1299]),
  (897, .aload_n 1, 898, []),
  (898, .invokevirtual 100, 901, []),
  (901, .pop, 902, []),
  (902, .aload_n 2, 903, []),
  (903, .invokevirtual 103, 906, []),
  (906, .pop, 907, []),
  (907, .goto 392, 910, [1299]),
  (910, .aload_n 1, 911, []),
  (911, .aload_n 0, 912, []),
  (912, .iload_n 3, 913, []),
  (913, .iconst 1, 914, []),
  (914, .iadd, 915, []),
  (915, .iaload, 916, []),
  (916, .aload_n 0, 917, []),
  (917, .iload_n 3, 918, []),
  (918, .iconst 2, 919, []),
  (919, .iadd, 920, []),
  (920, .iaload, 921, []),
  (921, .invokevirtual 104, 924, []),
  (924, .pop, 925, []),
  (925, .aload_n 2, 926, []),
  (926, .aload_n 0, 927, []),
  (927, .iload_n 3, 928, []),
  (928, .iconst 1, 929, []),
  (929, .iadd, 930, []),
  (930, .iaload, 931, []),
  (931, .aload_n 0, 932, []),
  (932, .iload_n 3, 933, []),
  (933, .iconst 2, 934, []),
  (934, .iadd, 935, []),
  (935, .iaload, 936, []),
  (936, .invokevirtual 107, 939, []),
  (939, .pop, 940, []),
  (940, .goto 359, 943, [1299]),
  (943, .aload_n 1, 944, []),
  (944, .aload_n 0, 945, []),
  (945, .iload_n 3, 946, []),
  (946, .iconst 1, 947, []),
  (947, .iadd, 948, []),
  (948, .iaload, 949, []),
  (949, .aload_n 0, 950, []),
  (950, .iload_n 3, 951, []),
  (951, .iconst 2, 952, []),
  (952, .iadd, 953, []),
  (953, .iaload, 954, []),
  (954, .invokevirtual 108, 957, []),
  (957, .pop, 958, []),
  (958, .aload_n 2, 959, []),
  (959, .aload_n 0, 960, []),
  (960, .iload_n 3, 961, []),
  (961, .iconst 1, 962, []),
  (962, .iadd, 963, []),
  (963, .iaload, 964, []),
  (964, .aload_n 0, 965, []),
  (965, .iload_n 3, 966, []),
  (966, .iconst 2, 967, []),
  (967, .iadd, 968, []),
  (968, .iaload, 969, []),
  (969, .invokevirtual 111, 972, []),
  (972, .pop, 973, []),
  (973, .goto 326, 976, [1299]),
  (976, .aload_n 1, 977, []),
  (977, .aload_n 0, 978, []),
  (978, .iload_n 3, 979, []),
  (979, .iconst 1, 980, []),
  (980, .iadd, 981, []),
  (981, .iaload, 982, []),
  (982, .aload_n 0, 983, []),
  (983, .iload_n 3, 984, []),
  (984, .iconst 2, 985, []),
  (985, .iadd, 986, []),
  (986, .iaload, 987, []),
  (987, .invokevirtual 112, 990, []),
  (990, .pop, 991, []),
  (991, .aload_n 2, 992, []),
  (992, .aload_n 0, 993, []),
  (993, .iload_n 3, 994, []),
  (994, .iconst 1, 995, []),
  (995, .iadd, 996, []),
  (996, .iaload, 997, []),
  (997, .aload_n 0, 998, []),
  (998, .iload_n 3, 999, []),
  (999, .iconst 2, 1000, []),
  (1000, .iadd, 1001, []),
  (1001, .iaload, 1002, []),
  (1002, .invokevirtual 115, 1005, []),
  (1005, .pop, 1006, []),
  (1006, .goto 293, 1009, [1299]),
  (1009, .aload_n 1, 1010, []),
  (1010, .aload_n 0, 1011, []),
  (1011, .iload_n 3, 1012, []),
  (1012, .iconst 1, 1013, []),
  (1013, .iadd, 1014, []),
  (1014, .iaload, 1015, []),
  (1015, .aload_n 0, 1016, []),
  (1016, .iload_n 3, 1017, []),
  (1017, .iconst 2, 1018, []),
  (1018, .iadd, 1019, []),
  (1019, .iaload, 1020, []),
  (1020, .invokevirtual 116, 1023, []),
  (1023, .pop, 1024, []),
  (1024, .aload_n 2, 1025, []),
  (1025, .aload_n 0, 1026, []),
  (1026, .iload_n 3, 1027, []),
  (1027, .iconst 1, 1028, []),
  (1028, .iadd, 1029, []),
  (1029, .iaload, 1030, []),
  (1030, .aload_n 0, 1031, []),
  (1031, .iload_n 3, 1032, []),
  (1032, .iconst 2, 1033, []),
  (1033, .iadd, 1034, []),
  (1034, .iaload, 1035, []),
  (1035, .invokevirtual 119, 1038, []),
  (1038, .pop, 1039, []),
  (1039, .goto 260, 1042, [1299]),
  (1042, .aload_n 1, 1043, []),
  (1043, .aload_n 0, 1044, []),
  (1044, .iload_n 3, 1045, []),
  (1045, .iconst 1, 1046, []),
  (1046, .iadd, 1047, []),
  (1047, .iaload, 1048, []),
  (1048, .aload_n 0, 1049, []),
  (1049, .iload_n 3, 1050, []),
  (1050, .iconst 2, 1051, []),
  (1051, .iadd, 1052, []),
  (1052, .iaload, 1053, []),
  (1053, .invokevirtual 120, 1056, []),
  (1056, .pop, 1057, []),
  (1057, .aload_n 2, 1058, []),
  (1058, .aload_n 0, 1059, []),
  (1059, .iload_n 3, 1060, []),
  (1060, .iconst 1, 1061, []),
  (1061, .iadd, 1062, []),
  (1062, .iaload, 1063, []),
  (1063, .aload_n 0, 1064, []),
  (1064, .iload_n 3, 1065, []),
  (1065, .iconst 2, 1066, []),
  (1066, .iadd, 1067, []),
  (1067, .iaload, 1068, []),
  (1068, .invokevirtual 123, 1071, []),
  (1071, .pop, 1072, []),
  (1072, .goto 227, 1075, [1299]),
  (1075, .aload_n 1, 1076, []),
  (1076, .aload_n 0, 1077, []),
  (1077, .iload_n 3, 1078, []),
  (1078, .iconst 1, 1079, []),
  (1079, .iadd, 1080, []),
  (1080, .iaload, 1081, []),
  (1081, .aload_n 0, 1082, []),
  (1082, .iload_n 3, 1083, []),
  (1083, .iconst 2, 1084, []),
  (1084, .iadd, 1085, []),
  (1085, .iaload, 1086, []),
  (1086, .invokevirtual 124, 1089, []),
  (1089, .pop, 1090, []),
  (1090, .aload_n 2, 1091, []),
  (1091, .aload_n 0, 1092, []),
  (1092, .iload_n 3, 1093, []),
  (1093, .iconst 1, 1094, []),
  (1094, .iadd, 1095, []),
  (1095, .iaload, 1096, []),
  (1096, .aload_n 0, 1097, []),
  (1097, .iload_n 3, 1098, []),
  (1098, .iconst 2, 1099, []),
  (1099, .iadd, 1100, []),
  (1100, .iaload, 1101, []),
  (1101, .invokevirtual 127, 1104, []),
  (1104, .pop, 1105, []),
  (1105, .goto 194, 1108, [1299]),
  (1108, .aload_n 1, 1109, []),
  (1109, .aload_n 0, 1110, []),
  (1110, .iload_n 3, 1111, []),
  (1111, .iconst 1, 1112, []),
  (1112, .iadd, 1113, []),
  (1113, .iaload, 1114, []),
  (1114, .invokevirtual 128, 1117, []),
  (1117, .pop, 1118, []),
  (1118, .aload_n 2, 1119, []),
  (1119, .aload_n 0, 1120, []),
  (1120, .iload_n 3, 1121, []),
  (1121, .iconst 1, 1122, []),
  (1122, .iadd, 1123, []),
  (1123, .iaload, 1124, []),
  (1124, .invokevirtual 131, 1127, []),
  (1127, .pop, 1128, []),
  (1128, .goto 171, 1131, [1299]),
  (1131, .aload_n 1, 1132, []),
  (1132, .aload_n 0, 1133, []),
  (1133, .iload_n 3, 1134, []),
  (1134, .iconst 1, 1135, []),
  (1135, .iadd, 1136, []),
  (1136, .iaload, 1137, []),
  (1137, .aload_n 0, 1138, []),
  (1138, .iload_n 3, 1139, []),
  (1139, .iconst 2, 1140, []),
  (1140, .iadd, 1141, []),
  (1141, .iaload, 1142, []),
  (1142, .aload_n 0, 1143, []),
  (1143, .iload_n 3, 1144, []),
  (1144, .iconst 3, 1145, []),
  (1145, .iadd, 1146, []),
  (1146, .iaload, 1147, []),
  (1147, .invokevirtual 132, 1150, []),
  (1150, .pop, 1151, []),
  (1151, .aload_n 2, 1152, []),
  (1152, .aload_n 0, 1153, []),
  (1153, .iload_n 3, 1154, []),
  (1154, .iconst 1, 1155, []),
  (1155, .iadd, 1156, []),
  (1156, .iaload, 1157, []),
  (1157, .aload_n 0, 1158, []),
  (1158, .iload_n 3, 1159, []),
  (1159, .iconst 2, 1160, []),
  (1160, .iadd, 1161, []),
  (1161, .iaload, 1162, []),
  (1162, .aload_n 0, 1163, []),
  (1163, .iload_n 3, 1164, []),
  (1164, .iconst 3, 1165, []),
  (1165, .iadd, 1166, []),
  (1166, .iaload, 1167, []),
  (1167, .invokevirtual 135, 1170, []),
  (1170, .pop, 1171, []),
  (1171, .goto 128, 1174, [1299]),
  (1174, .aload_n 1, 1175, []),
  (1175, .aload_n 0, 1176, []),
  (1176, .iload_n 3, 1177, []),
  (1177, .iconst 1, 1178, []),
  (1178, .iadd, 1179, []),
  (1179, .iaload, 1180, []),
  (1180, .aload_n 0, 1181, []),
  (1181, .iload_n 3, 1182, []),
  (1182, .iconst 2, 1183, []),
  (1183, .iadd, 1184, []),
  (1184, .iaload, 1185, []),
  (1185, .invokevirtual 136, 1188, []),
  (1188, .pop, 1189, []),
  (1189, .aload_n 2, 1190, []),
  (1190, .aload_n 0, 1191, []),
  (1191, .iload_n 3, 1192, []),
  (1192, .iconst 1, 1193, []),
  (1193, .iadd, 1194, []),
  (1194, .iaload, 1195, []),
  (1195, .aload_n 0, 1196, []),
  (1196, .iload_n 3, 1197, []),
  (1197, .iconst 2, 1198, []),
  (1198, .iadd, 1199, []),
  (1199, .iaload, 1200, []),
  (1200, .invokevirtual 139, 1203, []),
  (1203, .pop, 1204, []),
  (1204, .goto 95, 1207, [1299]),
  (1207, .aload_n 1, 1208, []),
  (1208, .aload_n 0, 1209, []),
  (1209, .iload_n 3, 1210, []),
  (1210, .iconst 1, 1211, []),
  (1211, .iadd, 1212, []),
  (1212, .iaload, 1213, []),
  (1213, .aload_n 0, 1214, []),
  (1214, .iload_n 3, 1215, []),
  (1215, .iconst 2, 1216, []),
  (1216, .iadd, 1217, []),
  (1217, .iaload, 1218, []),
  (1218, .aload_n 0, 1219, []),
  (1219, .iload_n 3, 1220, []),
  (1220, .iconst 3, 1221, []),
  (1221, .iadd, 1222, []),
  (1222, .iaload, 1223, []),
  (1223, .invokevirtual 140, 1226, []),
  (1226, .pop, 1227, []),
  (1227, .aload_n 2, 1228, []),
  (1228, .aload_n 0, 1229, []),
  (1229, .iload_n 3, 1230, []),
  (1230, .iconst 1, 1231, []),
  (1231, .iadd, 1232, []),
  (1232, .iaload, 1233, []),
  (1233, .aload_n 0, 1234, []),
  (1234, .iload_n 3, 1235, []),
  (1235, .iconst 2, 1236, []),
  (1236, .iadd, 1237, []),
  (1237, .iaload, 1238, []),
  (1238, .aload_n 0, 1239, []),
  (1239, .iload_n 3, 1240, []),
  (1240, .iconst 3, 1241, []),
  (1241, .iadd, 1242, []),
  (1242, .iaload, 1243, []),
  (1243, .invokevirtual 143, 1246, []),
  (1246, .pop, 1247, []),
  (1247, .goto 52, 1250, [1299]),
  (1250, .aload_n 1, 1251, []),
  (1251, .invokevirtual 144, 1254, []),
  (1254, .pop, 1255, []),
  (1255, .aload_n 2, 1256, []),
  (1256, .invokevirtual 147, 1259, []),
  (1259, .pop, 1260, []),
  (1260, .goto 39, 1263, [1299]),
  (1263, .aload_n 1, 1264, []),
  (1264, .invokevirtual 148, 1267, []),
  (1267, .pop, 1268, []),
  (1268, .aload_n 2, 1269, []),
  (1269, .invokevirtual 151, 1272, []),
  (1272, .pop, 1273, []),
  (1273, .goto 26, 1276, [1299]),
  (1276, .aload_n 1, 1277, []),
  (1277, .aload_n 0, 1278, []),
  (1278, .iload_n 3, 1279, []),
  (1279, .iconst 1, 1280, []),
  (1280, .iadd, 1281, []),
  (1281, .iaload, 1282, []),
  (1282, .invokevirtual 152, 1285, []),
  (1285, .pop, 1286, []),
  (1286, .aload_n 2, 1287, []),
  (1287, .aload_n 0, 1288, []),
  (1288, .iload_n 3, 1289, []),
  (1289, .iconst 1, 1290, []),
  (1290, .iadd, 1291, []),
  (1291, .iaload, 1292, []),
  (1292, .invokevirtual 155, 1295, []),
  (1295, .pop, 1296, []),
  (1296, .goto 3, 1299, [1299]),
  (1299, .iinc 3 7, 1302, []),
  (1302, .goto (-1284), 1305, [18]),
  (1305, .iconst 1, 1306, []),
  (1306, .ireturn, 1307, [])]
set_option maxRecDepth 100000 in
theorem tb_L_eq : tb_L = tbL_0 ++ (tbL_1 ++ (tbL_2 ++ (tbL_3 ++ (tbL_4 ++ (tbL_5 ++ (tbL_6 ++ (tbL_7 ++ (tbL_8 ++ (tbL_9 ++ (tbL_10 ++ (tbL_11 ++ (tbL_12 ++ (tbL_13 ++ (tbL_14 ++ (tbL_15 ++ (tbL_16 ++ (tbL_17 ++ (tbL_18 ++ (tbL_19 ++ (tbL_20 ++ (tbL_21 ++ (tbL_22 ++ (tbL_23 ++ (tbL_24 ++ (tbL_25 ++ (tbL_26)))))))))))))))))))))))))) := rfl
theorem all_app {α : Type} {p : α → Bool} {a b : List α} (h : a.all p = true) (g : b.all p = true) : (a ++ b).all p = true := by rw [List.all_append, h, g]; rfl
set_option maxRecDepth 100000 in
theorem ch_L : tb_L.all (chkE code 4 (clK [(2, 9), (2, 12), (0, 13), (0, 17), (0, 18), (0, 21), (0, 22), (0, 25), (0, 28), (0, 32), (0, 33), (0, 37), (0, 38), (0, 41), (0, 42), (0, 45), (0, 46), (0, 49), (0, 50), (0, 54), (0, 55), (0, 59), (0, 60), (0, 63), (0, 64), (0, 68), (0, 69), (0, 73), (0, 74), (0, 77), (0, 78), (0, 81), (0, 82), (0, 86), (0, 87), (0, 90), (0, 91), (0, 95), (0, 96), (0, 99), (0, 100), (0, 103), (0, 104), (0, 107), (0, 108), (0, 111), (0, 112), (0, 115), (0, 116), (0, 119), (0, 120), (0, 123), (0, 124), (0, 127), (0, 128), (0, 131), (0, 132), (0, 135), (0, 136), (0, 139), (0, 140), (0, 143), (0, 144), (0, 147), (0, 148), (0, 151), (0, 152), (0, 155)]) oiN) = true := by
  rw [tb_L_eq]
  exact all_app chL_0 (all_app chL_1 (all_app chL_2 (all_app chL_3 (all_app chL_4 (all_app chL_5 (all_app chL_6 (all_app chL_7 (all_app chL_8 (all_app chL_9 (all_app chL_10 (all_app chL_11 (all_app chL_12 (all_app chL_13 (all_app chL_14 (all_app chL_15 (all_app chL_16 (all_app chL_17 (all_app chL_18 (all_app chL_19 (all_app chL_20 (all_app chL_21 (all_app chL_22 (all_app chL_23 (all_app chL_24 (all_app chL_25 (chL_26))))))))))))))))))))))))))
def clL : Cl := [(2, 9, s_X10_initG), (2, 12, s_X11_initG), (0, 13, s_X10_skyX), (0, 17, s_X11_skyX), (0, 18, s_X10_ruleX), (0, 21, s_X11_ruleX), (0, 22, s_X10_rimX), (0, 25, s_X11_rimX), (0, 28, s_X10_write), (0, 32, s_X11_write), (0, 33, s_X10_wipe), (0, 37, s_X11_wipe), (0, 38, s_X10_fault), (0, 41, s_X11_fault), (0, 42, s_X10_plan), (0, 45, s_X11_plan), (0, 46, s_X10_line), (0, 49, s_X11_line), (0, 50, s_X10_firstX), (0, 54, s_X11_firstX), (0, 55, s_X10_at), (0, 59, s_X11_at), (0, 60, s_X10_marked), (0, 63, s_X11_marked), (0, 64, s_X10_sum), (0, 68, s_X11_sum), (0, 69, s_X10_slipX), (0, 73, s_X11_slipX), (0, 74, s_X10_mendX), (0, 77, s_X11_mendX), (0, 78, s_X10_spread), (0, 81, s_X11_spread), (0, 82, s_X10_kept), (0, 86, s_X11_kept), (0, 87, s_X10_grows), (0, 90, s_X11_grows), (0, 91, s_X10_tell), (0, 95, s_X11_tell), (0, 96, s_X10_fails), (0, 99, s_X11_fails_), (0, 100, s_X10_least), (0, 103, s_X11_least), (0, 104, s_X10_second), (0, 107, s_X11_second), (0, 108, s_X10_put), (0, 111, s_X11_put), (0, 112, s_X10_judge), (0, 115, s_X11_judge), (0, 116, s_X10_pace), (0, 119, s_X11_pace), (0, 120, s_X10_give), (0, 123, s_X11_give), (0, 124, s_X10_when), (0, 127, s_X11_when), (0, 128, s_X10_slowest), (0, 131, s_X11_slowest), (0, 132, s_X10_given), (0, 135, s_X11_given), (0, 136, s_X10_known), (0, 139, s_X11_known), (0, 140, s_X10_coarse), (0, 143, s_X11_coarse), (0, 144, s_X10_keepX), (0, 147, s_X11_keepX), (0, 148, s_X10_backX), (0, 151, s_X11_backX), (0, 152, s_X10_count), (0, 155, s_X11_count)]
set_option maxRecDepth 100000 in
theorem gwl_0 : (lw_tbl[91]? = some (Cond.methodLink RL 9 yX10_init) ∧ goodWord (Cond.methodLink RL 9 yX10_init) = true) ∧ (lw_tbl[92]? = some (Cond.instanceMethod yX10_init) ∧ goodWord (Cond.instanceMethod yX10_init) = true) ∧ (lw_tbl[93]? = some (Cond.code yX10_init cX10_init 1 none) ∧ goodWord (Cond.code yX10_init cX10_init 1 none) = true) ∧ (lw_tbl[75]? = some (Cond.initialized yX10_init.cls) ∧ goodWord (Cond.initialized yX10_init.cls) = true) ∧ (lw_tbl[1046]? = some (Cond.methodLink RL 12 yX11_init) ∧ goodWord (Cond.methodLink RL 12 yX11_init) = true) ∧ (lw_tbl[1047]? = some (Cond.instanceMethod yX11_init) ∧ goodWord (Cond.instanceMethod yX11_init) = true) ∧ (lw_tbl[1048]? = some (Cond.code yX11_init cX11_init 2 none) ∧ goodWord (Cond.code yX11_init cX11_init 2 none) = true) ∧ (lw_tbl[87]? = some (Cond.initialized yX11_init.cls) ∧ goodWord (Cond.initialized yX11_init.cls) = true) := by decide +kernel
set_option maxRecDepth 100000 in
theorem gwl_1 : (lw_tbl[472]? = some (Cond.methodLink RL 13 yX10_sky) ∧ goodWord (Cond.methodLink RL 13 yX10_sky) = true) ∧ (lw_tbl[473]? = some (Cond.instanceMethod yX10_sky) ∧ goodWord (Cond.instanceMethod yX10_sky) = true) ∧ (lw_tbl[474]? = some (Cond.selects (fR 10) yX10_sky yX10_sky) ∧ goodWord (Cond.selects (fR 10) yX10_sky yX10_sky) = true) ∧ (lw_tbl[475]? = some (Cond.code yX10_sky cX10_sky 3 (some .int)) ∧ goodWord (Cond.code yX10_sky cX10_sky 3 (some .int)) = true) ∧ (lw_tbl[75]? = some (Cond.initialized yX10_sky.cls) ∧ goodWord (Cond.initialized yX10_sky.cls) = true) ∧ (lw_tbl[1199]? = some (Cond.methodLink RL 17 yX11_sky) ∧ goodWord (Cond.methodLink RL 17 yX11_sky) = true) ∧ (lw_tbl[1200]? = some (Cond.instanceMethod yX11_sky) ∧ goodWord (Cond.instanceMethod yX11_sky) = true) ∧ (lw_tbl[1201]? = some (Cond.selects (fR 11) yX11_sky yX11_sky) ∧ goodWord (Cond.selects (fR 11) yX11_sky yX11_sky) = true) := by decide +kernel
set_option maxRecDepth 100000 in
theorem gwl_2 : (lw_tbl[1202]? = some (Cond.code yX11_sky cX11_sky 3 (some .int)) ∧ goodWord (Cond.code yX11_sky cX11_sky 3 (some .int)) = true) ∧ (lw_tbl[87]? = some (Cond.initialized yX11_sky.cls) ∧ goodWord (Cond.initialized yX11_sky.cls) = true) ∧ (lw_tbl[512]? = some (Cond.methodLink RL 18 yX10_rule) ∧ goodWord (Cond.methodLink RL 18 yX10_rule) = true) ∧ (lw_tbl[513]? = some (Cond.instanceMethod yX10_rule) ∧ goodWord (Cond.instanceMethod yX10_rule) = true) ∧ (lw_tbl[514]? = some (Cond.selects (fR 10) yX10_rule yX10_rule) ∧ goodWord (Cond.selects (fR 10) yX10_rule yX10_rule) = true) ∧ (lw_tbl[515]? = some (Cond.code yX10_rule cX10_rule 4 (some .int)) ∧ goodWord (Cond.code yX10_rule cX10_rule 4 (some .int)) = true) ∧ (lw_tbl[75]? = some (Cond.initialized yX10_rule.cls) ∧ goodWord (Cond.initialized yX10_rule.cls) = true) ∧ (lw_tbl[1212]? = some (Cond.methodLink RL 21 yX11_rule) ∧ goodWord (Cond.methodLink RL 21 yX11_rule) = true) := by decide +kernel
set_option maxRecDepth 100000 in
theorem gwl_3 : (lw_tbl[1213]? = some (Cond.instanceMethod yX11_rule) ∧ goodWord (Cond.instanceMethod yX11_rule) = true) ∧ (lw_tbl[1214]? = some (Cond.selects (fR 11) yX11_rule yX11_rule) ∧ goodWord (Cond.selects (fR 11) yX11_rule yX11_rule) = true) ∧ (lw_tbl[1215]? = some (Cond.code yX11_rule cX11_rule 4 (some .int)) ∧ goodWord (Cond.code yX11_rule cX11_rule 4 (some .int)) = true) ∧ (lw_tbl[87]? = some (Cond.initialized yX11_rule.cls) ∧ goodWord (Cond.initialized yX11_rule.cls) = true) ∧ (lw_tbl[520]? = some (Cond.methodLink RL 22 yX10_rim) ∧ goodWord (Cond.methodLink RL 22 yX10_rim) = true) ∧ (lw_tbl[521]? = some (Cond.instanceMethod yX10_rim) ∧ goodWord (Cond.instanceMethod yX10_rim) = true) ∧ (lw_tbl[522]? = some (Cond.selects (fR 10) yX10_rim yX10_rim) ∧ goodWord (Cond.selects (fR 10) yX10_rim yX10_rim) = true) ∧ (lw_tbl[523]? = some (Cond.code yX10_rim cX10_rim 4 (some .int)) ∧ goodWord (Cond.code yX10_rim cX10_rim 4 (some .int)) = true) := by decide +kernel
set_option maxRecDepth 100000 in
theorem gwl_4 : (lw_tbl[75]? = some (Cond.initialized yX10_rim.cls) ∧ goodWord (Cond.initialized yX10_rim.cls) = true) ∧ (lw_tbl[1217]? = some (Cond.methodLink RL 25 yX11_rim) ∧ goodWord (Cond.methodLink RL 25 yX11_rim) = true) ∧ (lw_tbl[1218]? = some (Cond.instanceMethod yX11_rim) ∧ goodWord (Cond.instanceMethod yX11_rim) = true) ∧ (lw_tbl[1219]? = some (Cond.selects (fR 11) yX11_rim yX11_rim) ∧ goodWord (Cond.selects (fR 11) yX11_rim yX11_rim) = true) ∧ (lw_tbl[1220]? = some (Cond.code yX11_rim cX11_rim 4 (some .int)) ∧ goodWord (Cond.code yX11_rim cX11_rim 4 (some .int)) = true) ∧ (lw_tbl[87]? = some (Cond.initialized yX11_rim.cls) ∧ goodWord (Cond.initialized yX11_rim.cls) = true) ∧ (lw_tbl[533]? = some (Cond.methodLink RL 28 yX10_write) ∧ goodWord (Cond.methodLink RL 28 yX10_write) = true) ∧ (lw_tbl[534]? = some (Cond.instanceMethod yX10_write) ∧ goodWord (Cond.instanceMethod yX10_write) = true) := by decide +kernel
set_option maxRecDepth 100000 in
theorem gwl_5 : (lw_tbl[535]? = some (Cond.selects (fR 10) yX10_write yX10_write) ∧ goodWord (Cond.selects (fR 10) yX10_write yX10_write) = true) ∧ (lw_tbl[536]? = some (Cond.code yX10_write cX10_write 5 (some .int)) ∧ goodWord (Cond.code yX10_write cX10_write 5 (some .int)) = true) ∧ (lw_tbl[75]? = some (Cond.initialized yX10_write.cls) ∧ goodWord (Cond.initialized yX10_write.cls) = true) ∧ (lw_tbl[1228]? = some (Cond.methodLink RL 32 yX11_write) ∧ goodWord (Cond.methodLink RL 32 yX11_write) = true) ∧ (lw_tbl[1229]? = some (Cond.instanceMethod yX11_write) ∧ goodWord (Cond.instanceMethod yX11_write) = true) ∧ (lw_tbl[1230]? = some (Cond.selects (fR 11) yX11_write yX11_write) ∧ goodWord (Cond.selects (fR 11) yX11_write yX11_write) = true) ∧ (lw_tbl[1231]? = some (Cond.code yX11_write cX11_write 5 (some .int)) ∧ goodWord (Cond.code yX11_write cX11_write 5 (some .int)) = true) ∧ (lw_tbl[87]? = some (Cond.initialized yX11_write.cls) ∧ goodWord (Cond.initialized yX11_write.cls) = true) := by decide +kernel
set_option maxRecDepth 100000 in
theorem gwl_6 : (lw_tbl[541]? = some (Cond.methodLink RL 33 yX10_wipe) ∧ goodWord (Cond.methodLink RL 33 yX10_wipe) = true) ∧ (lw_tbl[542]? = some (Cond.instanceMethod yX10_wipe) ∧ goodWord (Cond.instanceMethod yX10_wipe) = true) ∧ (lw_tbl[543]? = some (Cond.selects (fR 10) yX10_wipe yX10_wipe) ∧ goodWord (Cond.selects (fR 10) yX10_wipe yX10_wipe) = true) ∧ (lw_tbl[544]? = some (Cond.code yX10_wipe cX10_wipe 2 (some .int)) ∧ goodWord (Cond.code yX10_wipe cX10_wipe 2 (some .int)) = true) ∧ (lw_tbl[75]? = some (Cond.initialized yX10_wipe.cls) ∧ goodWord (Cond.initialized yX10_wipe.cls) = true) ∧ (lw_tbl[1234]? = some (Cond.methodLink RL 37 yX11_wipe) ∧ goodWord (Cond.methodLink RL 37 yX11_wipe) = true) ∧ (lw_tbl[1235]? = some (Cond.instanceMethod yX11_wipe) ∧ goodWord (Cond.instanceMethod yX11_wipe) = true) ∧ (lw_tbl[1236]? = some (Cond.selects (fR 11) yX11_wipe yX11_wipe) ∧ goodWord (Cond.selects (fR 11) yX11_wipe yX11_wipe) = true) := by decide +kernel
set_option maxRecDepth 100000 in
theorem gwl_7 : (lw_tbl[1237]? = some (Cond.code yX11_wipe cX11_wipe 2 (some .int)) ∧ goodWord (Cond.code yX11_wipe cX11_wipe 2 (some .int)) = true) ∧ (lw_tbl[87]? = some (Cond.initialized yX11_wipe.cls) ∧ goodWord (Cond.initialized yX11_wipe.cls) = true) ∧ (lw_tbl[545]? = some (Cond.methodLink RL 38 yX10_fault) ∧ goodWord (Cond.methodLink RL 38 yX10_fault) = true) ∧ (lw_tbl[546]? = some (Cond.instanceMethod yX10_fault) ∧ goodWord (Cond.instanceMethod yX10_fault) = true) ∧ (lw_tbl[547]? = some (Cond.selects (fR 10) yX10_fault yX10_fault) ∧ goodWord (Cond.selects (fR 10) yX10_fault yX10_fault) = true) ∧ (lw_tbl[548]? = some (Cond.code yX10_fault cX10_fault 1 (some .int)) ∧ goodWord (Cond.code yX10_fault cX10_fault 1 (some .int)) = true) ∧ (lw_tbl[75]? = some (Cond.initialized yX10_fault.cls) ∧ goodWord (Cond.initialized yX10_fault.cls) = true) ∧ (lw_tbl[1238]? = some (Cond.methodLink RL 41 yX11_fault) ∧ goodWord (Cond.methodLink RL 41 yX11_fault) = true) := by decide +kernel
set_option maxRecDepth 100000 in
theorem gwl_8 : (lw_tbl[1239]? = some (Cond.instanceMethod yX11_fault) ∧ goodWord (Cond.instanceMethod yX11_fault) = true) ∧ (lw_tbl[1240]? = some (Cond.selects (fR 11) yX11_fault yX11_fault) ∧ goodWord (Cond.selects (fR 11) yX11_fault yX11_fault) = true) ∧ (lw_tbl[1241]? = some (Cond.code yX11_fault cX11_fault 1 (some .int)) ∧ goodWord (Cond.code yX11_fault cX11_fault 1 (some .int)) = true) ∧ (lw_tbl[87]? = some (Cond.initialized yX11_fault.cls) ∧ goodWord (Cond.initialized yX11_fault.cls) = true) ∧ (lw_tbl[600]? = some (Cond.methodLink RL 42 yX10_plan) ∧ goodWord (Cond.methodLink RL 42 yX10_plan) = true) ∧ (lw_tbl[601]? = some (Cond.instanceMethod yX10_plan) ∧ goodWord (Cond.instanceMethod yX10_plan) = true) ∧ (lw_tbl[602]? = some (Cond.selects (fR 10) yX10_plan yX10_plan) ∧ goodWord (Cond.selects (fR 10) yX10_plan yX10_plan) = true) ∧ (lw_tbl[603]? = some (Cond.code yX10_plan cX10_plan 1 (some .int)) ∧ goodWord (Cond.code yX10_plan cX10_plan 1 (some .int)) = true) := by decide +kernel
set_option maxRecDepth 100000 in
theorem gwl_9 : (lw_tbl[75]? = some (Cond.initialized yX10_plan.cls) ∧ goodWord (Cond.initialized yX10_plan.cls) = true) ∧ (lw_tbl[1273]? = some (Cond.methodLink RL 45 yX11_plan) ∧ goodWord (Cond.methodLink RL 45 yX11_plan) = true) ∧ (lw_tbl[1274]? = some (Cond.instanceMethod yX11_plan) ∧ goodWord (Cond.instanceMethod yX11_plan) = true) ∧ (lw_tbl[1275]? = some (Cond.selects (fR 11) yX11_plan yX11_plan) ∧ goodWord (Cond.selects (fR 11) yX11_plan yX11_plan) = true) ∧ (lw_tbl[1276]? = some (Cond.code yX11_plan cX11_plan 2 (some .int)) ∧ goodWord (Cond.code yX11_plan cX11_plan 2 (some .int)) = true) ∧ (lw_tbl[87]? = some (Cond.initialized yX11_plan.cls) ∧ goodWord (Cond.initialized yX11_plan.cls) = true) ∧ (lw_tbl[608]? = some (Cond.methodLink RL 46 yX10_line) ∧ goodWord (Cond.methodLink RL 46 yX10_line) = true) ∧ (lw_tbl[609]? = some (Cond.instanceMethod yX10_line) ∧ goodWord (Cond.instanceMethod yX10_line) = true) := by decide +kernel
set_option maxRecDepth 100000 in
theorem gwl_10 : (lw_tbl[610]? = some (Cond.selects (fR 10) yX10_line yX10_line) ∧ goodWord (Cond.selects (fR 10) yX10_line yX10_line) = true) ∧ (lw_tbl[611]? = some (Cond.code yX10_line cX10_line 3 (some .int)) ∧ goodWord (Cond.code yX10_line cX10_line 3 (some .int)) = true) ∧ (lw_tbl[75]? = some (Cond.initialized yX10_line.cls) ∧ goodWord (Cond.initialized yX10_line.cls) = true) ∧ (lw_tbl[1277]? = some (Cond.methodLink RL 49 yX11_line) ∧ goodWord (Cond.methodLink RL 49 yX11_line) = true) ∧ (lw_tbl[1278]? = some (Cond.instanceMethod yX11_line) ∧ goodWord (Cond.instanceMethod yX11_line) = true) ∧ (lw_tbl[1279]? = some (Cond.selects (fR 11) yX11_line yX11_line) ∧ goodWord (Cond.selects (fR 11) yX11_line yX11_line) = true) ∧ (lw_tbl[1280]? = some (Cond.code yX11_line cX11_line 3 (some .int)) ∧ goodWord (Cond.code yX11_line cX11_line 3 (some .int)) = true) ∧ (lw_tbl[87]? = some (Cond.initialized yX11_line.cls) ∧ goodWord (Cond.initialized yX11_line.cls) = true) := by decide +kernel
set_option maxRecDepth 100000 in
theorem gwl_11 : (lw_tbl[621]? = some (Cond.methodLink RL 50 yX10_first) ∧ goodWord (Cond.methodLink RL 50 yX10_first) = true) ∧ (lw_tbl[622]? = some (Cond.instanceMethod yX10_first) ∧ goodWord (Cond.instanceMethod yX10_first) = true) ∧ (lw_tbl[623]? = some (Cond.selects (fR 10) yX10_first yX10_first) ∧ goodWord (Cond.selects (fR 10) yX10_first yX10_first) = true) ∧ (lw_tbl[624]? = some (Cond.code yX10_first cX10_first 6 (some .int)) ∧ goodWord (Cond.code yX10_first cX10_first 6 (some .int)) = true) ∧ (lw_tbl[75]? = some (Cond.initialized yX10_first.cls) ∧ goodWord (Cond.initialized yX10_first.cls) = true) ∧ (lw_tbl[1286]? = some (Cond.methodLink RL 54 yX11_first) ∧ goodWord (Cond.methodLink RL 54 yX11_first) = true) ∧ (lw_tbl[1287]? = some (Cond.instanceMethod yX11_first) ∧ goodWord (Cond.instanceMethod yX11_first) = true) ∧ (lw_tbl[1288]? = some (Cond.selects (fR 11) yX11_first yX11_first) ∧ goodWord (Cond.selects (fR 11) yX11_first yX11_first) = true) := by decide +kernel
set_option maxRecDepth 100000 in
theorem gwl_12 : (lw_tbl[1289]? = some (Cond.code yX11_first cX11_first 5 (some .int)) ∧ goodWord (Cond.code yX11_first cX11_first 5 (some .int)) = true) ∧ (lw_tbl[87]? = some (Cond.initialized yX11_first.cls) ∧ goodWord (Cond.initialized yX11_first.cls) = true) ∧ (lw_tbl[630]? = some (Cond.methodLink RL 55 yX10_at) ∧ goodWord (Cond.methodLink RL 55 yX10_at) = true) ∧ (lw_tbl[631]? = some (Cond.instanceMethod yX10_at) ∧ goodWord (Cond.instanceMethod yX10_at) = true) ∧ (lw_tbl[632]? = some (Cond.selects (fR 10) yX10_at yX10_at) ∧ goodWord (Cond.selects (fR 10) yX10_at yX10_at) = true) ∧ (lw_tbl[633]? = some (Cond.code yX10_at cX10_at 5 (some .int)) ∧ goodWord (Cond.code yX10_at cX10_at 5 (some .int)) = true) ∧ (lw_tbl[75]? = some (Cond.initialized yX10_at.cls) ∧ goodWord (Cond.initialized yX10_at.cls) = true) ∧ (lw_tbl[1294]? = some (Cond.methodLink RL 59 yX11_at) ∧ goodWord (Cond.methodLink RL 59 yX11_at) = true) := by decide +kernel
set_option maxRecDepth 100000 in
theorem gwl_13 : (lw_tbl[1295]? = some (Cond.instanceMethod yX11_at) ∧ goodWord (Cond.instanceMethod yX11_at) = true) ∧ (lw_tbl[1296]? = some (Cond.selects (fR 11) yX11_at yX11_at) ∧ goodWord (Cond.selects (fR 11) yX11_at yX11_at) = true) ∧ (lw_tbl[1297]? = some (Cond.code yX11_at cX11_at 5 (some .int)) ∧ goodWord (Cond.code yX11_at cX11_at 5 (some .int)) = true) ∧ (lw_tbl[87]? = some (Cond.initialized yX11_at.cls) ∧ goodWord (Cond.initialized yX11_at.cls) = true) ∧ (lw_tbl[729]? = some (Cond.methodLink RL 60 yX10_marked) ∧ goodWord (Cond.methodLink RL 60 yX10_marked) = true) ∧ (lw_tbl[730]? = some (Cond.instanceMethod yX10_marked) ∧ goodWord (Cond.instanceMethod yX10_marked) = true) ∧ (lw_tbl[731]? = some (Cond.selects (fR 10) yX10_marked yX10_marked) ∧ goodWord (Cond.selects (fR 10) yX10_marked yX10_marked) = true) ∧ (lw_tbl[732]? = some (Cond.code yX10_marked cX10_marked 4 (some .int)) ∧ goodWord (Cond.code yX10_marked cX10_marked 4 (some .int)) = true) := by decide +kernel
set_option maxRecDepth 100000 in
theorem gwl_14 : (lw_tbl[75]? = some (Cond.initialized yX10_marked.cls) ∧ goodWord (Cond.initialized yX10_marked.cls) = true) ∧ (lw_tbl[1360]? = some (Cond.methodLink RL 63 yX11_marked) ∧ goodWord (Cond.methodLink RL 63 yX11_marked) = true) ∧ (lw_tbl[1361]? = some (Cond.instanceMethod yX11_marked) ∧ goodWord (Cond.instanceMethod yX11_marked) = true) ∧ (lw_tbl[1362]? = some (Cond.selects (fR 11) yX11_marked yX11_marked) ∧ goodWord (Cond.selects (fR 11) yX11_marked yX11_marked) = true) ∧ (lw_tbl[1363]? = some (Cond.code yX11_marked cX11_marked 4 (some .int)) ∧ goodWord (Cond.code yX11_marked cX11_marked 4 (some .int)) = true) ∧ (lw_tbl[87]? = some (Cond.initialized yX11_marked.cls) ∧ goodWord (Cond.initialized yX11_marked.cls) = true) ∧ (lw_tbl[768]? = some (Cond.methodLink RL 64 yX10_sum) ∧ goodWord (Cond.methodLink RL 64 yX10_sum) = true) ∧ (lw_tbl[769]? = some (Cond.instanceMethod yX10_sum) ∧ goodWord (Cond.instanceMethod yX10_sum) = true) := by decide +kernel
set_option maxRecDepth 100000 in
theorem gwl_15 : (lw_tbl[770]? = some (Cond.selects (fR 10) yX10_sum yX10_sum) ∧ goodWord (Cond.selects (fR 10) yX10_sum yX10_sum) = true) ∧ (lw_tbl[771]? = some (Cond.code yX10_sum cX10_sum 8 (some .long)) ∧ goodWord (Cond.code yX10_sum cX10_sum 8 (some .long)) = true) ∧ (lw_tbl[75]? = some (Cond.initialized yX10_sum.cls) ∧ goodWord (Cond.initialized yX10_sum.cls) = true) ∧ (lw_tbl[1364]? = some (Cond.methodLink RL 68 yX11_sum) ∧ goodWord (Cond.methodLink RL 68 yX11_sum) = true) ∧ (lw_tbl[1365]? = some (Cond.instanceMethod yX11_sum) ∧ goodWord (Cond.instanceMethod yX11_sum) = true) ∧ (lw_tbl[1366]? = some (Cond.selects (fR 11) yX11_sum yX11_sum) ∧ goodWord (Cond.selects (fR 11) yX11_sum yX11_sum) = true) ∧ (lw_tbl[1367]? = some (Cond.code yX11_sum cX11_sum 8 (some .long)) ∧ goodWord (Cond.code yX11_sum cX11_sum 8 (some .long)) = true) ∧ (lw_tbl[87]? = some (Cond.initialized yX11_sum.cls) ∧ goodWord (Cond.initialized yX11_sum.cls) = true) := by decide +kernel
set_option maxRecDepth 100000 in
theorem gwl_16 : (lw_tbl[781]? = some (Cond.methodLink RL 69 yX10_slip) ∧ goodWord (Cond.methodLink RL 69 yX10_slip) = true) ∧ (lw_tbl[782]? = some (Cond.instanceMethod yX10_slip) ∧ goodWord (Cond.instanceMethod yX10_slip) = true) ∧ (lw_tbl[783]? = some (Cond.selects (fR 10) yX10_slip yX10_slip) ∧ goodWord (Cond.selects (fR 10) yX10_slip yX10_slip) = true) ∧ (lw_tbl[784]? = some (Cond.code yX10_slip cX10_slip 5 (some .int)) ∧ goodWord (Cond.code yX10_slip cX10_slip 5 (some .int)) = true) ∧ (lw_tbl[75]? = some (Cond.initialized yX10_slip.cls) ∧ goodWord (Cond.initialized yX10_slip.cls) = true) ∧ (lw_tbl[1369]? = some (Cond.methodLink RL 73 yX11_slip) ∧ goodWord (Cond.methodLink RL 73 yX11_slip) = true) ∧ (lw_tbl[1370]? = some (Cond.instanceMethod yX11_slip) ∧ goodWord (Cond.instanceMethod yX11_slip) = true) ∧ (lw_tbl[1371]? = some (Cond.selects (fR 11) yX11_slip yX11_slip) ∧ goodWord (Cond.selects (fR 11) yX11_slip yX11_slip) = true) := by decide +kernel
set_option maxRecDepth 100000 in
theorem gwl_17 : (lw_tbl[1372]? = some (Cond.code yX11_slip cX11_slip 5 (some .int)) ∧ goodWord (Cond.code yX11_slip cX11_slip 5 (some .int)) = true) ∧ (lw_tbl[87]? = some (Cond.initialized yX11_slip.cls) ∧ goodWord (Cond.initialized yX11_slip.cls) = true) ∧ (lw_tbl[792]? = some (Cond.methodLink RL 74 yX10_mend) ∧ goodWord (Cond.methodLink RL 74 yX10_mend) = true) ∧ (lw_tbl[793]? = some (Cond.instanceMethod yX10_mend) ∧ goodWord (Cond.instanceMethod yX10_mend) = true) ∧ (lw_tbl[794]? = some (Cond.selects (fR 10) yX10_mend yX10_mend) ∧ goodWord (Cond.selects (fR 10) yX10_mend yX10_mend) = true) ∧ (lw_tbl[795]? = some (Cond.code yX10_mend cX10_mend 1 (some .int)) ∧ goodWord (Cond.code yX10_mend cX10_mend 1 (some .int)) = true) ∧ (lw_tbl[75]? = some (Cond.initialized yX10_mend.cls) ∧ goodWord (Cond.initialized yX10_mend.cls) = true) ∧ (lw_tbl[1373]? = some (Cond.methodLink RL 77 yX11_mend) ∧ goodWord (Cond.methodLink RL 77 yX11_mend) = true) := by decide +kernel
set_option maxRecDepth 100000 in
theorem gwl_18 : (lw_tbl[1374]? = some (Cond.instanceMethod yX11_mend) ∧ goodWord (Cond.instanceMethod yX11_mend) = true) ∧ (lw_tbl[1375]? = some (Cond.selects (fR 11) yX11_mend yX11_mend) ∧ goodWord (Cond.selects (fR 11) yX11_mend yX11_mend) = true) ∧ (lw_tbl[1376]? = some (Cond.code yX11_mend cX11_mend 1 (some .int)) ∧ goodWord (Cond.code yX11_mend cX11_mend 1 (some .int)) = true) ∧ (lw_tbl[87]? = some (Cond.initialized yX11_mend.cls) ∧ goodWord (Cond.initialized yX11_mend.cls) = true) ∧ (lw_tbl[796]? = some (Cond.methodLink RL 78 yX10_spread) ∧ goodWord (Cond.methodLink RL 78 yX10_spread) = true) ∧ (lw_tbl[797]? = some (Cond.instanceMethod yX10_spread) ∧ goodWord (Cond.instanceMethod yX10_spread) = true) ∧ (lw_tbl[798]? = some (Cond.selects (fR 10) yX10_spread yX10_spread) ∧ goodWord (Cond.selects (fR 10) yX10_spread yX10_spread) = true) ∧ (lw_tbl[799]? = some (Cond.code yX10_spread cX10_spread 4 (some .int)) ∧ goodWord (Cond.code yX10_spread cX10_spread 4 (some .int)) = true) := by decide +kernel
set_option maxRecDepth 100000 in
theorem gwl_19 : (lw_tbl[75]? = some (Cond.initialized yX10_spread.cls) ∧ goodWord (Cond.initialized yX10_spread.cls) = true) ∧ (lw_tbl[1377]? = some (Cond.methodLink RL 81 yX11_spread) ∧ goodWord (Cond.methodLink RL 81 yX11_spread) = true) ∧ (lw_tbl[1378]? = some (Cond.instanceMethod yX11_spread) ∧ goodWord (Cond.instanceMethod yX11_spread) = true) ∧ (lw_tbl[1379]? = some (Cond.selects (fR 11) yX11_spread yX11_spread) ∧ goodWord (Cond.selects (fR 11) yX11_spread yX11_spread) = true) ∧ (lw_tbl[1380]? = some (Cond.code yX11_spread cX11_spread 8 (some .int)) ∧ goodWord (Cond.code yX11_spread cX11_spread 8 (some .int)) = true) ∧ (lw_tbl[87]? = some (Cond.initialized yX11_spread.cls) ∧ goodWord (Cond.initialized yX11_spread.cls) = true) ∧ (lw_tbl[816]? = some (Cond.methodLink RL 82 yX10_kept) ∧ goodWord (Cond.methodLink RL 82 yX10_kept) = true) ∧ (lw_tbl[817]? = some (Cond.instanceMethod yX10_kept) ∧ goodWord (Cond.instanceMethod yX10_kept) = true) := by decide +kernel
set_option maxRecDepth 100000 in
theorem gwl_20 : (lw_tbl[818]? = some (Cond.selects (fR 10) yX10_kept yX10_kept) ∧ goodWord (Cond.selects (fR 10) yX10_kept yX10_kept) = true) ∧ (lw_tbl[819]? = some (Cond.code yX10_kept cX10_kept 2 (some .int)) ∧ goodWord (Cond.code yX10_kept cX10_kept 2 (some .int)) = true) ∧ (lw_tbl[75]? = some (Cond.initialized yX10_kept.cls) ∧ goodWord (Cond.initialized yX10_kept.cls) = true) ∧ (lw_tbl[1381]? = some (Cond.methodLink RL 86 yX11_kept) ∧ goodWord (Cond.methodLink RL 86 yX11_kept) = true) ∧ (lw_tbl[1382]? = some (Cond.instanceMethod yX11_kept) ∧ goodWord (Cond.instanceMethod yX11_kept) = true) ∧ (lw_tbl[1383]? = some (Cond.selects (fR 11) yX11_kept yX11_kept) ∧ goodWord (Cond.selects (fR 11) yX11_kept yX11_kept) = true) ∧ (lw_tbl[1384]? = some (Cond.code yX11_kept cX11_kept 5 (some .int)) ∧ goodWord (Cond.code yX11_kept cX11_kept 5 (some .int)) = true) ∧ (lw_tbl[87]? = some (Cond.initialized yX11_kept.cls) ∧ goodWord (Cond.initialized yX11_kept.cls) = true) := by decide +kernel
set_option maxRecDepth 100000 in
theorem gwl_21 : (lw_tbl[827]? = some (Cond.methodLink RL 87 yX10_grows) ∧ goodWord (Cond.methodLink RL 87 yX10_grows) = true) ∧ (lw_tbl[828]? = some (Cond.instanceMethod yX10_grows) ∧ goodWord (Cond.instanceMethod yX10_grows) = true) ∧ (lw_tbl[829]? = some (Cond.selects (fR 10) yX10_grows yX10_grows) ∧ goodWord (Cond.selects (fR 10) yX10_grows yX10_grows) = true) ∧ (lw_tbl[830]? = some (Cond.code yX10_grows cX10_grows 2 (some .int)) ∧ goodWord (Cond.code yX10_grows cX10_grows 2 (some .int)) = true) ∧ (lw_tbl[75]? = some (Cond.initialized yX10_grows.cls) ∧ goodWord (Cond.initialized yX10_grows.cls) = true) ∧ (lw_tbl[1385]? = some (Cond.methodLink RL 90 yX11_grows) ∧ goodWord (Cond.methodLink RL 90 yX11_grows) = true) ∧ (lw_tbl[1386]? = some (Cond.instanceMethod yX11_grows) ∧ goodWord (Cond.instanceMethod yX11_grows) = true) ∧ (lw_tbl[1387]? = some (Cond.selects (fR 11) yX11_grows yX11_grows) ∧ goodWord (Cond.selects (fR 11) yX11_grows yX11_grows) = true) := by decide +kernel
set_option maxRecDepth 100000 in
theorem gwl_22 : (lw_tbl[1388]? = some (Cond.code yX11_grows cX11_grows 5 (some .int)) ∧ goodWord (Cond.code yX11_grows cX11_grows 5 (some .int)) = true) ∧ (lw_tbl[87]? = some (Cond.initialized yX11_grows.cls) ∧ goodWord (Cond.initialized yX11_grows.cls) = true) ∧ (lw_tbl[838]? = some (Cond.methodLink RL 91 yX10_tell) ∧ goodWord (Cond.methodLink RL 91 yX10_tell) = true) ∧ (lw_tbl[839]? = some (Cond.instanceMethod yX10_tell) ∧ goodWord (Cond.instanceMethod yX10_tell) = true) ∧ (lw_tbl[840]? = some (Cond.selects (fR 10) yX10_tell yX10_tell) ∧ goodWord (Cond.selects (fR 10) yX10_tell yX10_tell) = true) ∧ (lw_tbl[841]? = some (Cond.code yX10_tell cX10_tell 7 (some .int)) ∧ goodWord (Cond.code yX10_tell cX10_tell 7 (some .int)) = true) ∧ (lw_tbl[75]? = some (Cond.initialized yX10_tell.cls) ∧ goodWord (Cond.initialized yX10_tell.cls) = true) ∧ (lw_tbl[1389]? = some (Cond.methodLink RL 95 yX11_tell) ∧ goodWord (Cond.methodLink RL 95 yX11_tell) = true) := by decide +kernel
set_option maxRecDepth 100000 in
theorem gwl_23 : (lw_tbl[1390]? = some (Cond.instanceMethod yX11_tell) ∧ goodWord (Cond.instanceMethod yX11_tell) = true) ∧ (lw_tbl[1391]? = some (Cond.selects (fR 11) yX11_tell yX11_tell) ∧ goodWord (Cond.selects (fR 11) yX11_tell yX11_tell) = true) ∧ (lw_tbl[1392]? = some (Cond.code yX11_tell cX11_tell 8 (some .int)) ∧ goodWord (Cond.code yX11_tell cX11_tell 8 (some .int)) = true) ∧ (lw_tbl[87]? = some (Cond.initialized yX11_tell.cls) ∧ goodWord (Cond.initialized yX11_tell.cls) = true) ∧ (lw_tbl[849]? = some (Cond.methodLink RL 96 yX10_fails) ∧ goodWord (Cond.methodLink RL 96 yX10_fails) = true) ∧ (lw_tbl[850]? = some (Cond.instanceMethod yX10_fails) ∧ goodWord (Cond.instanceMethod yX10_fails) = true) ∧ (lw_tbl[851]? = some (Cond.selects (fR 10) yX10_fails yX10_fails) ∧ goodWord (Cond.selects (fR 10) yX10_fails yX10_fails) = true) ∧ (lw_tbl[852]? = some (Cond.code yX10_fails cX10_fails 1 (some .int)) ∧ goodWord (Cond.code yX10_fails cX10_fails 1 (some .int)) = true) := by decide +kernel
set_option maxRecDepth 100000 in
theorem gwl_24 : (lw_tbl[75]? = some (Cond.initialized yX10_fails.cls) ∧ goodWord (Cond.initialized yX10_fails.cls) = true) ∧ (lw_tbl[1395]? = some (Cond.methodLink RL 99 yX11_fails_) ∧ goodWord (Cond.methodLink RL 99 yX11_fails_) = true) ∧ (lw_tbl[1396]? = some (Cond.instanceMethod yX11_fails_) ∧ goodWord (Cond.instanceMethod yX11_fails_) = true) ∧ (lw_tbl[1397]? = some (Cond.selects (fR 11) yX11_fails_ yX11_fails_) ∧ goodWord (Cond.selects (fR 11) yX11_fails_ yX11_fails_) = true) ∧ (lw_tbl[1398]? = some (Cond.code yX11_fails_ cX11_fails_ 3 (some .int)) ∧ goodWord (Cond.code yX11_fails_ cX11_fails_ 3 (some .int)) = true) ∧ (lw_tbl[87]? = some (Cond.initialized yX11_fails_.cls) ∧ goodWord (Cond.initialized yX11_fails_.cls) = true) ∧ (lw_tbl[866]? = some (Cond.methodLink RL 100 yX10_least) ∧ goodWord (Cond.methodLink RL 100 yX10_least) = true) ∧ (lw_tbl[867]? = some (Cond.instanceMethod yX10_least) ∧ goodWord (Cond.instanceMethod yX10_least) = true) := by decide +kernel
set_option maxRecDepth 100000 in
theorem gwl_25 : (lw_tbl[868]? = some (Cond.selects (fR 10) yX10_least yX10_least) ∧ goodWord (Cond.selects (fR 10) yX10_least yX10_least) = true) ∧ (lw_tbl[869]? = some (Cond.code yX10_least cX10_least 1 (some .int)) ∧ goodWord (Cond.code yX10_least cX10_least 1 (some .int)) = true) ∧ (lw_tbl[75]? = some (Cond.initialized yX10_least.cls) ∧ goodWord (Cond.initialized yX10_least.cls) = true) ∧ (lw_tbl[1403]? = some (Cond.methodLink RL 103 yX11_least) ∧ goodWord (Cond.methodLink RL 103 yX11_least) = true) ∧ (lw_tbl[1404]? = some (Cond.instanceMethod yX11_least) ∧ goodWord (Cond.instanceMethod yX11_least) = true) ∧ (lw_tbl[1405]? = some (Cond.selects (fR 11) yX11_least yX11_least) ∧ goodWord (Cond.selects (fR 11) yX11_least yX11_least) = true) ∧ (lw_tbl[1406]? = some (Cond.code yX11_least cX11_least 9 (some .int)) ∧ goodWord (Cond.code yX11_least cX11_least 9 (some .int)) = true) ∧ (lw_tbl[87]? = some (Cond.initialized yX11_least.cls) ∧ goodWord (Cond.initialized yX11_least.cls) = true) := by decide +kernel
set_option maxRecDepth 100000 in
theorem gwl_26 : (lw_tbl[899]? = some (Cond.methodLink RL 104 yX10_second) ∧ goodWord (Cond.methodLink RL 104 yX10_second) = true) ∧ (lw_tbl[900]? = some (Cond.instanceMethod yX10_second) ∧ goodWord (Cond.instanceMethod yX10_second) = true) ∧ (lw_tbl[901]? = some (Cond.selects (fR 10) yX10_second yX10_second) ∧ goodWord (Cond.selects (fR 10) yX10_second yX10_second) = true) ∧ (lw_tbl[902]? = some (Cond.code yX10_second cX10_second 6 (some .int)) ∧ goodWord (Cond.code yX10_second cX10_second 6 (some .int)) = true) ∧ (lw_tbl[75]? = some (Cond.initialized yX10_second.cls) ∧ goodWord (Cond.initialized yX10_second.cls) = true) ∧ (lw_tbl[1411]? = some (Cond.methodLink RL 107 yX11_second) ∧ goodWord (Cond.methodLink RL 107 yX11_second) = true) ∧ (lw_tbl[1412]? = some (Cond.instanceMethod yX11_second) ∧ goodWord (Cond.instanceMethod yX11_second) = true) ∧ (lw_tbl[1413]? = some (Cond.selects (fR 11) yX11_second yX11_second) ∧ goodWord (Cond.selects (fR 11) yX11_second yX11_second) = true) := by decide +kernel
set_option maxRecDepth 100000 in
theorem gwl_27 : (lw_tbl[1414]? = some (Cond.code yX11_second cX11_second 5 (some .int)) ∧ goodWord (Cond.code yX11_second cX11_second 5 (some .int)) = true) ∧ (lw_tbl[87]? = some (Cond.initialized yX11_second.cls) ∧ goodWord (Cond.initialized yX11_second.cls) = true) ∧ (lw_tbl[904]? = some (Cond.methodLink RL 108 yX10_put) ∧ goodWord (Cond.methodLink RL 108 yX10_put) = true) ∧ (lw_tbl[905]? = some (Cond.instanceMethod yX10_put) ∧ goodWord (Cond.instanceMethod yX10_put) = true) ∧ (lw_tbl[906]? = some (Cond.selects (fR 10) yX10_put yX10_put) ∧ goodWord (Cond.selects (fR 10) yX10_put yX10_put) = true) ∧ (lw_tbl[907]? = some (Cond.code yX10_put cX10_put 4 (some .int)) ∧ goodWord (Cond.code yX10_put cX10_put 4 (some .int)) = true) ∧ (lw_tbl[75]? = some (Cond.initialized yX10_put.cls) ∧ goodWord (Cond.initialized yX10_put.cls) = true) ∧ (lw_tbl[1415]? = some (Cond.methodLink RL 111 yX11_put) ∧ goodWord (Cond.methodLink RL 111 yX11_put) = true) := by decide +kernel
set_option maxRecDepth 100000 in
theorem gwl_28 : (lw_tbl[1416]? = some (Cond.instanceMethod yX11_put) ∧ goodWord (Cond.instanceMethod yX11_put) = true) ∧ (lw_tbl[1417]? = some (Cond.selects (fR 11) yX11_put yX11_put) ∧ goodWord (Cond.selects (fR 11) yX11_put yX11_put) = true) ∧ (lw_tbl[1418]? = some (Cond.code yX11_put cX11_put 4 (some .int)) ∧ goodWord (Cond.code yX11_put cX11_put 4 (some .int)) = true) ∧ (lw_tbl[87]? = some (Cond.initialized yX11_put.cls) ∧ goodWord (Cond.initialized yX11_put.cls) = true) ∧ (lw_tbl[910]? = some (Cond.methodLink RL 112 yX10_judge) ∧ goodWord (Cond.methodLink RL 112 yX10_judge) = true) ∧ (lw_tbl[911]? = some (Cond.instanceMethod yX10_judge) ∧ goodWord (Cond.instanceMethod yX10_judge) = true) ∧ (lw_tbl[912]? = some (Cond.selects (fR 10) yX10_judge yX10_judge) ∧ goodWord (Cond.selects (fR 10) yX10_judge yX10_judge) = true) ∧ (lw_tbl[913]? = some (Cond.code yX10_judge cX10_judge 5 (some .int)) ∧ goodWord (Cond.code yX10_judge cX10_judge 5 (some .int)) = true) := by decide +kernel
set_option maxRecDepth 100000 in
theorem gwl_29 : (lw_tbl[75]? = some (Cond.initialized yX10_judge.cls) ∧ goodWord (Cond.initialized yX10_judge.cls) = true) ∧ (lw_tbl[1420]? = some (Cond.methodLink RL 115 yX11_judge) ∧ goodWord (Cond.methodLink RL 115 yX11_judge) = true) ∧ (lw_tbl[1421]? = some (Cond.instanceMethod yX11_judge) ∧ goodWord (Cond.instanceMethod yX11_judge) = true) ∧ (lw_tbl[1422]? = some (Cond.selects (fR 11) yX11_judge yX11_judge) ∧ goodWord (Cond.selects (fR 11) yX11_judge yX11_judge) = true) ∧ (lw_tbl[1423]? = some (Cond.code yX11_judge cX11_judge 4 (some .int)) ∧ goodWord (Cond.code yX11_judge cX11_judge 4 (some .int)) = true) ∧ (lw_tbl[87]? = some (Cond.initialized yX11_judge.cls) ∧ goodWord (Cond.initialized yX11_judge.cls) = true) ∧ (lw_tbl[914]? = some (Cond.methodLink RL 116 yX10_pace) ∧ goodWord (Cond.methodLink RL 116 yX10_pace) = true) ∧ (lw_tbl[915]? = some (Cond.instanceMethod yX10_pace) ∧ goodWord (Cond.instanceMethod yX10_pace) = true) := by decide +kernel
set_option maxRecDepth 100000 in
theorem gwl_30 : (lw_tbl[916]? = some (Cond.selects (fR 10) yX10_pace yX10_pace) ∧ goodWord (Cond.selects (fR 10) yX10_pace yX10_pace) = true) ∧ (lw_tbl[917]? = some (Cond.code yX10_pace cX10_pace 4 (some .int)) ∧ goodWord (Cond.code yX10_pace cX10_pace 4 (some .int)) = true) ∧ (lw_tbl[75]? = some (Cond.initialized yX10_pace.cls) ∧ goodWord (Cond.initialized yX10_pace.cls) = true) ∧ (lw_tbl[1424]? = some (Cond.methodLink RL 119 yX11_pace) ∧ goodWord (Cond.methodLink RL 119 yX11_pace) = true) ∧ (lw_tbl[1425]? = some (Cond.instanceMethod yX11_pace) ∧ goodWord (Cond.instanceMethod yX11_pace) = true) ∧ (lw_tbl[1426]? = some (Cond.selects (fR 11) yX11_pace yX11_pace) ∧ goodWord (Cond.selects (fR 11) yX11_pace yX11_pace) = true) ∧ (lw_tbl[1427]? = some (Cond.code yX11_pace cX11_pace 4 (some .int)) ∧ goodWord (Cond.code yX11_pace cX11_pace 4 (some .int)) = true) ∧ (lw_tbl[87]? = some (Cond.initialized yX11_pace.cls) ∧ goodWord (Cond.initialized yX11_pace.cls) = true) := by decide +kernel
set_option maxRecDepth 100000 in
theorem gwl_31 : (lw_tbl[921]? = some (Cond.methodLink RL 120 yX10_give) ∧ goodWord (Cond.methodLink RL 120 yX10_give) = true) ∧ (lw_tbl[922]? = some (Cond.instanceMethod yX10_give) ∧ goodWord (Cond.instanceMethod yX10_give) = true) ∧ (lw_tbl[923]? = some (Cond.selects (fR 10) yX10_give yX10_give) ∧ goodWord (Cond.selects (fR 10) yX10_give yX10_give) = true) ∧ (lw_tbl[924]? = some (Cond.code yX10_give cX10_give 4 (some .int)) ∧ goodWord (Cond.code yX10_give cX10_give 4 (some .int)) = true) ∧ (lw_tbl[75]? = some (Cond.initialized yX10_give.cls) ∧ goodWord (Cond.initialized yX10_give.cls) = true) ∧ (lw_tbl[1430]? = some (Cond.methodLink RL 123 yX11_give) ∧ goodWord (Cond.methodLink RL 123 yX11_give) = true) ∧ (lw_tbl[1431]? = some (Cond.instanceMethod yX11_give) ∧ goodWord (Cond.instanceMethod yX11_give) = true) ∧ (lw_tbl[1432]? = some (Cond.selects (fR 11) yX11_give yX11_give) ∧ goodWord (Cond.selects (fR 11) yX11_give yX11_give) = true) := by decide +kernel
set_option maxRecDepth 100000 in
theorem gwl_32 : (lw_tbl[1433]? = some (Cond.code yX11_give cX11_give 4 (some .int)) ∧ goodWord (Cond.code yX11_give cX11_give 4 (some .int)) = true) ∧ (lw_tbl[87]? = some (Cond.initialized yX11_give.cls) ∧ goodWord (Cond.initialized yX11_give.cls) = true) ∧ (lw_tbl[925]? = some (Cond.methodLink RL 124 yX10_when) ∧ goodWord (Cond.methodLink RL 124 yX10_when) = true) ∧ (lw_tbl[926]? = some (Cond.instanceMethod yX10_when) ∧ goodWord (Cond.instanceMethod yX10_when) = true) ∧ (lw_tbl[927]? = some (Cond.selects (fR 10) yX10_when yX10_when) ∧ goodWord (Cond.selects (fR 10) yX10_when yX10_when) = true) ∧ (lw_tbl[928]? = some (Cond.code yX10_when cX10_when 3 (some .int)) ∧ goodWord (Cond.code yX10_when cX10_when 3 (some .int)) = true) ∧ (lw_tbl[75]? = some (Cond.initialized yX10_when.cls) ∧ goodWord (Cond.initialized yX10_when.cls) = true) ∧ (lw_tbl[1434]? = some (Cond.methodLink RL 127 yX11_when) ∧ goodWord (Cond.methodLink RL 127 yX11_when) = true) := by decide +kernel
set_option maxRecDepth 100000 in
theorem gwl_33 : (lw_tbl[1435]? = some (Cond.instanceMethod yX11_when) ∧ goodWord (Cond.instanceMethod yX11_when) = true) ∧ (lw_tbl[1436]? = some (Cond.selects (fR 11) yX11_when yX11_when) ∧ goodWord (Cond.selects (fR 11) yX11_when yX11_when) = true) ∧ (lw_tbl[1437]? = some (Cond.code yX11_when cX11_when 3 (some .int)) ∧ goodWord (Cond.code yX11_when cX11_when 3 (some .int)) = true) ∧ (lw_tbl[87]? = some (Cond.initialized yX11_when.cls) ∧ goodWord (Cond.initialized yX11_when.cls) = true) ∧ (lw_tbl[960]? = some (Cond.methodLink RL 128 yX10_slowest) ∧ goodWord (Cond.methodLink RL 128 yX10_slowest) = true) ∧ (lw_tbl[961]? = some (Cond.instanceMethod yX10_slowest) ∧ goodWord (Cond.instanceMethod yX10_slowest) = true) ∧ (lw_tbl[962]? = some (Cond.selects (fR 10) yX10_slowest yX10_slowest) ∧ goodWord (Cond.selects (fR 10) yX10_slowest yX10_slowest) = true) ∧ (lw_tbl[963]? = some (Cond.code yX10_slowest cX10_slowest 4 (some .int)) ∧ goodWord (Cond.code yX10_slowest cX10_slowest 4 (some .int)) = true) := by decide +kernel
set_option maxRecDepth 100000 in
theorem gwl_34 : (lw_tbl[75]? = some (Cond.initialized yX10_slowest.cls) ∧ goodWord (Cond.initialized yX10_slowest.cls) = true) ∧ (lw_tbl[1451]? = some (Cond.methodLink RL 131 yX11_slowest) ∧ goodWord (Cond.methodLink RL 131 yX11_slowest) = true) ∧ (lw_tbl[1452]? = some (Cond.instanceMethod yX11_slowest) ∧ goodWord (Cond.instanceMethod yX11_slowest) = true) ∧ (lw_tbl[1453]? = some (Cond.selects (fR 11) yX11_slowest yX11_slowest) ∧ goodWord (Cond.selects (fR 11) yX11_slowest yX11_slowest) = true) ∧ (lw_tbl[1454]? = some (Cond.code yX11_slowest cX11_slowest 3 (some .int)) ∧ goodWord (Cond.code yX11_slowest cX11_slowest 3 (some .int)) = true) ∧ (lw_tbl[87]? = some (Cond.initialized yX11_slowest.cls) ∧ goodWord (Cond.initialized yX11_slowest.cls) = true) ∧ (lw_tbl[964]? = some (Cond.methodLink RL 132 yX10_given) ∧ goodWord (Cond.methodLink RL 132 yX10_given) = true) ∧ (lw_tbl[965]? = some (Cond.instanceMethod yX10_given) ∧ goodWord (Cond.instanceMethod yX10_given) = true) := by decide +kernel
set_option maxRecDepth 100000 in
theorem gwl_35 : (lw_tbl[966]? = some (Cond.selects (fR 10) yX10_given yX10_given) ∧ goodWord (Cond.selects (fR 10) yX10_given yX10_given) = true) ∧ (lw_tbl[967]? = some (Cond.code yX10_given cX10_given 4 (some .int)) ∧ goodWord (Cond.code yX10_given cX10_given 4 (some .int)) = true) ∧ (lw_tbl[75]? = some (Cond.initialized yX10_given.cls) ∧ goodWord (Cond.initialized yX10_given.cls) = true) ∧ (lw_tbl[1455]? = some (Cond.methodLink RL 135 yX11_given) ∧ goodWord (Cond.methodLink RL 135 yX11_given) = true) ∧ (lw_tbl[1456]? = some (Cond.instanceMethod yX11_given) ∧ goodWord (Cond.instanceMethod yX11_given) = true) ∧ (lw_tbl[1457]? = some (Cond.selects (fR 11) yX11_given yX11_given) ∧ goodWord (Cond.selects (fR 11) yX11_given yX11_given) = true) ∧ (lw_tbl[1458]? = some (Cond.code yX11_given cX11_given 9 (some .int)) ∧ goodWord (Cond.code yX11_given cX11_given 9 (some .int)) = true) ∧ (lw_tbl[87]? = some (Cond.initialized yX11_given.cls) ∧ goodWord (Cond.initialized yX11_given.cls) = true) := by decide +kernel
set_option maxRecDepth 100000 in
theorem gwl_36 : (lw_tbl[997]? = some (Cond.methodLink RL 136 yX10_known) ∧ goodWord (Cond.methodLink RL 136 yX10_known) = true) ∧ (lw_tbl[998]? = some (Cond.instanceMethod yX10_known) ∧ goodWord (Cond.instanceMethod yX10_known) = true) ∧ (lw_tbl[999]? = some (Cond.selects (fR 10) yX10_known yX10_known) ∧ goodWord (Cond.selects (fR 10) yX10_known yX10_known) = true) ∧ (lw_tbl[1000]? = some (Cond.code yX10_known cX10_known 4 (some .int)) ∧ goodWord (Cond.code yX10_known cX10_known 4 (some .int)) = true) ∧ (lw_tbl[75]? = some (Cond.initialized yX10_known.cls) ∧ goodWord (Cond.initialized yX10_known.cls) = true) ∧ (lw_tbl[1463]? = some (Cond.methodLink RL 139 yX11_known) ∧ goodWord (Cond.methodLink RL 139 yX11_known) = true) ∧ (lw_tbl[1464]? = some (Cond.instanceMethod yX11_known) ∧ goodWord (Cond.instanceMethod yX11_known) = true) ∧ (lw_tbl[1465]? = some (Cond.selects (fR 11) yX11_known yX11_known) ∧ goodWord (Cond.selects (fR 11) yX11_known yX11_known) = true) := by decide +kernel
set_option maxRecDepth 100000 in
theorem gwl_37 : (lw_tbl[1466]? = some (Cond.code yX11_known cX11_known 4 (some .int)) ∧ goodWord (Cond.code yX11_known cX11_known 4 (some .int)) = true) ∧ (lw_tbl[87]? = some (Cond.initialized yX11_known.cls) ∧ goodWord (Cond.initialized yX11_known.cls) = true) ∧ (lw_tbl[1002]? = some (Cond.methodLink RL 140 yX10_coarse) ∧ goodWord (Cond.methodLink RL 140 yX10_coarse) = true) ∧ (lw_tbl[1003]? = some (Cond.instanceMethod yX10_coarse) ∧ goodWord (Cond.instanceMethod yX10_coarse) = true) ∧ (lw_tbl[1004]? = some (Cond.selects (fR 10) yX10_coarse yX10_coarse) ∧ goodWord (Cond.selects (fR 10) yX10_coarse yX10_coarse) = true) ∧ (lw_tbl[1005]? = some (Cond.code yX10_coarse cX10_coarse 6 (some .int)) ∧ goodWord (Cond.code yX10_coarse cX10_coarse 6 (some .int)) = true) ∧ (lw_tbl[75]? = some (Cond.initialized yX10_coarse.cls) ∧ goodWord (Cond.initialized yX10_coarse.cls) = true) ∧ (lw_tbl[1468]? = some (Cond.methodLink RL 143 yX11_coarse) ∧ goodWord (Cond.methodLink RL 143 yX11_coarse) = true) := by decide +kernel
set_option maxRecDepth 100000 in
theorem gwl_38 : (lw_tbl[1469]? = some (Cond.instanceMethod yX11_coarse) ∧ goodWord (Cond.instanceMethod yX11_coarse) = true) ∧ (lw_tbl[1470]? = some (Cond.selects (fR 11) yX11_coarse yX11_coarse) ∧ goodWord (Cond.selects (fR 11) yX11_coarse yX11_coarse) = true) ∧ (lw_tbl[1471]? = some (Cond.code yX11_coarse cX11_coarse 12 (some .int)) ∧ goodWord (Cond.code yX11_coarse cX11_coarse 12 (some .int)) = true) ∧ (lw_tbl[87]? = some (Cond.initialized yX11_coarse.cls) ∧ goodWord (Cond.initialized yX11_coarse.cls) = true) ∧ (lw_tbl[1023]? = some (Cond.methodLink RL 144 yX10_keep) ∧ goodWord (Cond.methodLink RL 144 yX10_keep) = true) ∧ (lw_tbl[1024]? = some (Cond.instanceMethod yX10_keep) ∧ goodWord (Cond.instanceMethod yX10_keep) = true) ∧ (lw_tbl[1025]? = some (Cond.selects (fR 10) yX10_keep yX10_keep) ∧ goodWord (Cond.selects (fR 10) yX10_keep yX10_keep) = true) ∧ (lw_tbl[1026]? = some (Cond.code yX10_keep cX10_keep 1 (some .int)) ∧ goodWord (Cond.code yX10_keep cX10_keep 1 (some .int)) = true) := by decide +kernel
set_option maxRecDepth 100000 in
theorem gwl_39 : (lw_tbl[75]? = some (Cond.initialized yX10_keep.cls) ∧ goodWord (Cond.initialized yX10_keep.cls) = true) ∧ (lw_tbl[1472]? = some (Cond.methodLink RL 147 yX11_keep) ∧ goodWord (Cond.methodLink RL 147 yX11_keep) = true) ∧ (lw_tbl[1473]? = some (Cond.instanceMethod yX11_keep) ∧ goodWord (Cond.instanceMethod yX11_keep) = true) ∧ (lw_tbl[1474]? = some (Cond.selects (fR 11) yX11_keep yX11_keep) ∧ goodWord (Cond.selects (fR 11) yX11_keep yX11_keep) = true) ∧ (lw_tbl[1475]? = some (Cond.code yX11_keep cX11_keep 1 (some .int)) ∧ goodWord (Cond.code yX11_keep cX11_keep 1 (some .int)) = true) ∧ (lw_tbl[87]? = some (Cond.initialized yX11_keep.cls) ∧ goodWord (Cond.initialized yX11_keep.cls) = true) ∧ (lw_tbl[1032]? = some (Cond.methodLink RL 148 yX10_back) ∧ goodWord (Cond.methodLink RL 148 yX10_back) = true) ∧ (lw_tbl[1033]? = some (Cond.instanceMethod yX10_back) ∧ goodWord (Cond.instanceMethod yX10_back) = true) := by decide +kernel
set_option maxRecDepth 100000 in
theorem gwl_40 : (lw_tbl[1034]? = some (Cond.selects (fR 10) yX10_back yX10_back) ∧ goodWord (Cond.selects (fR 10) yX10_back yX10_back) = true) ∧ (lw_tbl[1035]? = some (Cond.code yX10_back cX10_back 1 (some .int)) ∧ goodWord (Cond.code yX10_back cX10_back 1 (some .int)) = true) ∧ (lw_tbl[75]? = some (Cond.initialized yX10_back.cls) ∧ goodWord (Cond.initialized yX10_back.cls) = true) ∧ (lw_tbl[1488]? = some (Cond.methodLink RL 151 yX11_back) ∧ goodWord (Cond.methodLink RL 151 yX11_back) = true) ∧ (lw_tbl[1489]? = some (Cond.instanceMethod yX11_back) ∧ goodWord (Cond.instanceMethod yX11_back) = true) ∧ (lw_tbl[1490]? = some (Cond.selects (fR 11) yX11_back yX11_back) ∧ goodWord (Cond.selects (fR 11) yX11_back yX11_back) = true) ∧ (lw_tbl[1491]? = some (Cond.code yX11_back cX11_back 1 (some .int)) ∧ goodWord (Cond.code yX11_back cX11_back 1 (some .int)) = true) ∧ (lw_tbl[87]? = some (Cond.initialized yX11_back.cls) ∧ goodWord (Cond.initialized yX11_back.cls) = true) := by decide +kernel
set_option maxRecDepth 100000 in
theorem gwl_41 : (lw_tbl[1036]? = some (Cond.methodLink RL 152 yX10_count) ∧ goodWord (Cond.methodLink RL 152 yX10_count) = true) ∧ (lw_tbl[1037]? = some (Cond.instanceMethod yX10_count) ∧ goodWord (Cond.instanceMethod yX10_count) = true) ∧ (lw_tbl[1038]? = some (Cond.selects (fR 10) yX10_count yX10_count) ∧ goodWord (Cond.selects (fR 10) yX10_count yX10_count) = true) ∧ (lw_tbl[1039]? = some (Cond.code yX10_count cX10_count 2 (some .int)) ∧ goodWord (Cond.code yX10_count cX10_count 2 (some .int)) = true) ∧ (lw_tbl[75]? = some (Cond.initialized yX10_count.cls) ∧ goodWord (Cond.initialized yX10_count.cls) = true) ∧ (lw_tbl[1492]? = some (Cond.methodLink RL 155 yX11_count) ∧ goodWord (Cond.methodLink RL 155 yX11_count) = true) ∧ (lw_tbl[1493]? = some (Cond.instanceMethod yX11_count) ∧ goodWord (Cond.instanceMethod yX11_count) = true) ∧ (lw_tbl[1494]? = some (Cond.selects (fR 11) yX11_count yX11_count) ∧ goodWord (Cond.selects (fR 11) yX11_count yX11_count) = true) := by decide +kernel
set_option maxRecDepth 100000 in
theorem gwl_42 : (lw_tbl[1495]? = some (Cond.code yX11_count cX11_count 5 (some .int)) ∧ goodWord (Cond.code yX11_count cX11_count 5 (some .int)) = true) ∧ (lw_tbl[87]? = some (Cond.initialized yX11_count.cls) ∧ goodWord (Cond.initialized yX11_count.cls) = true) := by decide +kernel
set_option maxRecDepth 100000 in
theorem cfL_0 {l : Launch} {D : va_G} {cA : Nat → ClassId} : CF l D cA RL room_1 (2, 9, s_X10_initG) := ⟨yX10_init, cX10_init, 1, none, 3, 74, c_X10_initG, ⟨by decide, by decide⟩, g_at 93 gwl_0.2.2.1, g_at 75 gwl_0.2.2.2.1, ⟨by decide +kernel, by decide +kernel⟩, ⟨(g_at 91 gwl_0.1 : Cond.methodLink RL 9 yX10_init ∈ gtbl), g_at 92 gwl_0.2.1, rfl, rfl, by decide +kernel⟩⟩
set_option maxRecDepth 100000 in
theorem cfL_1 {l : Launch} {D : va_G} {cA : Nat → ClassId} : CF l D cA RL room_1 (2, 12, s_X11_initG) := ⟨yX11_init, cX11_init, 2, none, 2, 42, c_X11_initG, ⟨by decide, by decide⟩, g_at 1048 gwl_0.2.2.2.2.2.2.1, g_at 87 gwl_0.2.2.2.2.2.2.2, ⟨by decide +kernel, by decide +kernel⟩, ⟨(g_at 1046 gwl_0.2.2.2.2.1 : Cond.methodLink RL 12 yX11_init ∈ gtbl), g_at 1047 gwl_0.2.2.2.2.2.1, rfl, rfl, by decide +kernel⟩⟩
set_option maxRecDepth 100000 in
theorem cfL_2 {l : Launch} {D : va_G} {cA : Nat → ClassId} : CF l D cA RL room_1 (0, 13, s_X10_skyX) := ⟨yX10_sky, cX10_sky, 3, (some .int), 3, 60, c_X10_skyX, ⟨by decide, by decide⟩, g_at 475 gwl_1.2.2.2.1, g_at 75 gwl_1.2.2.2.2.1, ⟨by decide +kernel, by decide +kernel⟩, ⟨(g_at 472 gwl_1.1 : Cond.methodLink RL 13 yX10_sky ∈ gtbl), g_at 473 gwl_1.2.1, (g_at 474 gwl_1.2.2.1 : Cond.selects (fR 10) yX10_sky yX10_sky ∈ gtbl), by decide, by decide +kernel⟩⟩
set_option maxRecDepth 100000 in
theorem cfL_3 {l : Launch} {D : va_G} {cA : Nat → ClassId} : CF l D cA RL room_1 (0, 17, s_X11_skyX) := ⟨yX11_sky, cX11_sky, 3, (some .int), 2, 42, c_X11_skyX, ⟨by decide, by decide⟩, g_at 1202 gwl_2.1, g_at 87 gwl_2.2.1, ⟨by decide +kernel, by decide +kernel⟩, ⟨(g_at 1199 gwl_1.2.2.2.2.2.1 : Cond.methodLink RL 17 yX11_sky ∈ gtbl), g_at 1200 gwl_1.2.2.2.2.2.2.1, (g_at 1201 gwl_1.2.2.2.2.2.2.2 : Cond.selects (fR 11) yX11_sky yX11_sky ∈ gtbl), by decide, by decide +kernel⟩⟩
set_option maxRecDepth 100000 in
theorem cfL_4 {l : Launch} {D : va_G} {cA : Nat → ClassId} : CF l D cA RL room_1 (0, 18, s_X10_ruleX) := ⟨yX10_rule, cX10_rule, 4, (some .int), 4, 80, c_X10_ruleX, ⟨by decide, by decide⟩, g_at 515 gwl_2.2.2.2.2.2.1, g_at 75 gwl_2.2.2.2.2.2.2.1, ⟨by decide +kernel, by decide +kernel⟩, ⟨(g_at 512 gwl_2.2.2.1 : Cond.methodLink RL 18 yX10_rule ∈ gtbl), g_at 513 gwl_2.2.2.2.1, (g_at 514 gwl_2.2.2.2.2.1 : Cond.selects (fR 10) yX10_rule yX10_rule ∈ gtbl), by decide, by decide +kernel⟩⟩
set_option maxRecDepth 100000 in
theorem cfL_5 {l : Launch} {D : va_G} {cA : Nat → ClassId} : CF l D cA RL room_1 (0, 21, s_X11_ruleX) := ⟨yX11_rule, cX11_rule, 4, (some .int), 1, 25, c_X11_ruleX, ⟨by decide, by decide⟩, g_at 1215 gwl_3.2.2.1, g_at 87 gwl_3.2.2.2.1, ⟨by decide +kernel, by decide +kernel⟩, ⟨(g_at 1212 gwl_2.2.2.2.2.2.2.2 : Cond.methodLink RL 21 yX11_rule ∈ gtbl), g_at 1213 gwl_3.1, (g_at 1214 gwl_3.2.1 : Cond.selects (fR 11) yX11_rule yX11_rule ∈ gtbl), by decide, by decide +kernel⟩⟩
set_option maxRecDepth 100000 in
theorem cfL_6 {l : Launch} {D : va_G} {cA : Nat → ClassId} : CF l D cA RL room_1 (0, 22, s_X10_rimX) := ⟨yX10_rim, cX10_rim, 4, (some .int), 3, 60, c_X10_rimX, ⟨by decide, by decide⟩, g_at 523 gwl_3.2.2.2.2.2.2.2, g_at 75 gwl_4.1, ⟨by decide +kernel, by decide +kernel⟩, ⟨(g_at 520 gwl_3.2.2.2.2.1 : Cond.methodLink RL 22 yX10_rim ∈ gtbl), g_at 521 gwl_3.2.2.2.2.2.1, (g_at 522 gwl_3.2.2.2.2.2.2.1 : Cond.selects (fR 10) yX10_rim yX10_rim ∈ gtbl), by decide, by decide +kernel⟩⟩
set_option maxRecDepth 100000 in
theorem cfL_7 {l : Launch} {D : va_G} {cA : Nat → ClassId} : CF l D cA RL room_1 (0, 25, s_X11_rimX) := ⟨yX11_rim, cX11_rim, 4, (some .int), 2, 45, c_X11_rimX, ⟨by decide, by decide⟩, g_at 1220 gwl_4.2.2.2.2.1, g_at 87 gwl_4.2.2.2.2.2.1, ⟨by decide +kernel, by decide +kernel⟩, ⟨(g_at 1217 gwl_4.2.1 : Cond.methodLink RL 25 yX11_rim ∈ gtbl), g_at 1218 gwl_4.2.2.1, (g_at 1219 gwl_4.2.2.2.1 : Cond.selects (fR 11) yX11_rim yX11_rim ∈ gtbl), by decide, by decide +kernel⟩⟩
set_option maxRecDepth 100000 in
theorem cfL_8 {l : Launch} {D : va_G} {cA : Nat → ClassId} : CF l D cA RL room_1 (0, 28, s_X10_write) := ⟨yX10_write, cX10_write, 5, (some .int), 1, 21, c_X10_write, ⟨by decide, by decide⟩, g_at 536 gwl_5.2.1, g_at 75 gwl_5.2.2.1, ⟨by decide +kernel, by decide +kernel⟩, ⟨(g_at 533 gwl_4.2.2.2.2.2.2.1 : Cond.methodLink RL 28 yX10_write ∈ gtbl), g_at 534 gwl_4.2.2.2.2.2.2.2, (g_at 535 gwl_5.1 : Cond.selects (fR 10) yX10_write yX10_write ∈ gtbl), by decide, by decide +kernel⟩⟩
set_option maxRecDepth 100000 in
theorem cfL_9 {l : Launch} {D : va_G} {cA : Nat → ClassId} : CF l D cA RL room_1 (0, 32, s_X11_write) := ⟨yX11_write, cX11_write, 5, (some .int), 1, 25, c_X11_write, ⟨by decide, by decide⟩, g_at 1231 gwl_5.2.2.2.2.2.2.1, g_at 87 gwl_5.2.2.2.2.2.2.2, ⟨by decide +kernel, by decide +kernel⟩, ⟨(g_at 1228 gwl_5.2.2.2.1 : Cond.methodLink RL 32 yX11_write ∈ gtbl), g_at 1229 gwl_5.2.2.2.2.1, (g_at 1230 gwl_5.2.2.2.2.2.1 : Cond.selects (fR 11) yX11_write yX11_write ∈ gtbl), by decide, by decide +kernel⟩⟩
set_option maxRecDepth 100000 in
theorem cfL_10 {l : Launch} {D : va_G} {cA : Nat → ClassId} : CF l D cA RL room_1 (0, 33, s_X10_wipe) := ⟨yX10_wipe, cX10_wipe, 2, (some .int), 0, 0, c_X10_wipe, ⟨by decide, by decide⟩, g_at 544 gwl_6.2.2.2.1, g_at 75 gwl_6.2.2.2.2.1, ⟨by decide +kernel, by decide +kernel⟩, ⟨(g_at 541 gwl_6.1 : Cond.methodLink RL 33 yX10_wipe ∈ gtbl), g_at 542 gwl_6.2.1, (g_at 543 gwl_6.2.2.1 : Cond.selects (fR 10) yX10_wipe yX10_wipe ∈ gtbl), by decide, by decide +kernel⟩⟩
set_option maxRecDepth 100000 in
theorem cfL_11 {l : Launch} {D : va_G} {cA : Nat → ClassId} : CF l D cA RL room_1 (0, 37, s_X11_wipe) := ⟨yX11_wipe, cX11_wipe, 2, (some .int), 0, 0, c_X11_wipe, ⟨by decide, by decide⟩, g_at 1237 gwl_7.1, g_at 87 gwl_7.2.1, ⟨by decide +kernel, by decide +kernel⟩, ⟨(g_at 1234 gwl_6.2.2.2.2.2.1 : Cond.methodLink RL 37 yX11_wipe ∈ gtbl), g_at 1235 gwl_6.2.2.2.2.2.2.1, (g_at 1236 gwl_6.2.2.2.2.2.2.2 : Cond.selects (fR 11) yX11_wipe yX11_wipe ∈ gtbl), by decide, by decide +kernel⟩⟩
set_option maxRecDepth 100000 in
theorem cfL_12 {l : Launch} {D : va_G} {cA : Nat → ClassId} : CF l D cA RL room_1 (0, 38, s_X10_fault) := ⟨yX10_fault, cX10_fault, 1, (some .int), 6, 131, c_X10_fault, ⟨by decide, by decide⟩, g_at 548 gwl_7.2.2.2.2.2.1, g_at 75 gwl_7.2.2.2.2.2.2.1, ⟨by decide +kernel, by decide +kernel⟩, ⟨(g_at 545 gwl_7.2.2.1 : Cond.methodLink RL 38 yX10_fault ∈ gtbl), g_at 546 gwl_7.2.2.2.1, (g_at 547 gwl_7.2.2.2.2.1 : Cond.selects (fR 10) yX10_fault yX10_fault ∈ gtbl), by decide, by decide +kernel⟩⟩
set_option maxRecDepth 100000 in
theorem cfL_13 {l : Launch} {D : va_G} {cA : Nat → ClassId} : CF l D cA RL room_1 (0, 41, s_X11_fault) := ⟨yX11_fault, cX11_fault, 1, (some .int), 6, 140, c_X11_fault, ⟨by decide, by decide⟩, g_at 1241 gwl_8.2.2.1, g_at 87 gwl_8.2.2.2.1, ⟨by decide +kernel, by decide +kernel⟩, ⟨(g_at 1238 gwl_7.2.2.2.2.2.2.2 : Cond.methodLink RL 41 yX11_fault ∈ gtbl), g_at 1239 gwl_8.1, (g_at 1240 gwl_8.2.1 : Cond.selects (fR 11) yX11_fault yX11_fault ∈ gtbl), by decide, by decide +kernel⟩⟩
set_option maxRecDepth 100000 in
theorem cfL_14 {l : Launch} {D : va_G} {cA : Nat → ClassId} : CF l D cA RL room_1 (0, 42, s_X10_plan) := ⟨yX10_plan, cX10_plan, 1, (some .int), 6, 131, c_X10_plan, ⟨by decide, by decide⟩, g_at 603 gwl_8.2.2.2.2.2.2.2, g_at 75 gwl_9.1, ⟨by decide +kernel, by decide +kernel⟩, ⟨(g_at 600 gwl_8.2.2.2.2.1 : Cond.methodLink RL 42 yX10_plan ∈ gtbl), g_at 601 gwl_8.2.2.2.2.2.1, (g_at 602 gwl_8.2.2.2.2.2.2.1 : Cond.selects (fR 10) yX10_plan yX10_plan ∈ gtbl), by decide, by decide +kernel⟩⟩
set_option maxRecDepth 100000 in
theorem cfL_15 {l : Launch} {D : va_G} {cA : Nat → ClassId} : CF l D cA RL room_1 (0, 45, s_X11_plan) := ⟨yX11_plan, cX11_plan, 2, (some .int), 6, 140, c_X11_plan, ⟨by decide, by decide⟩, g_at 1276 gwl_9.2.2.2.2.1, g_at 87 gwl_9.2.2.2.2.2.1, ⟨by decide +kernel, by decide +kernel⟩, ⟨(g_at 1273 gwl_9.2.1 : Cond.methodLink RL 45 yX11_plan ∈ gtbl), g_at 1274 gwl_9.2.2.1, (g_at 1275 gwl_9.2.2.2.1 : Cond.selects (fR 11) yX11_plan yX11_plan ∈ gtbl), by decide, by decide +kernel⟩⟩
set_option maxRecDepth 100000 in
theorem cfL_16 {l : Launch} {D : va_G} {cA : Nat → ClassId} : CF l D cA RL room_1 (0, 46, s_X10_line) := ⟨yX10_line, cX10_line, 3, (some .int), 3, 64, c_X10_line, ⟨by decide, by decide⟩, g_at 611 gwl_10.2.1, g_at 75 gwl_10.2.2.1, ⟨by decide +kernel, by decide +kernel⟩, ⟨(g_at 608 gwl_9.2.2.2.2.2.2.1 : Cond.methodLink RL 46 yX10_line ∈ gtbl), g_at 609 gwl_9.2.2.2.2.2.2.2, (g_at 610 gwl_10.1 : Cond.selects (fR 10) yX10_line yX10_line ∈ gtbl), by decide, by decide +kernel⟩⟩
set_option maxRecDepth 100000 in
theorem cfL_17 {l : Launch} {D : va_G} {cA : Nat → ClassId} : CF l D cA RL room_1 (0, 49, s_X11_line) := ⟨yX11_line, cX11_line, 3, (some .int), 2, 45, c_X11_line, ⟨by decide, by decide⟩, g_at 1280 gwl_10.2.2.2.2.2.2.1, g_at 87 gwl_10.2.2.2.2.2.2.2, ⟨by decide +kernel, by decide +kernel⟩, ⟨(g_at 1277 gwl_10.2.2.2.1 : Cond.methodLink RL 49 yX11_line ∈ gtbl), g_at 1278 gwl_10.2.2.2.2.1, (g_at 1279 gwl_10.2.2.2.2.2.1 : Cond.selects (fR 11) yX11_line yX11_line ∈ gtbl), by decide, by decide +kernel⟩⟩
set_option maxRecDepth 100000 in
theorem cfL_18 {l : Launch} {D : va_G} {cA : Nat → ClassId} : CF l D cA RL room_1 (0, 50, s_X10_firstX) := ⟨yX10_first, cX10_first, 6, (some .int), 3, 60, c_X10_firstX, ⟨by decide, by decide⟩, g_at 624 gwl_11.2.2.2.1, g_at 75 gwl_11.2.2.2.2.1, ⟨by decide +kernel, by decide +kernel⟩, ⟨(g_at 621 gwl_11.1 : Cond.methodLink RL 50 yX10_first ∈ gtbl), g_at 622 gwl_11.2.1, (g_at 623 gwl_11.2.2.1 : Cond.selects (fR 10) yX10_first yX10_first ∈ gtbl), by decide, by decide +kernel⟩⟩
set_option maxRecDepth 100000 in
theorem cfL_19 {l : Launch} {D : va_G} {cA : Nat → ClassId} : CF l D cA RL room_1 (0, 54, s_X11_firstX) := ⟨yX11_first, cX11_first, 5, (some .int), 2, 46, c_X11_firstX, ⟨by decide, by decide⟩, g_at 1289 gwl_12.1, g_at 87 gwl_12.2.1, ⟨by decide +kernel, by decide +kernel⟩, ⟨(g_at 1286 gwl_11.2.2.2.2.2.1 : Cond.methodLink RL 54 yX11_first ∈ gtbl), g_at 1287 gwl_11.2.2.2.2.2.2.1, (g_at 1288 gwl_11.2.2.2.2.2.2.2 : Cond.selects (fR 11) yX11_first yX11_first ∈ gtbl), by decide, by decide +kernel⟩⟩
set_option maxRecDepth 100000 in
theorem cfL_20 {l : Launch} {D : va_G} {cA : Nat → ClassId} : CF l D cA RL room_1 (0, 55, s_X10_at) := ⟨yX10_at, cX10_at, 5, (some .int), 6, 164, c_X10_at, ⟨by decide, by decide⟩, g_at 633 gwl_12.2.2.2.2.2.1, g_at 75 gwl_12.2.2.2.2.2.2.1, ⟨by decide +kernel, by decide +kernel⟩, ⟨(g_at 630 gwl_12.2.2.1 : Cond.methodLink RL 55 yX10_at ∈ gtbl), g_at 631 gwl_12.2.2.2.1, (g_at 632 gwl_12.2.2.2.2.1 : Cond.selects (fR 10) yX10_at yX10_at ∈ gtbl), by decide, by decide +kernel⟩⟩
set_option maxRecDepth 100000 in
theorem cfL_21 {l : Launch} {D : va_G} {cA : Nat → ClassId} : CF l D cA RL room_1 (0, 59, s_X11_at) := ⟨yX11_at, cX11_at, 5, (some .int), 6, 160, c_X11_at, ⟨by decide, by decide⟩, g_at 1297 gwl_13.2.2.1, g_at 87 gwl_13.2.2.2.1, ⟨by decide +kernel, by decide +kernel⟩, ⟨(g_at 1294 gwl_12.2.2.2.2.2.2.2 : Cond.methodLink RL 59 yX11_at ∈ gtbl), g_at 1295 gwl_13.1, (g_at 1296 gwl_13.2.1 : Cond.selects (fR 11) yX11_at yX11_at ∈ gtbl), by decide, by decide +kernel⟩⟩
set_option maxRecDepth 100000 in
theorem cfL_22 {l : Launch} {D : va_G} {cA : Nat → ClassId} : CF l D cA RL room_1 (0, 60, s_X10_marked) := ⟨yX10_marked, cX10_marked, 4, (some .int), 5, 127, c_X10_marked, ⟨by decide, by decide⟩, g_at 732 gwl_13.2.2.2.2.2.2.2, g_at 75 gwl_14.1, ⟨by decide +kernel, by decide +kernel⟩, ⟨(g_at 729 gwl_13.2.2.2.2.1 : Cond.methodLink RL 60 yX10_marked ∈ gtbl), g_at 730 gwl_13.2.2.2.2.2.1, (g_at 731 gwl_13.2.2.2.2.2.2.1 : Cond.selects (fR 10) yX10_marked yX10_marked ∈ gtbl), by decide, by decide +kernel⟩⟩
set_option maxRecDepth 100000 in
theorem cfL_23 {l : Launch} {D : va_G} {cA : Nat → ClassId} : CF l D cA RL room_1 (0, 63, s_X11_marked) := ⟨yX11_marked, cX11_marked, 4, (some .int), 6, 160, c_X11_marked, ⟨by decide, by decide⟩, g_at 1363 gwl_14.2.2.2.2.1, g_at 87 gwl_14.2.2.2.2.2.1, ⟨by decide +kernel, by decide +kernel⟩, ⟨(g_at 1360 gwl_14.2.1 : Cond.methodLink RL 63 yX11_marked ∈ gtbl), g_at 1361 gwl_14.2.2.1, (g_at 1362 gwl_14.2.2.2.1 : Cond.selects (fR 11) yX11_marked yX11_marked ∈ gtbl), by decide, by decide +kernel⟩⟩
set_option maxRecDepth 100000 in
theorem cfL_24 {l : Launch} {D : va_G} {cA : Nat → ClassId} : CF l D cA RL room_1 (0, 64, s_X10_sum) := ⟨yX10_sum, cX10_sum, 8, (some .long), 6, 164, c_X10_sum, ⟨by decide, by decide⟩, g_at 771 gwl_15.2.1, g_at 75 gwl_15.2.2.1, ⟨by decide +kernel, by decide +kernel⟩, ⟨(g_at 768 gwl_14.2.2.2.2.2.2.1 : Cond.methodLink RL 64 yX10_sum ∈ gtbl), g_at 769 gwl_14.2.2.2.2.2.2.2, (g_at 770 gwl_15.1 : Cond.selects (fR 10) yX10_sum yX10_sum ∈ gtbl), by decide, by decide +kernel⟩⟩
set_option maxRecDepth 100000 in
theorem cfL_25 {l : Launch} {D : va_G} {cA : Nat → ClassId} : CF l D cA RL room_1 (0, 68, s_X11_sum) := ⟨yX11_sum, cX11_sum, 8, (some .long), 6, 160, c_X11_sum, ⟨by decide, by decide⟩, g_at 1367 gwl_15.2.2.2.2.2.2.1, g_at 87 gwl_15.2.2.2.2.2.2.2, ⟨by decide +kernel, by decide +kernel⟩, ⟨(g_at 1364 gwl_15.2.2.2.1 : Cond.methodLink RL 68 yX11_sum ∈ gtbl), g_at 1365 gwl_15.2.2.2.2.1, (g_at 1366 gwl_15.2.2.2.2.2.1 : Cond.selects (fR 11) yX11_sum yX11_sum ∈ gtbl), by decide, by decide +kernel⟩⟩
set_option maxRecDepth 100000 in
theorem cfL_26 {l : Launch} {D : va_G} {cA : Nat → ClassId} : CF l D cA RL room_1 (0, 69, s_X10_slipX) := ⟨yX10_slip, cX10_slip, 5, (some .int), 2, 40, c_X10_slipX, ⟨by decide, by decide⟩, g_at 784 gwl_16.2.2.2.1, g_at 75 gwl_16.2.2.2.2.1, ⟨by decide +kernel, by decide +kernel⟩, ⟨(g_at 781 gwl_16.1 : Cond.methodLink RL 69 yX10_slip ∈ gtbl), g_at 782 gwl_16.2.1, (g_at 783 gwl_16.2.2.1 : Cond.selects (fR 10) yX10_slip yX10_slip ∈ gtbl), by decide, by decide +kernel⟩⟩
set_option maxRecDepth 100000 in
theorem cfL_27 {l : Launch} {D : va_G} {cA : Nat → ClassId} : CF l D cA RL room_1 (0, 73, s_X11_slipX) := ⟨yX11_slip, cX11_slip, 5, (some .int), 2, 46, c_X11_slipX, ⟨by decide, by decide⟩, g_at 1372 gwl_17.1, g_at 87 gwl_17.2.1, ⟨by decide +kernel, by decide +kernel⟩, ⟨(g_at 1369 gwl_16.2.2.2.2.2.1 : Cond.methodLink RL 73 yX11_slip ∈ gtbl), g_at 1370 gwl_16.2.2.2.2.2.2.1, (g_at 1371 gwl_16.2.2.2.2.2.2.2 : Cond.selects (fR 11) yX11_slip yX11_slip ∈ gtbl), by decide, by decide +kernel⟩⟩
set_option maxRecDepth 100000 in
theorem cfL_28 {l : Launch} {D : va_G} {cA : Nat → ClassId} : CF l D cA RL room_1 (0, 74, s_X10_mendX) := ⟨yX10_mend, cX10_mend, 1, (some .int), 2, 40, c_X10_mendX, ⟨by decide, by decide⟩, g_at 795 gwl_17.2.2.2.2.2.1, g_at 75 gwl_17.2.2.2.2.2.2.1, ⟨by decide +kernel, by decide +kernel⟩, ⟨(g_at 792 gwl_17.2.2.1 : Cond.methodLink RL 74 yX10_mend ∈ gtbl), g_at 793 gwl_17.2.2.2.1, (g_at 794 gwl_17.2.2.2.2.1 : Cond.selects (fR 10) yX10_mend yX10_mend ∈ gtbl), by decide, by decide +kernel⟩⟩
set_option maxRecDepth 100000 in
theorem cfL_29 {l : Launch} {D : va_G} {cA : Nat → ClassId} : CF l D cA RL room_1 (0, 77, s_X11_mendX) := ⟨yX11_mend, cX11_mend, 1, (some .int), 0, 0, c_X11_mendX, ⟨by decide, by decide⟩, g_at 1376 gwl_18.2.2.1, g_at 87 gwl_18.2.2.2.1, ⟨by decide +kernel, by decide +kernel⟩, ⟨(g_at 1373 gwl_17.2.2.2.2.2.2.2 : Cond.methodLink RL 77 yX11_mend ∈ gtbl), g_at 1374 gwl_18.1, (g_at 1375 gwl_18.2.1 : Cond.selects (fR 11) yX11_mend yX11_mend ∈ gtbl), by decide, by decide +kernel⟩⟩
set_option maxRecDepth 100000 in
theorem cfL_30 {l : Launch} {D : va_G} {cA : Nat → ClassId} : CF l D cA RL room_1 (0, 78, s_X10_spread) := ⟨yX10_spread, cX10_spread, 4, (some .int), 6, 163, c_X10_spread, ⟨by decide, by decide⟩, g_at 799 gwl_18.2.2.2.2.2.2.2, g_at 75 gwl_19.1, ⟨by decide +kernel, by decide +kernel⟩, ⟨(g_at 796 gwl_18.2.2.2.2.1 : Cond.methodLink RL 78 yX10_spread ∈ gtbl), g_at 797 gwl_18.2.2.2.2.2.1, (g_at 798 gwl_18.2.2.2.2.2.2.1 : Cond.selects (fR 10) yX10_spread yX10_spread ∈ gtbl), by decide, by decide +kernel⟩⟩
set_option maxRecDepth 100000 in
theorem cfL_31 {l : Launch} {D : va_G} {cA : Nat → ClassId} : CF l D cA RL room_1 (0, 81, s_X11_spread) := ⟨yX11_spread, cX11_spread, 8, (some .int), 6, 160, c_X11_spread, ⟨by decide, by decide⟩, g_at 1380 gwl_19.2.2.2.2.1, g_at 87 gwl_19.2.2.2.2.2.1, ⟨by decide +kernel, by decide +kernel⟩, ⟨(g_at 1377 gwl_19.2.1 : Cond.methodLink RL 81 yX11_spread ∈ gtbl), g_at 1378 gwl_19.2.2.1, (g_at 1379 gwl_19.2.2.2.1 : Cond.selects (fR 11) yX11_spread yX11_spread ∈ gtbl), by decide, by decide +kernel⟩⟩
set_option maxRecDepth 100000 in
theorem cfL_32 {l : Launch} {D : va_G} {cA : Nat → ClassId} : CF l D cA RL room_1 (0, 82, s_X10_kept) := ⟨yX10_kept, cX10_kept, 2, (some .int), 4, 87, c_X10_kept, ⟨by decide, by decide⟩, g_at 819 gwl_20.2.1, g_at 75 gwl_20.2.2.1, ⟨by decide +kernel, by decide +kernel⟩, ⟨(g_at 816 gwl_19.2.2.2.2.2.2.1 : Cond.methodLink RL 82 yX10_kept ∈ gtbl), g_at 817 gwl_19.2.2.2.2.2.2.2, (g_at 818 gwl_20.1 : Cond.selects (fR 10) yX10_kept yX10_kept ∈ gtbl), by decide, by decide +kernel⟩⟩
set_option maxRecDepth 100000 in
theorem cfL_33 {l : Launch} {D : va_G} {cA : Nat → ClassId} : CF l D cA RL room_1 (0, 86, s_X11_kept) := ⟨yX11_kept, cX11_kept, 5, (some .int), 2, 45, c_X11_kept, ⟨by decide, by decide⟩, g_at 1384 gwl_20.2.2.2.2.2.2.1, g_at 87 gwl_20.2.2.2.2.2.2.2, ⟨by decide +kernel, by decide +kernel⟩, ⟨(g_at 1381 gwl_20.2.2.2.1 : Cond.methodLink RL 86 yX11_kept ∈ gtbl), g_at 1382 gwl_20.2.2.2.2.1, (g_at 1383 gwl_20.2.2.2.2.2.1 : Cond.selects (fR 11) yX11_kept yX11_kept ∈ gtbl), by decide, by decide +kernel⟩⟩
set_option maxRecDepth 100000 in
theorem cfL_34 {l : Launch} {D : va_G} {cA : Nat → ClassId} : CF l D cA RL room_1 (0, 87, s_X10_grows) := ⟨yX10_grows, cX10_grows, 2, (some .int), 4, 87, c_X10_grows, ⟨by decide, by decide⟩, g_at 830 gwl_21.2.2.2.1, g_at 75 gwl_21.2.2.2.2.1, ⟨by decide +kernel, by decide +kernel⟩, ⟨(g_at 827 gwl_21.1 : Cond.methodLink RL 87 yX10_grows ∈ gtbl), g_at 828 gwl_21.2.1, (g_at 829 gwl_21.2.2.1 : Cond.selects (fR 10) yX10_grows yX10_grows ∈ gtbl), by decide, by decide +kernel⟩⟩
set_option maxRecDepth 100000 in
theorem cfL_35 {l : Launch} {D : va_G} {cA : Nat → ClassId} : CF l D cA RL room_1 (0, 90, s_X11_grows) := ⟨yX11_grows, cX11_grows, 5, (some .int), 1, 23, c_X11_grows, ⟨by decide, by decide⟩, g_at 1388 gwl_22.1, g_at 87 gwl_22.2.1, ⟨by decide +kernel, by decide +kernel⟩, ⟨(g_at 1385 gwl_21.2.2.2.2.2.1 : Cond.methodLink RL 90 yX11_grows ∈ gtbl), g_at 1386 gwl_21.2.2.2.2.2.2.1, (g_at 1387 gwl_21.2.2.2.2.2.2.2 : Cond.selects (fR 11) yX11_grows yX11_grows ∈ gtbl), by decide, by decide +kernel⟩⟩
set_option maxRecDepth 100000 in
theorem cfL_36 {l : Launch} {D : va_G} {cA : Nat → ClassId} : CF l D cA RL room_1 (0, 91, s_X10_tell) := ⟨yX10_tell, cX10_tell, 7, (some .int), 2, 47, c_X10_tell, ⟨by decide, by decide⟩, g_at 841 gwl_22.2.2.2.2.2.1, g_at 75 gwl_22.2.2.2.2.2.2.1, ⟨by decide +kernel, by decide +kernel⟩, ⟨(g_at 838 gwl_22.2.2.1 : Cond.methodLink RL 91 yX10_tell ∈ gtbl), g_at 839 gwl_22.2.2.2.1, (g_at 840 gwl_22.2.2.2.2.1 : Cond.selects (fR 10) yX10_tell yX10_tell ∈ gtbl), by decide, by decide +kernel⟩⟩
set_option maxRecDepth 100000 in
theorem cfL_37 {l : Launch} {D : va_G} {cA : Nat → ClassId} : CF l D cA RL room_1 (0, 95, s_X11_tell) := ⟨yX11_tell, cX11_tell, 8, (some .int), 2, 45, c_X11_tell, ⟨by decide, by decide⟩, g_at 1392 gwl_23.2.2.1, g_at 87 gwl_23.2.2.2.1, ⟨by decide +kernel, by decide +kernel⟩, ⟨(g_at 1389 gwl_22.2.2.2.2.2.2.2 : Cond.methodLink RL 95 yX11_tell ∈ gtbl), g_at 1390 gwl_23.1, (g_at 1391 gwl_23.2.1 : Cond.selects (fR 11) yX11_tell yX11_tell ∈ gtbl), by decide, by decide +kernel⟩⟩
set_option maxRecDepth 100000 in
theorem cfL_38 {l : Launch} {D : va_G} {cA : Nat → ClassId} : CF l D cA RL room_1 (0, 96, s_X10_fails) := ⟨yX10_fails, cX10_fails, 1, (some .int), 6, 164, c_X10_fails, ⟨by decide, by decide⟩, g_at 852 gwl_23.2.2.2.2.2.2.2, g_at 75 gwl_24.1, ⟨by decide +kernel, by decide +kernel⟩, ⟨(g_at 849 gwl_23.2.2.2.2.1 : Cond.methodLink RL 96 yX10_fails ∈ gtbl), g_at 850 gwl_23.2.2.2.2.2.1, (g_at 851 gwl_23.2.2.2.2.2.2.1 : Cond.selects (fR 10) yX10_fails yX10_fails ∈ gtbl), by decide, by decide +kernel⟩⟩
set_option maxRecDepth 100000 in
theorem cfL_39 {l : Launch} {D : va_G} {cA : Nat → ClassId} : CF l D cA RL room_1 (0, 99, s_X11_fails_) := ⟨yX11_fails_, cX11_fails_, 3, (some .int), 7, 183, c_X11_fails_, ⟨by decide, by decide⟩, g_at 1398 gwl_24.2.2.2.2.1, g_at 87 gwl_24.2.2.2.2.2.1, ⟨by decide +kernel, by decide +kernel⟩, ⟨(g_at 1395 gwl_24.2.1 : Cond.methodLink RL 99 yX11_fails_ ∈ gtbl), g_at 1396 gwl_24.2.2.1, (g_at 1397 gwl_24.2.2.2.1 : Cond.selects (fR 11) yX11_fails_ yX11_fails_ ∈ gtbl), by decide, by decide +kernel⟩⟩
set_option maxRecDepth 100000 in
theorem cfL_40 {l : Launch} {D : va_G} {cA : Nat → ClassId} : CF l D cA RL room_1 (0, 100, s_X10_least) := ⟨yX10_least, cX10_least, 1, (some .int), 6, 164, c_X10_least, ⟨by decide, by decide⟩, g_at 869 gwl_25.2.1, g_at 75 gwl_25.2.2.1, ⟨by decide +kernel, by decide +kernel⟩, ⟨(g_at 866 gwl_24.2.2.2.2.2.2.1 : Cond.methodLink RL 100 yX10_least ∈ gtbl), g_at 867 gwl_24.2.2.2.2.2.2.2, (g_at 868 gwl_25.1 : Cond.selects (fR 10) yX10_least yX10_least ∈ gtbl), by decide, by decide +kernel⟩⟩
set_option maxRecDepth 100000 in
theorem cfL_41 {l : Launch} {D : va_G} {cA : Nat → ClassId} : CF l D cA RL room_1 (0, 103, s_X11_least) := ⟨yX11_least, cX11_least, 9, (some .int), 7, 183, c_X11_least, ⟨by decide, by decide⟩, g_at 1406 gwl_25.2.2.2.2.2.2.1, g_at 87 gwl_25.2.2.2.2.2.2.2, ⟨by decide +kernel, by decide +kernel⟩, ⟨(g_at 1403 gwl_25.2.2.2.1 : Cond.methodLink RL 103 yX11_least ∈ gtbl), g_at 1404 gwl_25.2.2.2.2.1, (g_at 1405 gwl_25.2.2.2.2.2.1 : Cond.selects (fR 11) yX11_least yX11_least ∈ gtbl), by decide, by decide +kernel⟩⟩
set_option maxRecDepth 100000 in
theorem cfL_42 {l : Launch} {D : va_G} {cA : Nat → ClassId} : CF l D cA RL room_1 (0, 104, s_X10_second) := ⟨yX10_second, cX10_second, 6, (some .int), 6, 164, c_X10_second, ⟨by decide, by decide⟩, g_at 902 gwl_26.2.2.2.1, g_at 75 gwl_26.2.2.2.2.1, ⟨by decide +kernel, by decide +kernel⟩, ⟨(g_at 899 gwl_26.1 : Cond.methodLink RL 104 yX10_second ∈ gtbl), g_at 900 gwl_26.2.1, (g_at 901 gwl_26.2.2.1 : Cond.selects (fR 10) yX10_second yX10_second ∈ gtbl), by decide, by decide +kernel⟩⟩
set_option maxRecDepth 100000 in
theorem cfL_43 {l : Launch} {D : va_G} {cA : Nat → ClassId} : CF l D cA RL room_1 (0, 107, s_X11_second) := ⟨yX11_second, cX11_second, 5, (some .int), 6, 160, c_X11_second, ⟨by decide, by decide⟩, g_at 1414 gwl_27.1, g_at 87 gwl_27.2.1, ⟨by decide +kernel, by decide +kernel⟩, ⟨(g_at 1411 gwl_26.2.2.2.2.2.1 : Cond.methodLink RL 107 yX11_second ∈ gtbl), g_at 1412 gwl_26.2.2.2.2.2.2.1, (g_at 1413 gwl_26.2.2.2.2.2.2.2 : Cond.selects (fR 11) yX11_second yX11_second ∈ gtbl), by decide, by decide +kernel⟩⟩
set_option maxRecDepth 100000 in
theorem cfL_44 {l : Launch} {D : va_G} {cA : Nat → ClassId} : CF l D cA RL room_1 (0, 108, s_X10_put) := ⟨yX10_put, cX10_put, 4, (some .int), 1, 21, c_X10_put, ⟨by decide, by decide⟩, g_at 907 gwl_27.2.2.2.2.2.1, g_at 75 gwl_27.2.2.2.2.2.2.1, ⟨by decide +kernel, by decide +kernel⟩, ⟨(g_at 904 gwl_27.2.2.1 : Cond.methodLink RL 108 yX10_put ∈ gtbl), g_at 905 gwl_27.2.2.2.1, (g_at 906 gwl_27.2.2.2.2.1 : Cond.selects (fR 10) yX10_put yX10_put ∈ gtbl), by decide, by decide +kernel⟩⟩
set_option maxRecDepth 100000 in
theorem cfL_45 {l : Launch} {D : va_G} {cA : Nat → ClassId} : CF l D cA RL room_1 (0, 111, s_X11_put) := ⟨yX11_put, cX11_put, 4, (some .int), 2, 46, c_X11_put, ⟨by decide, by decide⟩, g_at 1418 gwl_28.2.2.1, g_at 87 gwl_28.2.2.2.1, ⟨by decide +kernel, by decide +kernel⟩, ⟨(g_at 1415 gwl_27.2.2.2.2.2.2.2 : Cond.methodLink RL 111 yX11_put ∈ gtbl), g_at 1416 gwl_28.1, (g_at 1417 gwl_28.2.1 : Cond.selects (fR 11) yX11_put yX11_put ∈ gtbl), by decide, by decide +kernel⟩⟩
set_option maxRecDepth 100000 in
theorem cfL_46 {l : Launch} {D : va_G} {cA : Nat → ClassId} : CF l D cA RL room_1 (0, 112, s_X10_judge) := ⟨yX10_judge, cX10_judge, 5, (some .int), 6, 164, c_X10_judge, ⟨by decide, by decide⟩, g_at 913 gwl_28.2.2.2.2.2.2.2, g_at 75 gwl_29.1, ⟨by decide +kernel, by decide +kernel⟩, ⟨(g_at 910 gwl_28.2.2.2.2.1 : Cond.methodLink RL 112 yX10_judge ∈ gtbl), g_at 911 gwl_28.2.2.2.2.2.1, (g_at 912 gwl_28.2.2.2.2.2.2.1 : Cond.selects (fR 10) yX10_judge yX10_judge ∈ gtbl), by decide, by decide +kernel⟩⟩
set_option maxRecDepth 100000 in
theorem cfL_47 {l : Launch} {D : va_G} {cA : Nat → ClassId} : CF l D cA RL room_1 (0, 115, s_X11_judge) := ⟨yX11_judge, cX11_judge, 4, (some .int), 6, 160, c_X11_judge, ⟨by decide, by decide⟩, g_at 1423 gwl_29.2.2.2.2.1, g_at 87 gwl_29.2.2.2.2.2.1, ⟨by decide +kernel, by decide +kernel⟩, ⟨(g_at 1420 gwl_29.2.1 : Cond.methodLink RL 115 yX11_judge ∈ gtbl), g_at 1421 gwl_29.2.2.1, (g_at 1422 gwl_29.2.2.2.1 : Cond.selects (fR 11) yX11_judge yX11_judge ∈ gtbl), by decide, by decide +kernel⟩⟩
set_option maxRecDepth 100000 in
theorem cfL_48 {l : Launch} {D : va_G} {cA : Nat → ClassId} : CF l D cA RL room_1 (0, 116, s_X10_pace) := ⟨yX10_pace, cX10_pace, 4, (some .int), 2, 41, c_X10_pace, ⟨by decide, by decide⟩, g_at 917 gwl_30.2.1, g_at 75 gwl_30.2.2.1, ⟨by decide +kernel, by decide +kernel⟩, ⟨(g_at 914 gwl_29.2.2.2.2.2.2.1 : Cond.methodLink RL 116 yX10_pace ∈ gtbl), g_at 915 gwl_29.2.2.2.2.2.2.2, (g_at 916 gwl_30.1 : Cond.selects (fR 10) yX10_pace yX10_pace ∈ gtbl), by decide, by decide +kernel⟩⟩
set_option maxRecDepth 100000 in
theorem cfL_49 {l : Launch} {D : va_G} {cA : Nat → ClassId} : CF l D cA RL room_1 (0, 119, s_X11_pace) := ⟨yX11_pace, cX11_pace, 4, (some .int), 1, 25, c_X11_pace, ⟨by decide, by decide⟩, g_at 1427 gwl_30.2.2.2.2.2.2.1, g_at 87 gwl_30.2.2.2.2.2.2.2, ⟨by decide +kernel, by decide +kernel⟩, ⟨(g_at 1424 gwl_30.2.2.2.1 : Cond.methodLink RL 119 yX11_pace ∈ gtbl), g_at 1425 gwl_30.2.2.2.2.1, (g_at 1426 gwl_30.2.2.2.2.2.1 : Cond.selects (fR 11) yX11_pace yX11_pace ∈ gtbl), by decide, by decide +kernel⟩⟩
set_option maxRecDepth 100000 in
theorem cfL_50 {l : Launch} {D : va_G} {cA : Nat → ClassId} : CF l D cA RL room_1 (0, 120, s_X10_give) := ⟨yX10_give, cX10_give, 4, (some .int), 1, 21, c_X10_give, ⟨by decide, by decide⟩, g_at 924 gwl_31.2.2.2.1, g_at 75 gwl_31.2.2.2.2.1, ⟨by decide +kernel, by decide +kernel⟩, ⟨(g_at 921 gwl_31.1 : Cond.methodLink RL 120 yX10_give ∈ gtbl), g_at 922 gwl_31.2.1, (g_at 923 gwl_31.2.2.1 : Cond.selects (fR 10) yX10_give yX10_give ∈ gtbl), by decide, by decide +kernel⟩⟩
set_option maxRecDepth 100000 in
theorem cfL_51 {l : Launch} {D : va_G} {cA : Nat → ClassId} : CF l D cA RL room_1 (0, 123, s_X11_give) := ⟨yX11_give, cX11_give, 4, (some .int), 2, 46, c_X11_give, ⟨by decide, by decide⟩, g_at 1433 gwl_32.1, g_at 87 gwl_32.2.1, ⟨by decide +kernel, by decide +kernel⟩, ⟨(g_at 1430 gwl_31.2.2.2.2.2.1 : Cond.methodLink RL 123 yX11_give ∈ gtbl), g_at 1431 gwl_31.2.2.2.2.2.2.1, (g_at 1432 gwl_31.2.2.2.2.2.2.2 : Cond.selects (fR 11) yX11_give yX11_give ∈ gtbl), by decide, by decide +kernel⟩⟩
set_option maxRecDepth 100000 in
theorem cfL_52 {l : Launch} {D : va_G} {cA : Nat → ClassId} : CF l D cA RL room_1 (0, 124, s_X10_when) := ⟨yX10_when, cX10_when, 3, (some .int), 4, 102, c_X10_when, ⟨by decide, by decide⟩, g_at 928 gwl_32.2.2.2.2.2.1, g_at 75 gwl_32.2.2.2.2.2.2.1, ⟨by decide +kernel, by decide +kernel⟩, ⟨(g_at 925 gwl_32.2.2.1 : Cond.methodLink RL 124 yX10_when ∈ gtbl), g_at 926 gwl_32.2.2.2.1, (g_at 927 gwl_32.2.2.2.2.1 : Cond.selects (fR 10) yX10_when yX10_when ∈ gtbl), by decide, by decide +kernel⟩⟩
set_option maxRecDepth 100000 in
theorem cfL_53 {l : Launch} {D : va_G} {cA : Nat → ClassId} : CF l D cA RL room_1 (0, 127, s_X11_when) := ⟨yX11_when, cX11_when, 3, (some .int), 4, 98, c_X11_when, ⟨by decide, by decide⟩, g_at 1437 gwl_33.2.2.1, g_at 87 gwl_33.2.2.2.1, ⟨by decide +kernel, by decide +kernel⟩, ⟨(g_at 1434 gwl_32.2.2.2.2.2.2.2 : Cond.methodLink RL 127 yX11_when ∈ gtbl), g_at 1435 gwl_33.1, (g_at 1436 gwl_33.2.1 : Cond.selects (fR 11) yX11_when yX11_when ∈ gtbl), by decide, by decide +kernel⟩⟩
set_option maxRecDepth 100000 in
theorem cfL_54 {l : Launch} {D : va_G} {cA : Nat → ClassId} : CF l D cA RL room_1 (0, 128, s_X10_slowest) := ⟨yX10_slowest, cX10_slowest, 4, (some .int), 4, 102, c_X10_slowest, ⟨by decide, by decide⟩, g_at 963 gwl_33.2.2.2.2.2.2.2, g_at 75 gwl_34.1, ⟨by decide +kernel, by decide +kernel⟩, ⟨(g_at 960 gwl_33.2.2.2.2.1 : Cond.methodLink RL 128 yX10_slowest ∈ gtbl), g_at 961 gwl_33.2.2.2.2.2.1, (g_at 962 gwl_33.2.2.2.2.2.2.1 : Cond.selects (fR 10) yX10_slowest yX10_slowest ∈ gtbl), by decide, by decide +kernel⟩⟩
set_option maxRecDepth 100000 in
theorem cfL_55 {l : Launch} {D : va_G} {cA : Nat → ClassId} : CF l D cA RL room_1 (0, 131, s_X11_slowest) := ⟨yX11_slowest, cX11_slowest, 3, (some .int), 4, 98, c_X11_slowest, ⟨by decide, by decide⟩, g_at 1454 gwl_34.2.2.2.2.1, g_at 87 gwl_34.2.2.2.2.2.1, ⟨by decide +kernel, by decide +kernel⟩, ⟨(g_at 1451 gwl_34.2.1 : Cond.methodLink RL 131 yX11_slowest ∈ gtbl), g_at 1452 gwl_34.2.2.1, (g_at 1453 gwl_34.2.2.2.1 : Cond.selects (fR 11) yX11_slowest yX11_slowest ∈ gtbl), by decide, by decide +kernel⟩⟩
set_option maxRecDepth 100000 in
theorem cfL_56 {l : Launch} {D : va_G} {cA : Nat → ClassId} : CF l D cA RL room_1 (0, 132, s_X10_given) := ⟨yX10_given, cX10_given, 4, (some .int), 6, 153, c_X10_given, ⟨by decide, by decide⟩, g_at 967 gwl_35.2.1, g_at 75 gwl_35.2.2.1, ⟨by decide +kernel, by decide +kernel⟩, ⟨(g_at 964 gwl_34.2.2.2.2.2.2.1 : Cond.methodLink RL 132 yX10_given ∈ gtbl), g_at 965 gwl_34.2.2.2.2.2.2.2, (g_at 966 gwl_35.1 : Cond.selects (fR 10) yX10_given yX10_given ∈ gtbl), by decide, by decide +kernel⟩⟩
set_option maxRecDepth 100000 in
theorem cfL_57 {l : Launch} {D : va_G} {cA : Nat → ClassId} : CF l D cA RL room_1 (0, 135, s_X11_given) := ⟨yX11_given, cX11_given, 9, (some .int), 3, 77, c_X11_given, ⟨by decide, by decide⟩, g_at 1458 gwl_35.2.2.2.2.2.2.1, g_at 87 gwl_35.2.2.2.2.2.2.2, ⟨by decide +kernel, by decide +kernel⟩, ⟨(g_at 1455 gwl_35.2.2.2.1 : Cond.methodLink RL 135 yX11_given ∈ gtbl), g_at 1456 gwl_35.2.2.2.2.1, (g_at 1457 gwl_35.2.2.2.2.2.1 : Cond.selects (fR 11) yX11_given yX11_given ∈ gtbl), by decide, by decide +kernel⟩⟩
set_option maxRecDepth 100000 in
theorem cfL_58 {l : Launch} {D : va_G} {cA : Nat → ClassId} : CF l D cA RL room_1 (0, 136, s_X10_known) := ⟨yX10_known, cX10_known, 4, (some .int), 4, 102, c_X10_known, ⟨by decide, by decide⟩, g_at 1000 gwl_36.2.2.2.1, g_at 75 gwl_36.2.2.2.2.1, ⟨by decide +kernel, by decide +kernel⟩, ⟨(g_at 997 gwl_36.1 : Cond.methodLink RL 136 yX10_known ∈ gtbl), g_at 998 gwl_36.2.1, (g_at 999 gwl_36.2.2.1 : Cond.selects (fR 10) yX10_known yX10_known ∈ gtbl), by decide, by decide +kernel⟩⟩
set_option maxRecDepth 100000 in
theorem cfL_59 {l : Launch} {D : va_G} {cA : Nat → ClassId} : CF l D cA RL room_1 (0, 139, s_X11_known) := ⟨yX11_known, cX11_known, 4, (some .int), 4, 98, c_X11_known, ⟨by decide, by decide⟩, g_at 1466 gwl_37.1, g_at 87 gwl_37.2.1, ⟨by decide +kernel, by decide +kernel⟩, ⟨(g_at 1463 gwl_36.2.2.2.2.2.1 : Cond.methodLink RL 139 yX11_known ∈ gtbl), g_at 1464 gwl_36.2.2.2.2.2.2.1, (g_at 1465 gwl_36.2.2.2.2.2.2.2 : Cond.selects (fR 11) yX11_known yX11_known ∈ gtbl), by decide, by decide +kernel⟩⟩
set_option maxRecDepth 100000 in
theorem cfL_60 {l : Launch} {D : va_G} {cA : Nat → ClassId} : CF l D cA RL room_1 (0, 140, s_X10_coarse) := ⟨yX10_coarse, cX10_coarse, 6, (some .int), 6, 164, c_X10_coarse, ⟨by decide, by decide⟩, g_at 1005 gwl_37.2.2.2.2.2.1, g_at 75 gwl_37.2.2.2.2.2.2.1, ⟨by decide +kernel, by decide +kernel⟩, ⟨(g_at 1002 gwl_37.2.2.1 : Cond.methodLink RL 140 yX10_coarse ∈ gtbl), g_at 1003 gwl_37.2.2.2.1, (g_at 1004 gwl_37.2.2.2.2.1 : Cond.selects (fR 10) yX10_coarse yX10_coarse ∈ gtbl), by decide, by decide +kernel⟩⟩
set_option maxRecDepth 100000 in
theorem cfL_61 {l : Launch} {D : va_G} {cA : Nat → ClassId} : CF l D cA RL room_1 (0, 143, s_X11_coarse) := ⟨yX11_coarse, cX11_coarse, 12, (some .int), 6, 160, c_X11_coarse, ⟨by decide, by decide⟩, g_at 1471 gwl_38.2.2.1, g_at 87 gwl_38.2.2.2.1, ⟨by decide +kernel, by decide +kernel⟩, ⟨(g_at 1468 gwl_37.2.2.2.2.2.2.2 : Cond.methodLink RL 143 yX11_coarse ∈ gtbl), g_at 1469 gwl_38.1, (g_at 1470 gwl_38.2.1 : Cond.selects (fR 11) yX11_coarse yX11_coarse ∈ gtbl), by decide, by decide +kernel⟩⟩
set_option maxRecDepth 100000 in
theorem cfL_62 {l : Launch} {D : va_G} {cA : Nat → ClassId} : CF l D cA RL room_1 (0, 144, s_X10_keepX) := ⟨yX10_keep, cX10_keep, 1, (some .int), 2, 44, c_X10_keepX, ⟨by decide, by decide⟩, g_at 1026 gwl_38.2.2.2.2.2.2.2, g_at 75 gwl_39.1, ⟨by decide +kernel, by decide +kernel⟩, ⟨(g_at 1023 gwl_38.2.2.2.2.1 : Cond.methodLink RL 144 yX10_keep ∈ gtbl), g_at 1024 gwl_38.2.2.2.2.2.1, (g_at 1025 gwl_38.2.2.2.2.2.2.1 : Cond.selects (fR 10) yX10_keep yX10_keep ∈ gtbl), by decide, by decide +kernel⟩⟩
set_option maxRecDepth 100000 in
theorem cfL_63 {l : Launch} {D : va_G} {cA : Nat → ClassId} : CF l D cA RL room_1 (0, 147, s_X11_keepX) := ⟨yX11_keep, cX11_keep, 1, (some .int), 3, 75, c_X11_keepX, ⟨by decide, by decide⟩, g_at 1475 gwl_39.2.2.2.2.1, g_at 87 gwl_39.2.2.2.2.2.1, ⟨by decide +kernel, by decide +kernel⟩, ⟨(g_at 1472 gwl_39.2.1 : Cond.methodLink RL 147 yX11_keep ∈ gtbl), g_at 1473 gwl_39.2.2.1, (g_at 1474 gwl_39.2.2.2.1 : Cond.selects (fR 11) yX11_keep yX11_keep ∈ gtbl), by decide, by decide +kernel⟩⟩
set_option maxRecDepth 100000 in
theorem cfL_64 {l : Launch} {D : va_G} {cA : Nat → ClassId} : CF l D cA RL room_1 (0, 148, s_X10_backX) := ⟨yX10_back, cX10_back, 1, (some .int), 4, 80, c_X10_backX, ⟨by decide, by decide⟩, g_at 1035 gwl_40.2.1, g_at 75 gwl_40.2.2.1, ⟨by decide +kernel, by decide +kernel⟩, ⟨(g_at 1032 gwl_39.2.2.2.2.2.2.1 : Cond.methodLink RL 148 yX10_back ∈ gtbl), g_at 1033 gwl_39.2.2.2.2.2.2.2, (g_at 1034 gwl_40.1 : Cond.selects (fR 10) yX10_back yX10_back ∈ gtbl), by decide, by decide +kernel⟩⟩
set_option maxRecDepth 100000 in
theorem cfL_65 {l : Launch} {D : va_G} {cA : Nat → ClassId} : CF l D cA RL room_1 (0, 151, s_X11_backX) := ⟨yX11_back, cX11_back, 1, (some .int), 3, 75, c_X11_backX, ⟨by decide, by decide⟩, g_at 1491 gwl_40.2.2.2.2.2.2.1, g_at 87 gwl_40.2.2.2.2.2.2.2, ⟨by decide +kernel, by decide +kernel⟩, ⟨(g_at 1488 gwl_40.2.2.2.1 : Cond.methodLink RL 151 yX11_back ∈ gtbl), g_at 1489 gwl_40.2.2.2.2.1, (g_at 1490 gwl_40.2.2.2.2.2.1 : Cond.selects (fR 11) yX11_back yX11_back ∈ gtbl), by decide, by decide +kernel⟩⟩
set_option maxRecDepth 100000 in
theorem cfL_66 {l : Launch} {D : va_G} {cA : Nat → ClassId} : CF l D cA RL room_1 (0, 152, s_X10_count) := ⟨yX10_count, cX10_count, 2, (some .int), 1, 23, c_X10_count, ⟨by decide, by decide⟩, g_at 1039 gwl_41.2.2.2.1, g_at 75 gwl_41.2.2.2.2.1, ⟨by decide +kernel, by decide +kernel⟩, ⟨(g_at 1036 gwl_41.1 : Cond.methodLink RL 152 yX10_count ∈ gtbl), g_at 1037 gwl_41.2.1, (g_at 1038 gwl_41.2.2.1 : Cond.selects (fR 10) yX10_count yX10_count ∈ gtbl), by decide, by decide +kernel⟩⟩
set_option maxRecDepth 100000 in
theorem cfL_67 {l : Launch} {D : va_G} {cA : Nat → ClassId} : CF l D cA RL room_1 (0, 155, s_X11_count) := ⟨yX11_count, cX11_count, 5, (some .int), 1, 20, c_X11_count, ⟨by decide, by decide⟩, g_at 1495 gwl_42.1, g_at 87 gwl_42.2, ⟨by decide +kernel, by decide +kernel⟩, ⟨(g_at 1492 gwl_41.2.2.2.2.2.1 : Cond.methodLink RL 155 yX11_count ∈ gtbl), g_at 1493 gwl_41.2.2.2.2.2.2.1, (g_at 1494 gwl_41.2.2.2.2.2.2.2 : Cond.selects (fR 11) yX11_count yX11_count ∈ gtbl), by decide, by decide +kernel⟩⟩
theorem cfL {l : Launch} {D : va_G} {cA : Nat → ClassId} : ∀ q ∈ clL, CF l D cA RL room_1 q := List.forall_mem_cons.mpr ⟨cfL_0, List.forall_mem_cons.mpr ⟨cfL_1, List.forall_mem_cons.mpr ⟨cfL_2, List.forall_mem_cons.mpr ⟨cfL_3, List.forall_mem_cons.mpr ⟨cfL_4, List.forall_mem_cons.mpr ⟨cfL_5, List.forall_mem_cons.mpr ⟨cfL_6, List.forall_mem_cons.mpr ⟨cfL_7, List.forall_mem_cons.mpr ⟨cfL_8, List.forall_mem_cons.mpr ⟨cfL_9, List.forall_mem_cons.mpr ⟨cfL_10, List.forall_mem_cons.mpr ⟨cfL_11, List.forall_mem_cons.mpr ⟨cfL_12, List.forall_mem_cons.mpr ⟨cfL_13, List.forall_mem_cons.mpr ⟨cfL_14, List.forall_mem_cons.mpr ⟨cfL_15, List.forall_mem_cons.mpr ⟨cfL_16, List.forall_mem_cons.mpr ⟨cfL_17, List.forall_mem_cons.mpr ⟨cfL_18, List.forall_mem_cons.mpr ⟨cfL_19, List.forall_mem_cons.mpr ⟨cfL_20, List.forall_mem_cons.mpr ⟨cfL_21, List.forall_mem_cons.mpr ⟨cfL_22, List.forall_mem_cons.mpr ⟨cfL_23, List.forall_mem_cons.mpr ⟨cfL_24, List.forall_mem_cons.mpr ⟨cfL_25, List.forall_mem_cons.mpr ⟨cfL_26, List.forall_mem_cons.mpr ⟨cfL_27, List.forall_mem_cons.mpr ⟨cfL_28, List.forall_mem_cons.mpr ⟨cfL_29, List.forall_mem_cons.mpr ⟨cfL_30, List.forall_mem_cons.mpr ⟨cfL_31, List.forall_mem_cons.mpr ⟨cfL_32, List.forall_mem_cons.mpr ⟨cfL_33, List.forall_mem_cons.mpr ⟨cfL_34, List.forall_mem_cons.mpr ⟨cfL_35, List.forall_mem_cons.mpr ⟨cfL_36, List.forall_mem_cons.mpr ⟨cfL_37, List.forall_mem_cons.mpr ⟨cfL_38, List.forall_mem_cons.mpr ⟨cfL_39, List.forall_mem_cons.mpr ⟨cfL_40, List.forall_mem_cons.mpr ⟨cfL_41, List.forall_mem_cons.mpr ⟨cfL_42, List.forall_mem_cons.mpr ⟨cfL_43, List.forall_mem_cons.mpr ⟨cfL_44, List.forall_mem_cons.mpr ⟨cfL_45, List.forall_mem_cons.mpr ⟨cfL_46, List.forall_mem_cons.mpr ⟨cfL_47, List.forall_mem_cons.mpr ⟨cfL_48, List.forall_mem_cons.mpr ⟨cfL_49, List.forall_mem_cons.mpr ⟨cfL_50, List.forall_mem_cons.mpr ⟨cfL_51, List.forall_mem_cons.mpr ⟨cfL_52, List.forall_mem_cons.mpr ⟨cfL_53, List.forall_mem_cons.mpr ⟨cfL_54, List.forall_mem_cons.mpr ⟨cfL_55, List.forall_mem_cons.mpr ⟨cfL_56, List.forall_mem_cons.mpr ⟨cfL_57, List.forall_mem_cons.mpr ⟨cfL_58, List.forall_mem_cons.mpr ⟨cfL_59, List.forall_mem_cons.mpr ⟨cfL_60, List.forall_mem_cons.mpr ⟨cfL_61, List.forall_mem_cons.mpr ⟨cfL_62, List.forall_mem_cons.mpr ⟨cfL_63, List.forall_mem_cons.mpr ⟨cfL_64, List.forall_mem_cons.mpr ⟨cfL_65, List.forall_mem_cons.mpr ⟨cfL_66, List.forall_mem_cons.mpr ⟨cfL_67, fun q hq => by cases hq⟩⟩⟩⟩⟩⟩⟩⟩⟩⟩⟩⟩⟩⟩⟩⟩⟩⟩⟩⟩⟩⟩⟩⟩⟩⟩⟩⟩⟩⟩⟩⟩⟩⟩⟩⟩⟩⟩⟩⟩⟩⟩⟩⟩⟩⟩⟩⟩⟩⟩⟩⟩⟩⟩⟩⟩⟩⟩⟩⟩⟩⟩⟩⟩⟩⟩⟩⟩

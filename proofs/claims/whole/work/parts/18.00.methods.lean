def am_M0 : am_Me := (8, ⟨"RookHouse", "<init>", "()V"⟩, prog_1_method_1_code, 1, none, 0, 2, 149, 148, 0)
set_option maxRecDepth 10000 in
theorem am_t0 : am_mt[0]? = some am_M0 := rfl
theorem am_m0 : am_ms[0]? = some am_M0 := am_me_of am_t0
def am_M1 : am_Me := (0, ⟨"RookHouse$House", "<init>", "()V"⟩, prog_2_method_1_code, 1, none, 0, 2, 157, 156, 0)
set_option maxRecDepth 10000 in
theorem am_t1 : am_mt[1]? = some am_M1 := rfl
theorem am_m1 : am_ms[1]? = some am_M1 := am_me_of am_t1
def am_M2 : am_Me := (1, ⟨"RookHouse$Past", "<init>", "()V"⟩, prog_3_method_1_code, 1, none, 0, 2, 232, 231, 0)
set_option maxRecDepth 10000 in
theorem am_t2 : am_mt[2]? = some am_M2 := rfl
theorem am_m2 : am_ms[2]? = some am_M2 := am_me_of am_t2
def am_M3 : am_Me := (5, ⟨"RookHouse$Tape", "<init>", "()V"⟩, prog_7_method_1_code, 1, none, 0, 2, 246, 245, 0)
set_option maxRecDepth 10000 in
theorem am_t3 : am_mt[3]? = some am_M3 := rfl
theorem am_m3 : am_ms[3]? = some am_M3 := am_me_of am_t3
def am_M4 : am_Me := (2, ⟨"RookHouse$Reader", "<init>", "()V"⟩, prog_4_method_1_code, 1, none, 0, 2, 264, 263, 0)
set_option maxRecDepth 10000 in
theorem am_t4 : am_mt[4]? = some am_M4 := rfl
theorem am_m4 : am_ms[4]? = some am_M4 := am_me_of am_t4
def am_M5 : am_Me := (7, ⟨"RookHouse$Tokens", "<init>", "()V"⟩, prog_9_method_1_code, 1, none, 0, 2, 270, 269, 0)
set_option maxRecDepth 10000 in
theorem am_t5 : am_mt[5]? = some am_M5 := rfl
theorem am_m5 : am_ms[5]? = some am_M5 := am_me_of am_t5
def am_M6 : am_Me := (6, ⟨"RookHouse$Text", "<init>", "(I)V"⟩, prog_8_method_1_code, 2, none, 1, 2, 293, 292, 0)
set_option maxRecDepth 10000 in
theorem am_t6 : am_mt[6]? = some am_M6 := rfl
theorem am_m6 : am_ms[6]? = some am_M6 := am_me_of am_t6
def am_M7 : am_Me := (4, ⟨"RookHouse$Table", "<init>", "()V"⟩, prog_6_method_1_code, 1, none, 0, 2, 380, 379, 0)
set_option maxRecDepth 10000 in
theorem am_t7 : am_mt[7]? = some am_M7 := rfl
theorem am_m7 : am_ms[7]? = some am_M7 := am_me_of am_t7
def am_M8 : am_Me := (3, ⟨"RookHouse$Reckoner", "<init>", "()V"⟩, prog_5_method_1_code, 1, none, 0, 2, 386, 385, 0)
set_option maxRecDepth 10000 in
theorem am_t8 : am_mt[8]? = some am_M8 := rfl
theorem am_m8 : am_ms[8]? = some am_M8 := am_me_of am_t8
def am_M9 : am_Me := (8, ⟨"RookHouse", "member", "(II)I"⟩, prog_1_method_2_code, 3, (some .int), 2, 0, 499, 497, 498)
set_option maxRecDepth 10000 in
theorem am_t9 : am_mt[9]? = some am_M9 := rfl
theorem am_m9 : am_ms[9]? = some am_M9 := am_me_of am_t9
def am_M10 : am_Me := (8, ⟨"RookHouse", "canBeMember", "(II)Z"⟩, prog_1_method_49_code, 2, (some .boolean), 2, 1, 502, 501, 0)
set_option maxRecDepth 10000 in
theorem am_t10 : am_mt[10]? = some am_M10 := rfl
theorem am_m10 : am_ms[10]? = some am_M10 := am_me_of am_t10
def am_M11 : am_Me := (8, ⟨"RookHouse", "refused", "(I)I"⟩, prog_1_method_43_code, 2, (some .int), 1, 0, 506, 505, 0)
set_option maxRecDepth 10000 in
theorem am_t11 : am_mt[11]? = some am_M11 := rfl
theorem am_m11 : am_ms[11]? = some am_M11 := am_me_of am_t11
def am_M12 : am_Me := (1, ⟨"RookHouse$Past", "clear", "()V"⟩, prog_3_method_2_code, 1, none, 0, 0, 510, 508, 509)
set_option maxRecDepth 10000 in
theorem am_t12 : am_mt[12]? = some am_M12 := rfl
theorem am_m12 : am_ms[12]? = some am_M12 := am_me_of am_t12
def am_M13 : am_Me := (0, ⟨"RookHouse$House", "addMember", "(II)I"⟩, prog_2_method_7_code, 5, (some .int), 2, 0, 514, 512, 513)
set_option maxRecDepth 10000 in
theorem am_t13 : am_mt[13]? = some am_M13 := rfl
theorem am_m13 : am_ms[13]? = some am_M13 := am_me_of am_t13
def am_M14 : am_Me := (8, ⟨"RookHouse", "taken", "(I)I"⟩, prog_1_method_44_code, 2, (some .int), 1, 0, 518, 517, 1)
set_option maxRecDepth 10000 in
theorem am_t14 : am_mt[14]? = some am_M14 := rfl
theorem am_m14 : am_ms[14]? = some am_M14 := am_me_of am_t14
def am_M15 : am_Me := (8, ⟨"RookHouse", "of", "(II)I"⟩, prog_1_method_3_code, 3, (some .int), 2, 0, 522, 520, 521)
set_option maxRecDepth 10000 in
theorem am_t15 : am_mt[15]? = some am_M15 := rfl
theorem am_m15 : am_ms[15]? = some am_M15 := am_me_of am_t15
def am_M16 : am_Me := (0, ⟨"RookHouse$House", "hasMember", "(I)Z"⟩, prog_2_method_3_code, 2, (some .boolean), 1, 0, 526, 524, 525)
set_option maxRecDepth 10000 in
theorem am_t16 : am_mt[16]? = some am_M16 := rfl
theorem am_m16 : am_ms[16]? = some am_M16 := am_me_of am_t16
def am_M17 : am_Me := (8, ⟨"RookHouse", "bitOf", "(II)I"⟩, prog_1_method_50_code, 2, (some .int), 2, 1, 529, 528, 0)
set_option maxRecDepth 10000 in
theorem am_t17 : am_mt[17]? = some am_M17 := rfl
theorem am_m17 : am_ms[17]? = some am_M17 := am_me_of am_t17
def am_M18 : am_Me := (8, ⟨"RookHouse", "isBill", "(I)Z"⟩, prog_1_method_46_code, 1, (some .boolean), 1, 1, 532, 531, 0)
set_option maxRecDepth 10000 in
theorem am_t18 : am_mt[18]? = some am_M18 := rfl
theorem am_m18 : am_ms[18]? = some am_M18 := am_me_of am_t18
def am_M19 : am_Me := (8, ⟨"RookHouse", "asks", "(III)I"⟩, prog_1_method_4_code, 5, (some .int), 3, 0, 536, 534, 535)
set_option maxRecDepth 10000 in
theorem am_t19 : am_mt[19]? = some am_M19 := rfl
theorem am_m19 : am_ms[19]? = some am_M19 := am_me_of am_t19
def am_M20 : am_Me := (8, ⟨"RookHouse", "look", "(I)V"⟩, prog_1_method_51_code, 2, none, 1, 0, 540, 539, 2)
set_option maxRecDepth 10000 in
theorem am_t20 : am_mt[20]? = some am_M20 := rfl
theorem am_m20 : am_ms[20]? = some am_M20 := am_me_of am_t20
def am_M21 : am_Me := (0, ⟨"RookHouse$House", "lawAt", "(I)LRookHouse$Text;"⟩, prog_2_method_5_code, 2, (some (.object "RookHouse$Text")), 1, 0, 544, 542, 543)
set_option maxRecDepth 10000 in
theorem am_t21 : am_mt[21]? = some am_M21 := rfl
theorem am_m21 : am_ms[21]? = some am_M21 := am_me_of am_t21
def am_M22 : am_Me := (4, ⟨"RookHouse$Table", "fillBill", "(LRookHouse$House;LRookHouse$Text;I)V"⟩, prog_6_method_3_code, 6, none, 3, 0, 548, 546, 547)
set_option maxRecDepth 10000 in
theorem am_t22 : am_mt[22]? = some am_M22 := rfl
theorem am_m22 : am_ms[22]? = some am_M22 := am_me_of am_t22
def am_M23 : am_Me := (11, ⟨"java/lang/Integer", "bitCount", "(I)I"⟩, prog_12_method_49_code, 1, (some .int), 1, 1, 556, 555, 0)
set_option maxRecDepth 10000 in
theorem am_t23 : am_mt[23]? = some am_M23 := rfl
theorem am_m23 : am_ms[23]? = some am_M23 := am_me_of am_t23
def am_M24 : am_Me := (4, ⟨"RookHouse$Table", "applyLaw", "(LRookHouse$Text;II)V"⟩, prog_6_method_4_code, 10, none, 3, 0, 563, 562, 3)
set_option maxRecDepth 10000 in
theorem am_t24 : am_mt[24]? = some am_M24 := rfl
theorem am_m24 : am_ms[24]? = some am_M24 := am_me_of am_t24
def am_M25 : am_Me := (3, ⟨"RookHouse$Reckoner", "reckon", "(LRookHouse$Text;I[I)I"⟩, prog_5_method_2_code, 9, (some .int), 3, 0, 567, 565, 566)
set_option maxRecDepth 10000 in
theorem am_t25 : am_mt[25]? = some am_M25 := rfl
theorem am_m25 : am_ms[25]? = some am_M25 := am_me_of am_t25
def am_M26 : am_Me := (3, ⟨"RookHouse$Reckoner", "wordAt", "([II)I"⟩, prog_5_method_3_code, 2, (some .int), 2, 1, 571, 570, 0)
set_option maxRecDepth 10000 in
theorem am_t26 : am_mt[26]? = some am_M26 := rfl
theorem am_m26 : am_ms[26]? = some am_M26 := am_me_of am_t26
def am_M27 : am_Me := (3, ⟨"RookHouse$Reckoner", "joined", "(IJJ)J"⟩, prog_5_method_4_code, 8, (some .long), 3, 0, 576, 575, 4)
set_option maxRecDepth 10000 in
theorem am_t27 : am_mt[27]? = some am_M27 := rfl
theorem am_m27 : am_ms[27]? = some am_M27 := am_me_of am_t27
def am_M28 : am_Me := (4, ⟨"RookHouse$Table", "inFavour", "(I)I"⟩, prog_6_method_6_code, 4, (some .int), 1, 0, 583, 581, 582)
set_option maxRecDepth 10000 in
theorem am_t28 : am_mt[28]? = some am_M28 := rfl
theorem am_m28 : am_ms[28]? = some am_M28 := am_me_of am_t28
def am_M29 : am_Me := (8, ⟨"RookHouse", "bill", "(II)I"⟩, prog_1_method_5_code, 3, (some .int), 2, 0, 587, 585, 586)
set_option maxRecDepth 10000 in
theorem am_t29 : am_mt[29]? = some am_M29 := rfl
theorem am_m29 : am_ms[29]? = some am_M29 := am_me_of am_t29
def am_M30 : am_Me := (4, ⟨"RookHouse$Table", "voicesFor", "(I)I"⟩, prog_6_method_7_code, 2, (some .int), 1, 0, 591, 589, 590)
set_option maxRecDepth 10000 in
theorem am_t30 : am_mt[30]? = some am_M30 := rfl
theorem am_m30 : am_ms[30]? = some am_M30 := am_me_of am_t30
def am_M31 : am_Me := (4, ⟨"RookHouse$Table", "voices", "(II)I"⟩, prog_6_method_5_code, 5, (some .int), 2, 0, 596, 594, 595)
set_option maxRecDepth 10000 in
theorem am_t31 : am_mt[31]? = some am_M31 := rfl
theorem am_m31 : am_ms[31]? = some am_M31 := am_me_of am_t31
def am_M32 : am_Me := (4, ⟨"RookHouse$Table", "needed", "(II)I"⟩, prog_6_method_8_code, 3, (some .int), 2, 0, 601, 599, 600)
set_option maxRecDepth 10000 in
theorem am_t32 : am_mt[32]? = some am_M32 := rfl
theorem am_m32 : am_ms[32]? = some am_M32 := am_me_of am_t32
def am_M33 : am_Me := (4, ⟨"RookHouse$Table", "carries", "(I)Z"⟩, prog_6_method_9_code, 2, (some .boolean), 1, 0, 605, 603, 604)
set_option maxRecDepth 10000 in
theorem am_t33 : am_mt[33]? = some am_M33 := rfl
theorem am_m33 : am_ms[33]? = some am_M33 := am_me_of am_t33
def am_M34 : am_Me := (8, ⟨"RookHouse", "lookAtAll", "()V"⟩, prog_1_method_52_code, 1, none, 0, 0, 611, 610, 5)
set_option maxRecDepth 10000 in
theorem am_t34 : am_mt[34]? = some am_M34 := rfl
theorem am_m34 : am_ms[34]? = some am_M34 := am_me_of am_t34
def am_M35 : am_Me := (4, ⟨"RookHouse$Table", "fillAll", "(LRookHouse$House;LRookHouse$Text;)V"⟩, prog_6_method_2_code, 4, none, 2, 0, 615, 613, 614)
set_option maxRecDepth 10000 in
theorem am_t35 : am_mt[35]? = some am_M35 := rfl
theorem am_m35 : am_ms[35]? = some am_M35 := am_me_of am_t35
def am_M36 : am_Me := (4, ⟨"RookHouse$Table", "points", "(II)I"⟩, prog_6_method_18_code, 5, (some .int), 2, 0, 620, 618, 619)
set_option maxRecDepth 10000 in
theorem am_t36 : am_mt[36]? = some am_M36 := rfl
theorem am_m36 : am_ms[36]? = some am_M36 := am_me_of am_t36
def am_M37 : am_Me := (4, ⟨"RookHouse$Table", "rank", "(II)I"⟩, prog_6_method_19_code, 6, (some .int), 2, 0, 624, 623, 6)
set_option maxRecDepth 10000 in
theorem am_t37 : am_mt[37]? = some am_M37 := rfl
theorem am_m37 : am_ms[37]? = some am_M37 := am_me_of am_t37
def am_M38 : am_Me := (4, ⟨"RookHouse$Table", "valueOf", "(II)I"⟩, prog_6_method_17_code, 3, (some .int), 2, 0, 628, 626, 627)
set_option maxRecDepth 10000 in
theorem am_t38 : am_mt[38]? = some am_M38 := rfl
theorem am_m38 : am_ms[38]? = some am_M38 := am_me_of am_t38
def am_M39 : am_Me := (4, ⟨"RookHouse$Table", "hasSeat", "(I)Z"⟩, prog_6_method_23_code, 1, (some .boolean), 1, 1, 631, 630, 0)
set_option maxRecDepth 10000 in
theorem am_t39 : am_mt[39]? = some am_M39 := rfl
theorem am_m39 : am_ms[39]? = some am_M39 := am_me_of am_t39
def am_M40 : am_Me := (8, ⟨"RookHouse", "terms", "(II)I"⟩, prog_1_method_6_code, 4, (some .int), 2, 0, 635, 633, 634)
set_option maxRecDepth 10000 in
theorem am_t40 : am_mt[40]? = some am_M40 := rfl
theorem am_m40 : am_ms[40]? = some am_M40 := am_me_of am_t40
def am_M41 : am_Me := (8, ⟨"RookHouse", "feed", "(IIIII)I"⟩, prog_1_method_7_code, 6, (some .int), 5, 0, 640, 638, 639)
set_option maxRecDepth 10000 in
theorem am_t41 : am_mt[41]? = some am_M41 := rfl
theorem am_m41 : am_ms[41]? = some am_M41 := am_me_of am_t41
def am_M42 : am_Me := (5, ⟨"RookHouse$Tape", "add", "(I)V"⟩, prog_7_method_2_code, 3, none, 1, 0, 644, 642, 643)
set_option maxRecDepth 10000 in
theorem am_t42 : am_mt[42]? = some am_M42 := rfl
theorem am_m42 : am_ms[42]? = some am_M42 := am_me_of am_t42
def am_M43 : am_Me := (8, ⟨"RookHouse", "end", "(I)I"⟩, prog_1_method_8_code, 2, (some .int), 1, 0, 648, 646, 647)
set_option maxRecDepth 10000 in
theorem am_t43 : am_mt[43]? = some am_M43 := rfl
theorem am_m43 : am_ms[43]? = some am_M43 := am_me_of am_t43
def am_M44 : am_Me := (8, ⟨"RookHouse", "row", "()I"⟩, prog_1_method_9_code, 4, (some .int), 0, 0, 652, 650, 651)
set_option maxRecDepth 10000 in
theorem am_t44 : am_mt[44]? = some am_M44 := rfl
theorem am_m44 : am_ms[44]? = some am_M44 := am_me_of am_t44
def am_M45 : am_Me := (8, ⟨"RookHouse", "memberFromTape", "(I)Z"⟩, prog_1_method_53_code, 6, (some .boolean), 1, 0, 656, 655, 7)
set_option maxRecDepth 10000 in
theorem am_t45 : am_mt[45]? = some am_M45 := rfl
theorem am_m45 : am_ms[45]? = some am_M45 := am_me_of am_t45
def am_M46 : am_Me := (8, ⟨"RookHouse", "isWant", "(I)Z"⟩, prog_1_method_48_code, 1, (some .boolean), 1, 1, 659, 658, 0)
set_option maxRecDepth 10000 in
theorem am_t46 : am_mt[46]? = some am_M46 := rfl
theorem am_m46 : am_ms[46]? = some am_M46 := am_me_of am_t46
def am_M47 : am_Me := (8, ⟨"RookHouse", "feathers", "()I"⟩, prog_1_method_10_code, 1, (some .int), 0, 0, 663, 661, 662)
set_option maxRecDepth 10000 in
theorem am_t47 : am_mt[47]? = some am_M47 := rfl
theorem am_m47 : am_ms[47]? = some am_M47 := am_me_of am_t47
def am_M48 : am_Me := (8, ⟨"RookHouse", "law", "()I"⟩, prog_1_method_11_code, 2, (some .int), 0, 0, 667, 665, 666)
set_option maxRecDepth 10000 in
theorem am_t48 : am_mt[48]? = some am_M48 := rfl
theorem am_m48 : am_ms[48]? = some am_M48 := am_me_of am_t48
def am_M49 : am_Me := (2, ⟨"RookHouse$Reader", "readText", "(LRookHouse$Tape;Z)Z"⟩, prog_4_method_2_code, 4, (some .boolean), 2, 0, 671, 669, 670)
set_option maxRecDepth 10000 in
theorem am_t49 : am_mt[49]? = some am_M49 := rfl
theorem am_m49 : am_ms[49]? = some am_M49 := am_me_of am_t49
def am_M50 : am_Me := (7, ⟨"RookHouse$Tokens", "scan", "(LRookHouse$Tape;)V"⟩, prog_9_method_2_code, 7, none, 1, 0, 675, 673, 674)
set_option maxRecDepth 10000 in
theorem am_t50 : am_mt[50]? = some am_M50 := rfl
theorem am_m50 : am_ms[50]? = some am_M50 := am_me_of am_t50
def am_M51 : am_Me := (7, ⟨"RookHouse$Tokens", "isLetter", "(I)Z"⟩, prog_9_method_4_code, 1, (some .boolean), 1, 1, 679, 678, 0)
set_option maxRecDepth 10000 in
theorem am_t51 : am_mt[51]? = some am_M51 := rfl
theorem am_m51 : am_ms[51]? = some am_M51 := am_me_of am_t51
def am_M52 : am_Me := (7, ⟨"RookHouse$Tokens", "wordOf", "(LRookHouse$Tape;II)I"⟩, prog_9_method_7_code, 4, (some .int), 3, 1, 682, 681, 0)
set_option maxRecDepth 10000 in
theorem am_t52 : am_mt[52]? = some am_M52 := rfl
theorem am_m52 : am_ms[52]? = some am_M52 := am_me_of am_t52
def am_M53 : am_Me := (7, ⟨"RookHouse$Tokens", "spelling", "(I)Ljava/lang/String;"⟩, prog_9_method_9_code, 1, (some (.object "java/lang/String")), 1, 1, 685, 684, 0)
set_option maxRecDepth 10000 in
theorem am_t53 : am_mt[53]? = some am_M53 := rfl
theorem am_m53 : am_ms[53]? = some am_M53 := am_me_of am_t53
def am_M54 : am_Me := (7, ⟨"RookHouse$Tokens", "isSpelled", "(LRookHouse$Tape;IILjava/lang/String;)Z"⟩, prog_9_method_8_code, 5, (some .boolean), 4, 1, 716, 715, 0)
set_option maxRecDepth 10000 in
theorem am_t54 : am_mt[54]? = some am_M54 := rfl
theorem am_m54 : am_ms[54]? = some am_M54 := am_me_of am_t54
def am_M55 : am_Me := (13, ⟨"java/lang/String", "length", "()I"⟩, prog_14_method_54_code, 1, (some .int), 0, 0, 720, 718, 719)
set_option maxRecDepth 10000 in
theorem am_t55 : am_mt[55]? = some am_M55 := rfl
theorem am_m55 : am_ms[55]? = some am_M55 := am_me_of am_t55
def am_M56 : am_Me := (13, ⟨"java/lang/String", "coder", "()B"⟩, prog_14_method_152_code, 1, (some .byte), 0, 0, 724, 722, 723)
set_option maxRecDepth 10000 in
theorem am_t56 : am_mt[56]? = some am_M56 := rfl
theorem am_m56 : am_ms[56]? = some am_M56 := am_me_of am_t56
def am_M57 : am_Me := (13, ⟨"java/lang/String", "charAt", "(I)C"⟩, prog_14_method_56_code, 2, (some .char), 1, 0, 730, 728, 729)
set_option maxRecDepth 10000 in
theorem am_t57 : am_mt[57]? = some am_M57 := rfl
theorem am_m57 : am_ms[57]? = some am_M57 := am_me_of am_t57
def am_M58 : am_Me := (13, ⟨"java/lang/String", "isLatin1", "()Z"⟩, prog_14_method_154_code, 1, (some .boolean), 0, 0, 734, 732, 733)
set_option maxRecDepth 10000 in
theorem am_t58 : am_mt[58]? = some am_M58 := rfl
theorem am_m58 : am_ms[58]? = some am_M58 := am_me_of am_t58
def am_M59 : am_Me := (14, ⟨"java/lang/StringLatin1", "charAt", "([BI)C"⟩, prog_15_method_2_code, 2, (some .char), 2, 1, 737, 736, 0)
set_option maxRecDepth 10000 in
theorem am_t59 : am_mt[59]? = some am_M59 := rfl
theorem am_m59 : am_ms[59]? = some am_M59 := am_me_of am_t59
def am_M60 : am_Me := (13, ⟨"java/lang/String", "checkIndex", "(II)V"⟩, prog_14_method_155_code, 2, none, 2, 1, 740, 739, 0)
set_option maxRecDepth 10000 in
theorem am_t60 : am_mt[60]? = some am_M60 := rfl
theorem am_m60 : am_ms[60]? = some am_M60 := am_me_of am_t60
def am_M61 : am_Me := (16, ⟨"jdk/internal/util/Preconditions", "checkIndex", "(IILjava/util/function/BiFunction;)I"⟩, prog_18_method_11_code, 3, (some .int), 3, 1, 745, 744, 0)
set_option maxRecDepth 10000 in
theorem am_t61 : am_mt[61]? = some am_M61 := rfl
theorem am_m61 : am_ms[61]? = some am_M61 := am_me_of am_t61
def am_M62 : am_Me := (15, ⟨"java/lang/StringUTF16", "charAt", "([BI)C"⟩, prog_16_method_83_code, 2, (some .char), 2, 1, 748, 747, 0)
set_option maxRecDepth 10000 in
theorem am_t62 : am_mt[62]? = some am_M62 := rfl
theorem am_m62 : am_ms[62]? = some am_M62 := am_me_of am_t62
def am_M63 : am_Me := (15, ⟨"java/lang/StringUTF16", "checkIndex", "(I[B)V"⟩, prog_16_method_91_code, 2, none, 2, 1, 751, 750, 0)
set_option maxRecDepth 10000 in
theorem am_t63 : am_mt[63]? = some am_M63 := rfl
theorem am_m63 : am_ms[63]? = some am_M63 := am_me_of am_t63
def am_M64 : am_Me := (15, ⟨"java/lang/StringUTF16", "length", "([B)I"⟩, prog_16_method_6_code, 1, (some .int), 1, 1, 754, 753, 0)
set_option maxRecDepth 10000 in
theorem am_t64 : am_mt[64]? = some am_M64 := rfl
theorem am_m64 : am_ms[64]? = some am_M64 := am_me_of am_t64
def am_M65 : am_Me := (15, ⟨"java/lang/StringUTF16", "getChar", "([BI)C"⟩, prog_16_method_5_code, 2, (some .char), 2, 1, 758, 757, 0)
set_option maxRecDepth 10000 in
theorem am_t65 : am_mt[65]? = some am_M65 := rfl
theorem am_m65 : am_ms[65]? = some am_M65 := am_me_of am_t65
def am_M66 : am_Me := (7, ⟨"RookHouse$Tokens", "add", "(III)V"⟩, prog_9_method_3_code, 4, none, 3, 0, 768, 767, 8)
set_option maxRecDepth 10000 in
theorem am_t66 : am_mt[66]? = some am_M66 := rfl
theorem am_m66 : am_ms[66]? = some am_M66 := am_me_of am_t66
def am_M67 : am_Me := (7, ⟨"RookHouse$Tokens", "isDigit", "(I)Z"⟩, prog_9_method_5_code, 1, (some .boolean), 1, 1, 771, 770, 0)
set_option maxRecDepth 10000 in
theorem am_t67 : am_mt[67]? = some am_M67 := rfl
theorem am_m67 : am_ms[67]? = some am_M67 := am_me_of am_t67
def am_M68 : am_Me := (7, ⟨"RookHouse$Tokens", "numberOf", "(LRookHouse$Tape;II)I"⟩, prog_9_method_6_code, 5, (some .int), 3, 1, 774, 773, 0)
set_option maxRecDepth 10000 in
theorem am_t68 : am_mt[68]? = some am_M68 := rfl
theorem am_m68 : am_ms[68]? = some am_M68 := am_me_of am_t68
def am_M69 : am_Me := (6, ⟨"RookHouse$Text", "clear", "()V"⟩, prog_8_method_2_code, 2, none, 0, 0, 779, 777, 778)
set_option maxRecDepth 10000 in
theorem am_t69 : am_mt[69]? = some am_M69 := rfl
theorem am_m69 : am_ms[69]? = some am_M69 := am_me_of am_t69
def am_M70 : am_Me := (2, ⟨"RookHouse$Reader", "advance", "()V"⟩, prog_4_method_19_code, 1, none, 0, 0, 783, 782, 9)
set_option maxRecDepth 10000 in
theorem am_t70 : am_mt[70]? = some am_M70 := rfl
theorem am_m70 : am_ms[70]? = some am_M70 := am_me_of am_t70
def am_M71 : am_Me := (2, ⟨"RookHouse$Reader", "readOrder", "(I)Z"⟩, prog_4_method_4_code, 2, (some .boolean), 1, 0, 787, 786, 10)
set_option maxRecDepth 10000 in
theorem am_t71 : am_mt[71]? = some am_M71 := rfl
theorem am_m71 : am_ms[71]? = some am_M71 := am_me_of am_t71
def am_M72 : am_Me := (2, ⟨"RookHouse$Reader", "take", "(I)Z"⟩, prog_4_method_20_code, 2, (some .boolean), 1, 0, 791, 790, 11)
set_option maxRecDepth 10000 in
theorem am_t72 : am_mt[72]? = some am_M72 := rfl
theorem am_m72 : am_ms[72]? = some am_M72 := am_me_of am_t72
def am_M73 : am_Me := (2, ⟨"RookHouse$Reader", "readSumOf", "(III)Z"⟩, prog_4_method_5_code, 5, (some .boolean), 3, 0, 795, 794, 12)
set_option maxRecDepth 10000 in
theorem am_t73 : am_mt[73]? = some am_M73 := rfl
theorem am_m73 : am_ms[73]? = some am_M73 := am_me_of am_t73
def am_M74 : am_Me := (2, ⟨"RookHouse$Reader", "fail", "()Z"⟩, prog_4_method_18_code, 1, (some .boolean), 0, 0, 799, 798, 13)
set_option maxRecDepth 10000 in
theorem am_t74 : am_mt[74]? = some am_M74 := rfl
theorem am_m74 : am_ms[74]? = some am_M74 := am_me_of am_t74
def am_M75 : am_Me := (6, ⟨"RookHouse$Text", "setKind", "(II)V"⟩, prog_8_method_4_code, 3, none, 2, 0, 803, 801, 802)
set_option maxRecDepth 10000 in
theorem am_t75 : am_mt[75]? = some am_M75 := rfl
theorem am_m75 : am_ms[75]? = some am_M75 := am_me_of am_t75
def am_M76 : am_Me := (2, ⟨"RookHouse$Reader", "readSum", "(I)Z"⟩, prog_4_method_12_code, 5, (some .boolean), 1, 0, 807, 806, 14)
set_option maxRecDepth 10000 in
theorem am_t76 : am_mt[76]? = some am_M76 := rfl
theorem am_m76 : am_ms[76]? = some am_M76 := am_me_of am_t76
def am_M77 : am_Me := (2, ⟨"RookHouse$Reader", "readTerm", "(I)Z"⟩, prog_4_method_13_code, 5, (some .boolean), 1, 0, 811, 810, 15)
set_option maxRecDepth 10000 in
theorem am_t77 : am_mt[77]? = some am_M77 := rfl
theorem am_m77 : am_ms[77]? = some am_M77 := am_me_of am_t77
def am_M78 : am_Me := (2, ⟨"RookHouse$Reader", "readPart", "(I)Z"⟩, prog_4_method_14_code, 4, (some .boolean), 1, 0, 815, 814, 16)
set_option maxRecDepth 10000 in
theorem am_t78 : am_mt[78]? = some am_M78 := rfl
theorem am_m78 : am_ms[78]? = some am_M78 := am_me_of am_t78
def am_M79 : am_Me := (2, ⟨"RookHouse$Reader", "numberTo", "(I)I"⟩, prog_4_method_21_code, 2, (some .int), 1, 0, 819, 818, 17)
set_option maxRecDepth 10000 in
theorem am_t79 : am_mt[79]? = some am_M79 := rfl
theorem am_m79 : am_ms[79]? = some am_M79 := am_me_of am_t79
def am_M80 : am_Me := (2, ⟨"RookHouse$Reader", "orderWord", "(I)I"⟩, prog_4_method_17_code, 1, (some .int), 1, 1, 822, 821, 0)
set_option maxRecDepth 10000 in
theorem am_t80 : am_mt[80]? = some am_M80 := rfl
theorem am_m80 : am_ms[80]? = some am_M80 := am_me_of am_t80
def am_M81 : am_Me := (2, ⟨"RookHouse$Reader", "lawWord", "(I)I"⟩, prog_4_method_16_code, 1, (some .int), 1, 1, 825, 824, 0)
set_option maxRecDepth 10000 in
theorem am_t81 : am_mt[81]? = some am_M81 := rfl
theorem am_m81 : am_ms[81]? = some am_M81 := am_me_of am_t81
def am_M82 : am_Me := (2, ⟨"RookHouse$Reader", "readNumbered", "(I)Z"⟩, prog_4_method_15_code, 3, (some .boolean), 1, 0, 829, 828, 18)
set_option maxRecDepth 10000 in
theorem am_t82 : am_mt[82]? = some am_M82 := rfl
theorem am_m82 : am_ms[82]? = some am_M82 := am_me_of am_t82
def am_M83 : am_Me := (6, ⟨"RookHouse$Text", "add", "(II)I"⟩, prog_8_method_5_code, 4, (some .int), 2, 0, 833, 831, 832)
set_option maxRecDepth 10000 in
theorem am_t83 : am_mt[83]? = some am_M83 := rfl
theorem am_m83 : am_ms[83]? = some am_M83 := am_me_of am_t83
def am_M84 : am_Me := (2, ⟨"RookHouse$Reader", "readTimes", "(I)Z"⟩, prog_4_method_6_code, 3, (some .boolean), 1, 0, 837, 836, 19)
set_option maxRecDepth 10000 in
theorem am_t84 : am_mt[84]? = some am_M84 := rfl
theorem am_m84 : am_ms[84]? = some am_M84 := am_me_of am_t84
def am_M85 : am_Me := (2, ⟨"RookHouse$Reader", "readIf", "(I)Z"⟩, prog_4_method_7_code, 3, (some .boolean), 1, 0, 841, 840, 20)
set_option maxRecDepth 10000 in
theorem am_t85 : am_mt[85]? = some am_M85 := rfl
theorem am_m85 : am_ms[85]? = some am_M85 := am_me_of am_t85
def am_M86 : am_Me := (2, ⟨"RookHouse$Reader", "readTest", "(I)Z"⟩, prog_4_method_8_code, 5, (some .boolean), 1, 0, 845, 844, 21)
set_option maxRecDepth 10000 in
theorem am_t86 : am_mt[86]? = some am_M86 := rfl
theorem am_m86 : am_ms[86]? = some am_M86 := am_me_of am_t86
def am_M87 : am_Me := (2, ⟨"RookHouse$Reader", "readBoth", "(I)Z"⟩, prog_4_method_9_code, 5, (some .boolean), 1, 0, 849, 848, 22)
set_option maxRecDepth 10000 in
theorem am_t87 : am_mt[87]? = some am_M87 := rfl
theorem am_m87 : am_ms[87]? = some am_M87 := am_me_of am_t87
def am_M88 : am_Me := (2, ⟨"RookHouse$Reader", "readPlain", "(I)Z"⟩, prog_4_method_10_code, 4, (some .boolean), 1, 0, 853, 852, 23)
set_option maxRecDepth 10000 in
theorem am_t88 : am_mt[88]? = some am_M88 := rfl
theorem am_m88 : am_ms[88]? = some am_M88 := am_me_of am_t88
def am_M89 : am_Me := (2, ⟨"RookHouse$Reader", "readBracket", "(I)Z"⟩, prog_4_method_11_code, 2, (some .boolean), 1, 0, 857, 856, 24)
set_option maxRecDepth 10000 in
theorem am_t89 : am_mt[89]? = some am_M89 := rfl
theorem am_m89 : am_ms[89]? = some am_M89 := am_me_of am_t89
def am_M90 : am_Me := (6, ⟨"RookHouse$Text", "landHere", "(I)V"⟩, prog_8_method_6_code, 2, none, 1, 0, 861, 859, 860)
set_option maxRecDepth 10000 in
theorem am_t90 : am_mt[90]? = some am_M90 := rfl
theorem am_m90 : am_ms[90]? = some am_M90 := am_me_of am_t90
def am_M91 : am_Me := (2, ⟨"RookHouse$Reader", "readLawClause", "(I)Z"⟩, prog_4_method_3_code, 2, (some .boolean), 1, 0, 865, 864, 25)
set_option maxRecDepth 10000 in
theorem am_t91 : am_mt[91]? = some am_M91 := rfl
theorem am_m91 : am_ms[91]? = some am_M91 := am_me_of am_t91
def am_M92 : am_Me := (6, ⟨"RookHouse$Text", "copyFrom", "(LRookHouse$Text;)V"⟩, prog_8_method_3_code, 2, none, 1, 0, 871, 869, 870)
set_option maxRecDepth 10000 in
theorem am_t92 : am_mt[92]? = some am_M92 := rfl
theorem am_m92 : am_ms[92]? = some am_M92 := am_me_of am_t92
def am_M93 : am_Me := (0, ⟨"RookHouse$House", "addLaw", "(LRookHouse$Text;)I"⟩, prog_2_method_6_code, 3, (some .int), 1, 0, 879, 877, 878)
set_option maxRecDepth 10000 in
theorem am_t93 : am_mt[93]? = some am_M93 := rfl
theorem am_m93 : am_ms[93]? = some am_M93 := am_me_of am_t93
def am_M94 : am_Me := (8, ⟨"RookHouse", "orders", "()I"⟩, prog_1_method_12_code, 4, (some .int), 0, 0, 884, 882, 883)
set_option maxRecDepth 10000 in
theorem am_t94 : am_mt[94]? = some am_M94 := rfl
theorem am_m94 : am_ms[94]? = some am_M94 := am_me_of am_t94
def am_M95 : am_Me := (0, ⟨"RookHouse$House", "copyFrom", "(LRookHouse$House;)V"⟩, prog_2_method_2_code, 3, none, 1, 0, 888, 886, 887)
set_option maxRecDepth 10000 in
theorem am_t95 : am_mt[95]? = some am_M95 := rfl
theorem am_m95 : am_ms[95]? = some am_M95 := am_me_of am_t95
def am_M96 : am_Me := (1, ⟨"RookHouse$Past", "copyFrom", "(LRookHouse$Past;)V"⟩, prog_3_method_3_code, 2, none, 1, 0, 893, 891, 892)
set_option maxRecDepth 10000 in
theorem am_t96 : am_mt[96]? = some am_M96 := rfl
theorem am_m96 : am_ms[96]? = some am_M96 := am_me_of am_t96
def am_M97 : am_Me := (8, ⟨"RookHouse", "runOnce", "(LRookHouse$Text;I)Z"⟩, prog_1_method_58_code, 9, (some .boolean), 2, 0, 898, 897, 26)
set_option maxRecDepth 10000 in
theorem am_t97 : am_mt[97]? = some am_M97 := rfl
theorem am_m97 : am_ms[97]? = some am_M97 := am_me_of am_t97
def am_M98 : am_Me := (8, ⟨"RookHouse", "fillOrderWords", "(I)V"⟩, prog_1_method_60_code, 3, none, 1, 0, 902, 901, 27)
set_option maxRecDepth 10000 in
theorem am_t98 : am_mt[98]? = some am_M98 := rfl
theorem am_m98 : am_ms[98]? = some am_M98 := am_me_of am_t98
def am_M99 : am_Me := (8, ⟨"RookHouse", "carryOut", "(IIII)I"⟩, prog_1_method_59_code, 5, (some .int), 4, 0, 908, 907, 28)
set_option maxRecDepth 10000 in
theorem am_t99 : am_mt[99]? = some am_M99 := rfl
theorem am_m99 : am_ms[99]? = some am_M99 := am_me_of am_t99
def am_M100 : am_Me := (8, ⟨"RookHouse", "doPut", "(I)I"⟩, prog_1_method_54_code, 2, (some .int), 1, 0, 912, 911, 29)
set_option maxRecDepth 10000 in
theorem am_t100 : am_mt[100]? = some am_M100 := rfl
theorem am_m100 : am_ms[100]? = some am_M100 := am_me_of am_t100
def am_M101 : am_Me := (1, ⟨"RookHouse$Past", "keep", "(III)V"⟩, prog_3_method_4_code, 5, none, 3, 0, 916, 914, 915)
set_option maxRecDepth 10000 in
theorem am_t101 : am_mt[101]? = some am_M101 := rfl
theorem am_m101 : am_ms[101]? = some am_M101 := am_me_of am_t101
def am_M102 : am_Me := (8, ⟨"RookHouse", "doGo", "(I)I"⟩, prog_1_method_55_code, 2, (some .int), 1, 0, 920, 919, 30)
set_option maxRecDepth 10000 in
theorem am_t102 : am_mt[102]? = some am_M102 := rfl
theorem am_m102 : am_ms[102]? = some am_M102 := am_me_of am_t102
def am_M103 : am_Me := (8, ⟨"RookHouse", "doSway", "(III)I"⟩, prog_1_method_56_code, 6, (some .int), 3, 0, 924, 923, 31)
set_option maxRecDepth 10000 in
theorem am_t103 : am_mt[103]? = some am_M103 := rfl
theorem am_m103 : am_ms[103]? = some am_M103 := am_me_of am_t103
def am_M104 : am_Me := (8, ⟨"RookHouse", "doPass", "()I"⟩, prog_1_method_57_code, 2, (some .int), 0, 0, 928, 927, 32)
set_option maxRecDepth 10000 in
theorem am_t104 : am_mt[104]? = some am_M104 := rfl
theorem am_m104 : am_ms[104]? = some am_M104 := am_me_of am_t104
def am_M105 : am_Me := (0, ⟨"RookHouse$House", "nextDay", "()V"⟩, prog_2_method_9_code, 1, none, 0, 0, 932, 930, 931)
set_option maxRecDepth 10000 in
theorem am_t105 : am_mt[105]? = some am_M105 := rfl
theorem am_m105 : am_ms[105]? = some am_M105 := am_me_of am_t105
def am_M106 : am_Me := (8, ⟨"RookHouse", "fault", "()I"⟩, prog_1_method_13_code, 1, (some .int), 0, 0, 936, 934, 935)
set_option maxRecDepth 10000 in
theorem am_t106 : am_mt[106]? = some am_M106 := rfl
theorem am_m106 : am_ms[106]? = some am_M106 := am_me_of am_t106
def am_M107 : am_Me := (8, ⟨"RookHouse", "stopped", "()I"⟩, prog_1_method_14_code, 1, (some .int), 0, 0, 940, 938, 939)
set_option maxRecDepth 10000 in
theorem am_t107 : am_mt[107]? = some am_M107 := rfl
theorem am_m107 : am_ms[107]? = some am_M107 := am_me_of am_t107
def am_M108 : am_Me := (8, ⟨"RookHouse", "force", "(I)I"⟩, prog_1_method_15_code, 3, (some .int), 1, 0, 944, 942, 943)
set_option maxRecDepth 10000 in
theorem am_t108 : am_mt[108]? = some am_M108 := rfl
theorem am_m108 : am_ms[108]? = some am_M108 := am_me_of am_t108
def am_M109 : am_Me := (0, ⟨"RookHouse$House", "hasLaw", "(I)Z"⟩, prog_2_method_4_code, 2, (some .boolean), 1, 0, 948, 946, 947)
set_option maxRecDepth 10000 in
theorem am_t109 : am_mt[109]? = some am_M109 := rfl
theorem am_m109 : am_ms[109]? = some am_M109 := am_me_of am_t109
def am_M110 : am_Me := (8, ⟨"RookHouse", "put", "(I)I"⟩, prog_1_method_16_code, 2, (some .int), 1, 0, 952, 950, 951)
set_option maxRecDepth 10000 in
theorem am_t110 : am_mt[110]? = some am_M110 := rfl
theorem am_m110 : am_ms[110]? = some am_M110 := am_me_of am_t110
def am_M111 : am_Me := (8, ⟨"RookHouse", "answered", "(I)I"⟩, prog_1_method_45_code, 2, (some .int), 1, 0, 956, 955, 33)
set_option maxRecDepth 10000 in
theorem am_t111 : am_mt[111]? = some am_M111 := rfl
theorem am_m111 : am_ms[111]? = some am_M111 := am_me_of am_t111
def am_M112 : am_Me := (8, ⟨"RookHouse", "go", "(I)I"⟩, prog_1_method_17_code, 2, (some .int), 1, 0, 960, 958, 959)
set_option maxRecDepth 10000 in
theorem am_t112 : am_mt[112]? = some am_M112 := rfl
theorem am_m112 : am_ms[112]? = some am_M112 := am_me_of am_t112
def am_M113 : am_Me := (8, ⟨"RookHouse", "sway", "(III)I"⟩, prog_1_method_18_code, 4, (some .int), 3, 0, 964, 962, 963)
set_option maxRecDepth 10000 in
theorem am_t113 : am_mt[113]? = some am_M113 := rfl
theorem am_m113 : am_ms[113]? = some am_M113 := am_me_of am_t113
def am_M114 : am_Me := (8, ⟨"RookHouse", "pass", "()I"⟩, prog_1_method_19_code, 1, (some .int), 0, 0, 968, 966, 967)
set_option maxRecDepth 10000 in
theorem am_t114 : am_mt[114]? = some am_M114 := rfl
theorem am_m114 : am_ms[114]? = some am_M114 := am_me_of am_t114
def am_M115 : am_Me := (8, ⟨"RookHouse", "undo", "()I"⟩, prog_1_method_20_code, 1, (some .int), 0, 0, 972, 970, 971)
set_option maxRecDepth 10000 in
theorem am_t115 : am_mt[115]? = some am_M115 := rfl
theorem am_m115 : am_ms[115]? = some am_M115 := am_me_of am_t115
def am_M116 : am_Me := (1, ⟨"RookHouse$Past", "takeBack", "(LRookHouse$House;)I"⟩, prog_3_method_5_code, 5, (some .int), 1, 0, 976, 974, 975)
set_option maxRecDepth 10000 in
theorem am_t116 : am_mt[116]? = some am_M116 := rfl
theorem am_m116 : am_ms[116]? = some am_M116 := am_me_of am_t116
def am_M117 : am_Me := (8, ⟨"RookHouse", "votes", "(II)I"⟩, prog_1_method_21_code, 3, (some .int), 2, 0, 980, 978, 979)
set_option maxRecDepth 10000 in
theorem am_t117 : am_mt[117]? = some am_M117 := rfl
theorem am_m117 : am_ms[117]? = some am_M117 := am_me_of am_t117
def am_M118 : am_Me := (8, ⟨"RookHouse", "areTwoBills", "(II)Z"⟩, prog_1_method_47_code, 2, (some .boolean), 2, 1, 983, 982, 0)
set_option maxRecDepth 10000 in
theorem am_t118 : am_mt[118]? = some am_M118 := rfl
theorem am_m118 : am_ms[118]? = some am_M118 := am_me_of am_t118
def am_M119 : am_Me := (4, ⟨"RookHouse$Table", "votesAgainst", "(II)I"⟩, prog_6_method_11_code, 5, (some .int), 2, 0, 987, 985, 986)
set_option maxRecDepth 10000 in
theorem am_t119 : am_mt[119]? = some am_M119 := rfl
theorem am_m119 : am_ms[119]? = some am_M119 := am_me_of am_t119
def am_M120 : am_Me := (4, ⟨"RookHouse$Table", "prefers", "(III)Z"⟩, prog_6_method_10_code, 5, (some .boolean), 3, 0, 991, 989, 990)
set_option maxRecDepth 10000 in
theorem am_t120 : am_mt[120]? = some am_M120 := rfl
theorem am_m120 : am_ms[120]? = some am_M120 := am_me_of am_t120
def am_M121 : am_Me := (8, ⟨"RookHouse", "best", "()I"⟩, prog_1_method_22_code, 2, (some .int), 0, 0, 995, 993, 994)
set_option maxRecDepth 10000 in
theorem am_t121 : am_mt[121]? = some am_M121 := rfl
theorem am_m121 : am_ms[121]? = some am_M121 := am_me_of am_t121
def am_M122 : am_Me := (4, ⟨"RookHouse$Table", "fillBeaten", "()V"⟩, prog_6_method_12_code, 5, none, 0, 0, 999, 997, 998)
set_option maxRecDepth 10000 in
theorem am_t122 : am_mt[122]? = some am_M122 := rfl
theorem am_m122 : am_ms[122]? = some am_M122 := am_me_of am_t122
def am_M123 : am_Me := (8, ⟨"RookHouse", "rings", "()I"⟩, prog_1_method_23_code, 5, (some .int), 0, 0, 1004, 1002, 1003)
set_option maxRecDepth 10000 in
theorem am_t123 : am_mt[123]? = some am_M123 := rfl
theorem am_m123 : am_ms[123]? = some am_M123 := am_me_of am_t123
def am_M124 : am_Me := (4, ⟨"RookHouse$Table", "isRing", "(III)Z"⟩, prog_6_method_13_code, 4, (some .boolean), 3, 0, 1008, 1006, 1007)
set_option maxRecDepth 10000 in
theorem am_t124 : am_mt[124]? = some am_M124 := rfl
theorem am_m124 : am_ms[124]? = some am_M124 := am_me_of am_t124
def am_M125 : am_Me := (4, ⟨"RookHouse$Table", "doesBeat", "(II)Z"⟩, prog_6_method_14_code, 3, (some .boolean), 2, 0, 1012, 1011, 34)
set_option maxRecDepth 10000 in
theorem am_t125 : am_mt[125]? = some am_M125 := rfl
theorem am_m125 : am_ms[125]? = some am_M125 := am_me_of am_t125
def am_M126 : am_Me := (8, ⟨"RookHouse", "agenda", "(II)I"⟩, prog_1_method_24_code, 5, (some .int), 2, 0, 1016, 1014, 1015)
set_option maxRecDepth 10000 in
theorem am_t126 : am_mt[126]? = some am_M126 := rfl
theorem am_m126 : am_ms[126]? = some am_M126 := am_me_of am_t126
def am_M127 : am_Me := (8, ⟨"RookHouse", "firstOrder", "([I)V"⟩, prog_1_method_66_code, 2, none, 1, 1, 1019, 1018, 0)
set_option maxRecDepth 10000 in
theorem am_t127 : am_mt[127]? = some am_M127 := rfl
theorem am_m127 : am_ms[127]? = some am_M127 := am_me_of am_t127
def am_M128 : am_Me := (4, ⟨"RookHouse$Table", "winner", "([I)I"⟩, prog_6_method_15_code, 4, (some .int), 1, 0, 1023, 1021, 1022)
set_option maxRecDepth 10000 in
theorem am_t128 : am_mt[128]? = some am_M128 := rfl
theorem am_m128 : am_ms[128]? = some am_M128 := am_me_of am_t128
def am_M129 : am_Me := (8, ⟨"RookHouse", "nextOrder", "([I)V"⟩, prog_1_method_67_code, 5, none, 1, 1, 1026, 1025, 0)
set_option maxRecDepth 10000 in
theorem am_t129 : am_mt[129]? = some am_M129 := rfl
theorem am_m129 : am_ms[129]? = some am_M129 := am_me_of am_t129
def am_M130 : am_Me := (8, ⟨"RookHouse", "swap", "([III)V"⟩, prog_1_method_68_code, 4, none, 3, 1, 1029, 1028, 0)
set_option maxRecDepth 10000 in
theorem am_t130 : am_mt[130]? = some am_M130 := rfl
theorem am_m130 : am_ms[130]? = some am_M130 := am_me_of am_t130
def am_M131 : am_Me := (8, ⟨"RookHouse", "power", "(II)I"⟩, prog_1_method_25_code, 3, (some .int), 2, 0, 1033, 1031, 1032)
set_option maxRecDepth 10000 in
theorem am_t131 : am_mt[131]? = some am_M131 := rfl
theorem am_m131 : am_ms[131]? = some am_M131 := am_me_of am_t131
def am_M132 : am_Me := (8, ⟨"RookHouse", "swings", "(IIZ)I"⟩, prog_1_method_61_code, 12, (some .int), 3, 0, 1037, 1036, 35)
set_option maxRecDepth 10000 in
theorem am_t132 : am_mt[132]? = some am_M132 := rfl
theorem am_m132 : am_ms[132]? = some am_M132 := am_me_of am_t132
def am_M133 : am_Me := (8, ⟨"RookHouse", "ordersAround", "(II)I"⟩, prog_1_method_62_code, 3, (some .int), 2, 1, 1040, 1039, 0)
set_option maxRecDepth 10000 in
theorem am_t133 : am_mt[133]? = some am_M133 := rfl
theorem am_m133 : am_ms[133]? = some am_M133 := am_me_of am_t133
def am_M134 : am_Me := (8, ⟨"RookHouse", "pivot", "(II)I"⟩, prog_1_method_26_code, 3, (some .int), 2, 0, 1046, 1044, 1045)
set_option maxRecDepth 10000 in
theorem am_t134 : am_mt[134]? = some am_M134 := rfl
theorem am_m134 : am_ms[134]? = some am_M134 := am_me_of am_t134
def am_M135 : am_Me := (8, ⟨"RookHouse", "enough", "(II)I"⟩, prog_1_method_27_code, 3, (some .int), 2, 0, 1050, 1048, 1049)
set_option maxRecDepth 10000 in
theorem am_t135 : am_mt[135]? = some am_M135 := rfl
theorem am_m135 : am_ms[135]? = some am_M135 := am_me_of am_t135
def am_M136 : am_Me := (8, ⟨"RookHouse", "fewest", "(IIZ)I"⟩, prog_1_method_63_code, 9, (some .int), 3, 0, 1054, 1053, 36)
set_option maxRecDepth 10000 in
theorem am_t136 : am_mt[136]? = some am_M136 := rfl
theorem am_m136 : am_ms[136]? = some am_M136 := am_me_of am_t136
def am_M137 : am_Me := (8, ⟨"RookHouse", "isAnswer", "(IIZ)Z"⟩, prog_1_method_64_code, 6, (some .boolean), 3, 0, 1058, 1057, 37)
set_option maxRecDepth 10000 in
theorem am_t137 : am_mt[137]? = some am_M137 := rfl
theorem am_m137 : am_ms[137]? = some am_M137 := am_me_of am_t137
def am_M138 : am_Me := (8, ⟨"RookHouse", "out", "(II)I"⟩, prog_1_method_28_code, 3, (some .int), 2, 0, 1062, 1060, 1061)
set_option maxRecDepth 10000 in
theorem am_t138 : am_mt[138]? = some am_M138 := rfl
theorem am_m138 : am_ms[138]? = some am_M138 := am_me_of am_t138
def am_M139 : am_Me := (8, ⟨"RookHouse", "first", "()I"⟩, prog_1_method_29_code, 1, (some .int), 0, 0, 1066, 1064, 1065)
set_option maxRecDepth 10000 in
theorem am_t139 : am_mt[139]? = some am_M139 := rfl
theorem am_m139 : am_ms[139]? = some am_M139 := am_me_of am_t139
def am_M140 : am_Me := (4, ⟨"RookHouse$Table", "leader", "()I"⟩, prog_6_method_20_code, 2, (some .int), 0, 0, 1070, 1068, 1069)
set_option maxRecDepth 10000 in
theorem am_t140 : am_mt[140]? = some am_M140 := rfl
theorem am_m140 : am_ms[140]? = some am_M140 := am_me_of am_t140
def am_M141 : am_Me := (4, ⟨"RookHouse$Table", "mostOf", "([I)I"⟩, prog_6_method_24_code, 4, (some .int), 1, 1, 1074, 1073, 0)
set_option maxRecDepth 10000 in
theorem am_t141 : am_mt[141]? = some am_M141 := rfl
theorem am_m141 : am_ms[141]? = some am_M141 := am_me_of am_t141
def am_M142 : am_Me := (8, ⟨"RookHouse", "falsely", "(II)I"⟩, prog_1_method_30_code, 6, (some .int), 2, 0, 1078, 1076, 1077)
set_option maxRecDepth 10000 in
theorem am_t142 : am_mt[142]? = some am_M142 := rfl
theorem am_m142 : am_ms[142]? = some am_M142 := am_me_of am_t142
def am_M143 : am_Me := (4, ⟨"RookHouse$Table", "fillWithout", "(I)V"⟩, prog_6_method_21_code, 3, none, 1, 0, 1083, 1081, 1082)
set_option maxRecDepth 10000 in
theorem am_t143 : am_mt[143]? = some am_M143 := rfl
theorem am_m143 : am_ms[143]? = some am_M143 := am_me_of am_t143
def am_M144 : am_Me := (4, ⟨"RookHouse$Table", "leaderIfTold", "([I)I"⟩, prog_6_method_22_code, 4, (some .int), 1, 0, 1087, 1085, 1086)
set_option maxRecDepth 10000 in
theorem am_t144 : am_mt[144]? = some am_M144 := rfl
theorem am_m144 : am_ms[144]? = some am_M144 := am_me_of am_t144
def am_M145 : am_Me := (8, ⟨"RookHouse", "seen", "(II)I"⟩, prog_1_method_31_code, 3, (some .int), 2, 0, 1091, 1089, 1090)
set_option maxRecDepth 10000 in
theorem am_t145 : am_mt[145]? = some am_M145 := rfl
theorem am_m145 : am_ms[145]? = some am_M145 := am_me_of am_t145
def am_M146 : am_Me := (8, ⟨"RookHouse", "forget", "()I"⟩, prog_1_method_32_code, 2, (some .int), 0, 0, 1095, 1093, 1094)
set_option maxRecDepth 10000 in
theorem am_t146 : am_mt[146]? = some am_M146 := rfl
theorem am_m146 : am_ms[146]? = some am_M146 := am_me_of am_t146
def am_M147 : am_Me := (8, ⟨"RookHouse", "canBe", "()I"⟩, prog_1_method_33_code, 1, (some .int), 0, 0, 1099, 1097, 1098)
set_option maxRecDepth 10000 in
theorem am_t147 : am_mt[147]? = some am_M147 := rfl
theorem am_m147 : am_ms[147]? = some am_M147 := am_me_of am_t147
def am_M148 : am_Me := (8, ⟨"RookHouse", "suspects", "()I"⟩, prog_1_method_65_code, 5, (some .int), 0, 0, 1103, 1102, 38)
set_option maxRecDepth 10000 in
theorem am_t148 : am_mt[148]? = some am_M148 := rfl
theorem am_m148 : am_ms[148]? = some am_M148 := am_me_of am_t148
def am_M149 : am_Me := (8, ⟨"RookHouse", "ask", "(I)I"⟩, prog_1_method_34_code, 9, (some .int), 1, 0, 1108, 1106, 1107)
set_option maxRecDepth 10000 in
theorem am_t149 : am_mt[149]? = some am_M149 := rfl
theorem am_m149 : am_ms[149]? = some am_M149 := am_me_of am_t149
def am_M150 : am_Me := (4, ⟨"RookHouse$Table", "mostAlike", "(III)I"⟩, prog_6_method_16_code, 7, (some .int), 3, 0, 1112, 1110, 1111)
set_option maxRecDepth 10000 in
theorem am_t150 : am_mt[150]? = some am_M150 := rfl
theorem am_m150 : am_ms[150]? = some am_M150 := am_me_of am_t150
def am_M151 : am_Me := (8, ⟨"RookHouse", "few", "(II)J"⟩, prog_1_method_35_code, 8, (some .long), 2, 0, 1116, 1114, 1115)
set_option maxRecDepth 10000 in
theorem am_t151 : am_mt[151]? = some am_M151 := rfl
theorem am_m151 : am_ms[151]? = some am_M151 := am_me_of am_t151
def am_M152 : am_Me := (8, ⟨"RookHouse", "compare", "(I)I"⟩, prog_1_method_36_code, 2, (some .int), 1, 0, 1123, 1121, 1122)
set_option maxRecDepth 10000 in
theorem am_t152 : am_mt[152]? = some am_M152 := rfl
theorem am_m152 : am_ms[152]? = some am_M152 := am_me_of am_t152
def am_M153 : am_Me := (8, ⟨"RookHouse", "sessions", "(II)I"⟩, prog_1_method_37_code, 4, (some .int), 2, 0, 1127, 1125, 1126)
set_option maxRecDepth 10000 in
theorem am_t153 : am_mt[153]? = some am_M153 := rfl
theorem am_m153 : am_ms[153]? = some am_M153 := am_me_of am_t153
def am_M154 : am_Me := (8, ⟨"RookHouse", "holdSession", "()V"⟩, prog_1_method_69_code, 5, none, 0, 0, 1132, 1131, 39)
set_option maxRecDepth 10000 in
theorem am_t154 : am_mt[154]? = some am_M154 := rfl
theorem am_m154 : am_ms[154]? = some am_M154 := am_me_of am_t154
def am_M155 : am_Me := (8, ⟨"RookHouse", "draw", "(I)I"⟩, prog_1_method_70_code, 2, (some .int), 1, 0, 1136, 1135, 40)
set_option maxRecDepth 10000 in
theorem am_t155 : am_mt[155]? = some am_M155 := rfl
theorem am_m155 : am_ms[155]? = some am_M155 := am_me_of am_t155
def am_M156 : am_Me := (0, ⟨"RookHouse$House", "setWant", "(III)V"⟩, prog_2_method_8_code, 4, none, 3, 0, 1143, 1141, 1142)
set_option maxRecDepth 10000 in
theorem am_t156 : am_mt[156]? = some am_M156 := rfl
theorem am_m156 : am_ms[156]? = some am_M156 := am_me_of am_t156
def am_M157 : am_Me := (8, ⟨"RookHouse", "drawn", "(II)I"⟩, prog_1_method_38_code, 3, (some .int), 2, 0, 1149, 1147, 1148)
set_option maxRecDepth 10000 in
theorem am_t157 : am_mt[157]? = some am_M157 := rfl
theorem am_m157 : am_ms[157]? = some am_M157 := am_me_of am_t157
def am_M158 : am_Me := (8, ⟨"RookHouse", "image", "(I)I"⟩, prog_1_method_39_code, 3, (some .int), 1, 0, 1153, 1151, 1152)
set_option maxRecDepth 10000 in
theorem am_t158 : am_mt[158]? = some am_M158 := rfl
theorem am_m158 : am_ms[158]? = some am_M158 := am_me_of am_t158
def am_M159 : am_Me := (8, ⟨"RookHouse", "back", "(I)I"⟩, prog_1_method_40_code, 3, (some .int), 1, 0, 1157, 1155, 1156)
set_option maxRecDepth 10000 in
theorem am_t159 : am_mt[159]? = some am_M159 := rfl
theorem am_m159 : am_ms[159]? = some am_M159 := am_me_of am_t159
def am_M160 : am_Me := (8, ⟨"RookHouse", "count", "(I)I"⟩, prog_1_method_41_code, 2, (some .int), 1, 0, 1161, 1159, 1160)
set_option maxRecDepth 10000 in
theorem am_t160 : am_mt[160]? = some am_M160 := rfl
theorem am_m160 : am_ms[160]? = some am_M160 := am_me_of am_t160
def am_M161 : am_Me := (8, ⟨"RookHouse", "status", "()I"⟩, prog_1_method_42_code, 1, (some .int), 0, 0, 1165, 1163, 1164)
set_option maxRecDepth 10000 in
theorem am_t161 : am_mt[161]? = some am_M161 := rfl
theorem am_m161 : am_ms[161]? = some am_M161 := am_me_of am_t161
def am_M162 : am_Me := (9, ⟨"RookHouseModel", "<init>", "()V"⟩, prog_11_method_10_code, 1, none, 0, 2, 1170, 1169, 0)
set_option maxRecDepth 10000 in
theorem am_t162 : am_mt[162]? = some am_M162 := rfl
theorem am_m162 : am_ms[162]? = some am_M162 := am_me_of am_t162
def am_M163 : am_Me := (9, ⟨"RookHouseModel", "image", "(I)I"⟩, prog_11_method_13_code, 3, (some .int), 1, 0, 1327, 1325, 1326)
set_option maxRecDepth 10000 in
theorem am_t163 : am_mt[163]? = some am_M163 := rfl
theorem am_m163 : am_ms[163]? = some am_M163 := am_me_of am_t163
def am_M164 : am_Me := (9, ⟨"RookHouseModel", "lies", "(III)Z"⟩, prog_11_method_1_code, 3, (some .boolean), 3, 1, 1330, 1329, 0)
set_option maxRecDepth 10000 in
theorem am_t164 : am_mt[164]? = some am_M164 := rfl
theorem am_m164 : am_ms[164]? = some am_M164 := am_me_of am_t164
def am_M165 : am_Me := (9, ⟨"RookHouseModel", "refuses", "(I)I"⟩, prog_11_method_3_code, 2, (some .int), 1, 0, 1334, 1333, 41)
set_option maxRecDepth 10000 in
theorem am_t165 : am_mt[165]? = some am_M165 := rfl
theorem am_m165 : am_ms[165]? = some am_M165 := am_me_of am_t165
def am_M166 : am_Me := (9, ⟨"RookHouseModel", "good", "(I)I"⟩, prog_11_method_4_code, 2, (some .int), 1, 0, 1338, 1337, 42)
set_option maxRecDepth 10000 in
theorem am_t166 : am_mt[166]? = some am_M166 := rfl
theorem am_m166 : am_ms[166]? = some am_M166 := am_me_of am_t166
def am_M167 : am_Me := (9, ⟨"RookHouseModel", "back", "(I)I"⟩, prog_11_method_14_code, 3, (some .int), 1, 0, 1342, 1340, 1341)
set_option maxRecDepth 10000 in
theorem am_t167 : am_mt[167]? = some am_M167 := rfl
theorem am_m167 : am_ms[167]? = some am_M167 := am_me_of am_t167
def am_M168 : am_Me := (9, ⟨"RookHouseModel", "settled", "(I)I"⟩, prog_11_method_5_code, 2, (some .int), 1, 0, 1346, 1345, 43)
set_option maxRecDepth 10000 in
theorem am_t168 : am_mt[168]? = some am_M168 := rfl
theorem am_m168 : am_ms[168]? = some am_M168 := am_me_of am_t168
def am_M169 : am_Me := (9, ⟨"RookHouseModel", "member", "(II)I"⟩, prog_11_method_21_code, 3, (some .int), 2, 0, 1350, 1348, 1349)
set_option maxRecDepth 10000 in
theorem am_t169 : am_mt[169]? = some am_M169 := rfl
theorem am_m169 : am_ms[169]? = some am_M169 := am_me_of am_t169
def am_M170 : am_Me := (9, ⟨"RookHouseModel", "canMember", "(II)Z"⟩, prog_11_method_19_code, 2, (some .boolean), 2, 1, 1353, 1352, 0)
set_option maxRecDepth 10000 in
theorem am_t170 : am_mt[170]? = some am_M170 := rfl
theorem am_m170 : am_ms[170]? = some am_M170 := am_me_of am_t170
def am_M171 : am_Me := (9, ⟨"RookHouseModel", "memberMany", "()I"⟩, prog_11_method_15_code, 1, (some .int), 0, 0, 1357, 1356, 44)
set_option maxRecDepth 10000 in
theorem am_t171 : am_mt[171]? = some am_M171 := rfl
theorem am_m171 : am_ms[171]? = some am_M171 := am_me_of am_t171
def am_M172 : am_Me := (9, ⟨"RookHouseModel", "adds", "(II)I"⟩, prog_11_method_20_code, 5, (some .int), 2, 0, 1361, 1360, 45)
set_option maxRecDepth 10000 in
theorem am_t172 : am_mt[172]? = some am_M172 := rfl
theorem am_m172 : am_ms[172]? = some am_M172 := am_me_of am_t172
def am_M173 : am_Me := (9, ⟨"RookHouseModel", "of", "(II)I"⟩, prog_11_method_22_code, 3, (some .int), 2, 0, 1365, 1363, 1364)
set_option maxRecDepth 10000 in
theorem am_t173 : am_mt[173]? = some am_M173 := rfl
theorem am_m173 : am_ms[173]? = some am_M173 := am_me_of am_t173
def am_M174 : am_Me := (9, ⟨"RookHouseModel", "isMember", "(I)Z"⟩, prog_11_method_16_code, 2, (some .boolean), 1, 0, 1369, 1368, 46)
set_option maxRecDepth 10000 in
theorem am_t174 : am_mt[174]? = some am_M174 := rfl
theorem am_m174 : am_ms[174]? = some am_M174 := am_me_of am_t174
def am_M175 : am_Me := (9, ⟨"RookHouseModel", "wantAt", "(II)I"⟩, prog_11_method_17_code, 3, (some .int), 2, 0, 1373, 1372, 47)
set_option maxRecDepth 10000 in
theorem am_t175 : am_mt[175]? = some am_M175 := rfl
theorem am_m175 : am_ms[175]? = some am_M175 := am_me_of am_t175
def am_M176 : am_Me := (9, ⟨"RookHouseModel", "asks", "(III)I"⟩, prog_11_method_23_code, 4, (some .int), 3, 0, 1377, 1375, 1376)
set_option maxRecDepth 10000 in
theorem am_t176 : am_mt[176]? = some am_M176 := rfl
theorem am_m176 : am_ms[176]? = some am_M176 := am_me_of am_t176
def am_M177 : am_Me := (9, ⟨"RookHouseModel", "isBill", "(I)Z"⟩, prog_11_method_8_code, 1, (some .boolean), 1, 1, 1380, 1379, 0)
set_option maxRecDepth 10000 in
theorem am_t177 : am_mt[177]? = some am_M177 := rfl
theorem am_m177 : am_ms[177]? = some am_M177 := am_me_of am_t177
def am_M178 : am_Me := (9, ⟨"RookHouseModel", "laysTold", "()V"⟩, prog_11_method_75_code, 3, none, 0, 0, 1384, 1383, 48)
set_option maxRecDepth 10000 in
theorem am_t178 : am_mt[178]? = some am_M178 := rfl
theorem am_m178 : am_ms[178]? = some am_M178 := am_me_of am_t178
def am_M179 : am_Me := (9, ⟨"RookHouseModel", "tells", "(IIII)I"⟩, prog_11_method_74_code, 12, (some .int), 4, 0, 1388, 1387, 49)
set_option maxRecDepth 10000 in
theorem am_t179 : am_mt[179]? = some am_M179 := rfl
theorem am_m179 : am_ms[179]? = some am_M179 := am_me_of am_t179
def am_M180 : am_Me := (9, ⟨"RookHouseModel", "setsAsked", "(II)V"⟩, prog_11_method_73_code, 3, none, 2, 0, 1392, 1391, 50)
set_option maxRecDepth 10000 in
theorem am_t180 : am_mt[180]? = some am_M180 := rfl
theorem am_m180 : am_ms[180]? = some am_M180 := am_me_of am_t180
def am_M181 : am_Me := (9, ⟨"RookHouseModel", "isStanding", "(I)Z"⟩, prog_11_method_18_code, 2, (some .boolean), 1, 0, 1396, 1395, 51)
set_option maxRecDepth 10000 in
theorem am_t181 : am_mt[181]? = some am_M181 := rfl
theorem am_m181 : am_ms[181]? = some am_M181 := am_me_of am_t181
def am_M182 : am_Me := (9, ⟨"RookHouseModel", "isIn", "(II)Z"⟩, prog_11_method_6_code, 2, (some .boolean), 2, 1, 1399, 1398, 0)
set_option maxRecDepth 10000 in
theorem am_t182 : am_mt[182]? = some am_M182 := rfl
theorem am_m182 : am_ms[182]? = some am_M182 := am_me_of am_t182
def am_M183 : am_Me := (9, ⟨"RookHouseModel", "hereMany", "()I"⟩, prog_11_method_67_code, 3, (some .int), 0, 0, 1403, 1402, 52)
set_option maxRecDepth 10000 in
theorem am_t183 : am_mt[183]? = some am_M183 := rfl
theorem am_m183 : am_ms[183]? = some am_M183 := am_me_of am_t183
def am_M184 : am_Me := (9, ⟨"RookHouseModel", "codeAt", "(I)I"⟩, prog_11_method_61_code, 2, (some .int), 1, 0, 1407, 1406, 53)
set_option maxRecDepth 10000 in
theorem am_t184 : am_mt[184]? = some am_M184 := rfl
theorem am_m184 : am_ms[184]? = some am_M184 := am_me_of am_t184
def am_M185 : am_Me := (9, ⟨"RookHouseModel", "sumOf", "(Z)J"⟩, prog_11_method_64_code, 7, (some .long), 1, 0, 1411, 1410, 54)
set_option maxRecDepth 10000 in
theorem am_t185 : am_mt[185]? = some am_M185 := rfl
theorem am_m185 : am_ms[185]? = some am_M185 := am_me_of am_t185
def am_M186 : am_Me := (9, ⟨"RookHouseModel", "termOf", "(Z)J"⟩, prog_11_method_65_code, 7, (some .long), 1, 0, 1415, 1414, 55)
set_option maxRecDepth 10000 in
theorem am_t186 : am_mt[186]? = some am_M186 := rfl
theorem am_m186 : am_ms[186]? = some am_M186 := am_me_of am_t186
def am_M187 : am_Me := (9, ⟨"RookHouseModel", "partOf", "(Z)J"⟩, prog_11_method_66_code, 4, (some .long), 1, 0, 1419, 1418, 56)
set_option maxRecDepth 10000 in
theorem am_t187 : am_mt[187]? = some am_M187 := rfl
theorem am_m187 : am_ms[187]? = some am_M187 := am_me_of am_t187
def am_M188 : am_Me := (9, ⟨"RookHouseModel", "sign", "(C)I"⟩, prog_11_method_42_code, 1, (some .int), 1, 1, 1422, 1421, 0)
set_option maxRecDepth 10000 in
theorem am_t188 : am_mt[188]? = some am_M188 := rfl
theorem am_m188 : am_ms[188]? = some am_M188 := am_me_of am_t188
def am_M189 : am_Me := (9, ⟨"RookHouseModel", "passes0", "(I)Z"⟩, prog_11_method_62_code, 3, (some .boolean), 1, 0, 1426, 1425, 57)
set_option maxRecDepth 10000 in
theorem am_t189 : am_mt[189]? = some am_M189 := rfl
theorem am_m189 : am_ms[189]? = some am_M189 := am_me_of am_t189
def am_M190 : am_Me := (9, ⟨"RookHouseModel", "orderValue", "(II)I"⟩, prog_11_method_68_code, 3, (some .int), 2, 0, 1430, 1429, 58)
set_option maxRecDepth 10000 in
theorem am_t190 : am_mt[190]? = some am_M190 := rfl
theorem am_m190 : am_ms[190]? = some am_M190 := am_me_of am_t190
def am_M191 : am_Me := (9, ⟨"RookHouseModel", "ones", "(I)I"⟩, prog_11_method_7_code, 3, (some .int), 1, 1, 1433, 1432, 0)
set_option maxRecDepth 10000 in
theorem am_t191 : am_mt[191]? = some am_M191 := rfl
theorem am_m191 : am_ms[191]? = some am_M191 := am_me_of am_t191
def am_M192 : am_Me := (9, ⟨"RookHouseModel", "bounded", "(JZ)J"⟩, prog_11_method_63_code, 4, (some .long), 2, 0, 1437, 1436, 59)
set_option maxRecDepth 10000 in
theorem am_t192 : am_mt[192]? = some am_M192 := rfl
theorem am_m192 : am_ms[192]? = some am_M192 := am_me_of am_t192
def am_M193 : am_Me := (9, ⟨"RookHouseModel", "testOf", "(Z)Z"⟩, prog_11_method_69_code, 4, (some .boolean), 1, 0, 1443, 1442, 60)
set_option maxRecDepth 10000 in
theorem am_t193 : am_mt[193]? = some am_M193 := rfl
theorem am_m193 : am_ms[193]? = some am_M193 := am_me_of am_t193
def am_M194 : am_Me := (9, ⟨"RookHouseModel", "bothOf", "(Z)Z"⟩, prog_11_method_70_code, 4, (some .boolean), 1, 0, 1447, 1446, 61)
set_option maxRecDepth 10000 in
theorem am_t194 : am_mt[194]? = some am_M194 := rfl
theorem am_m194 : am_ms[194]? = some am_M194 := am_me_of am_t194
def am_M195 : am_Me := (9, ⟨"RookHouseModel", "plainOf", "(Z)Z"⟩, prog_11_method_71_code, 3, (some .boolean), 1, 0, 1451, 1450, 62)
set_option maxRecDepth 10000 in
theorem am_t195 : am_mt[195]? = some am_M195 := rfl
theorem am_m195 : am_ms[195]? = some am_M195 := am_me_of am_t195
def am_M196 : am_Me := (9, ⟨"RookHouseModel", "positiveOf", "(Z)Z"⟩, prog_11_method_72_code, 7, (some .boolean), 1, 0, 1455, 1454, 63)
set_option maxRecDepth 10000 in
theorem am_t196 : am_mt[196]? = some am_M196 := rfl
theorem am_m196 : am_ms[196]? = some am_M196 := am_me_of am_t196
def am_M197 : am_Me := (9, ⟨"RookHouseModel", "isOn", "(II)Z"⟩, prog_11_method_77_code, 3, (some .boolean), 2, 0, 1460, 1459, 64)
set_option maxRecDepth 10000 in
theorem am_t197 : am_mt[197]? = some am_M197 := rfl
theorem am_m197 : am_ms[197]? = some am_M197 := am_me_of am_t197
def am_M198 : am_Me := (9, ⟨"RookHouseModel", "isFor", "(II)Z"⟩, prog_11_method_78_code, 3, (some .boolean), 2, 0, 1464, 1463, 65)
set_option maxRecDepth 10000 in
theorem am_t198 : am_mt[198]? = some am_M198 := rfl
theorem am_m198 : am_ms[198]? = some am_M198 := am_me_of am_t198
def am_M199 : am_Me := (9, ⟨"RookHouseModel", "bill", "(II)I"⟩, prog_11_method_24_code, 3, (some .int), 2, 0, 1468, 1466, 1467)
set_option maxRecDepth 10000 in
theorem am_t199 : am_mt[199]? = some am_M199 := rfl
theorem am_m199 : am_ms[199]? = some am_M199 := am_me_of am_t199
def am_M200 : am_Me := (9, ⟨"RookHouseModel", "everybody", "()I"⟩, prog_11_method_76_code, 1, (some .int), 0, 0, 1472, 1471, 66)
set_option maxRecDepth 10000 in
theorem am_t200 : am_mt[200]? = some am_M200 := rfl
theorem am_m200 : am_ms[200]? = some am_M200 := am_me_of am_t200
def am_M201 : am_Me := (9, ⟨"RookHouseModel", "voicesFor", "(II)I"⟩, prog_11_method_82_code, 5, (some .int), 2, 0, 1476, 1475, 67)
set_option maxRecDepth 10000 in
theorem am_t201 : am_mt[201]? = some am_M201 := rfl
theorem am_m201 : am_ms[201]? = some am_M201 := am_me_of am_t201
def am_M202 : am_Me := (9, ⟨"RookHouseModel", "voicesOf", "(II)I"⟩, prog_11_method_80_code, 5, (some .int), 2, 0, 1480, 1479, 68)
set_option maxRecDepth 10000 in
theorem am_t202 : am_mt[202]? = some am_M202 := rfl
theorem am_m202 : am_ms[202]? = some am_M202 := am_me_of am_t202
def am_M203 : am_Me := (9, ⟨"RookHouseModel", "voicesOn", "(II)I"⟩, prog_11_method_81_code, 3, (some .int), 2, 0, 1484, 1483, 69)
set_option maxRecDepth 10000 in
theorem am_t203 : am_mt[203]? = some am_M203 := rfl
theorem am_m203 : am_ms[203]? = some am_M203 := am_me_of am_t203
def am_M204 : am_Me := (9, ⟨"RookHouseModel", "onOf", "(II)I"⟩, prog_11_method_79_code, 5, (some .int), 2, 0, 1488, 1487, 70)
set_option maxRecDepth 10000 in
theorem am_t204 : am_mt[204]? = some am_M204 := rfl
theorem am_m204 : am_ms[204]? = some am_M204 := am_me_of am_t204
def am_M205 : am_Me := (9, ⟨"RookHouseModel", "needed", "(II)I"⟩, prog_11_method_83_code, 3, (some .int), 2, 0, 1492, 1491, 71)
set_option maxRecDepth 10000 in
theorem am_t205 : am_mt[205]? = some am_M205 := rfl
theorem am_m205 : am_ms[205]? = some am_M205 := am_me_of am_t205
def am_M206 : am_Me := (9, ⟨"RookHouseModel", "carries", "(II)Z"⟩, prog_11_method_84_code, 3, (some .boolean), 2, 0, 1496, 1495, 72)
set_option maxRecDepth 10000 in
theorem am_t206 : am_mt[206]? = some am_M206 := rfl
theorem am_m206 : am_ms[206]? = some am_M206 := am_me_of am_t206
def am_M207 : am_Me := (9, ⟨"RookHouseModel", "pointsOf", "(I)I"⟩, prog_11_method_115_code, 4, (some .int), 1, 0, 1500, 1499, 73)
set_option maxRecDepth 10000 in
theorem am_t207 : am_mt[207]? = some am_M207 := rfl
theorem am_m207 : am_ms[207]? = some am_M207 := am_me_of am_t207
def am_M208 : am_Me := (9, ⟨"RookHouseModel", "givenBy", "(II)I"⟩, prog_11_method_114_code, 3, (some .int), 2, 0, 1504, 1503, 74)
set_option maxRecDepth 10000 in
theorem am_t208 : am_mt[208]? = some am_M208 := rfl
theorem am_m208 : am_ms[208]? = some am_M208 := am_me_of am_t208
def am_M209 : am_Me := (9, ⟨"RookHouseModel", "lessThan", "(II)I"⟩, prog_11_method_113_code, 5, (some .int), 2, 0, 1508, 1507, 75)
set_option maxRecDepth 10000 in
theorem am_t209 : am_mt[209]? = some am_M209 := rfl
theorem am_m209 : am_ms[209]? = some am_M209 := am_me_of am_t209
def am_M210 : am_Me := (9, ⟨"RookHouseModel", "terms", "(II)I"⟩, prog_11_method_27_code, 4, (some .int), 2, 0, 1512, 1510, 1511)
set_option maxRecDepth 10000 in
theorem am_t210 : am_mt[210]? = some am_M210 := rfl
theorem am_m210 : am_ms[210]? = some am_M210 := am_me_of am_t210
def am_M211 : am_Me := (9, ⟨"RookHouseModel", "isTerm", "(II)Z"⟩, prog_11_method_25_code, 2, (some .boolean), 2, 1, 1515, 1514, 0)
set_option maxRecDepth 10000 in
theorem am_t211 : am_mt[211]? = some am_M211 := rfl
theorem am_m211 : am_ms[211]? = some am_M211 := am_me_of am_t211
def am_M212 : am_Me := (9, ⟨"RookHouseModel", "termAt", "(I)I"⟩, prog_11_method_26_code, 1, (some .int), 1, 1, 1518, 1517, 0)
set_option maxRecDepth 10000 in
theorem am_t212 : am_mt[212]? = some am_M212 := rfl
theorem am_m212 : am_ms[212]? = some am_M212 := am_me_of am_t212
def am_M213 : am_Me := (9, ⟨"RookHouseModel", "row", "()I"⟩, prog_11_method_29_code, 7, (some .int), 0, 0, 1522, 1520, 1521)
set_option maxRecDepth 10000 in
theorem am_t213 : am_mt[213]? = some am_M213 := rfl
theorem am_m213 : am_ms[213]? = some am_M213 := am_me_of am_t213
def am_M214 : am_Me := (9, ⟨"RookHouseModel", "canRow", "(I)Z"⟩, prog_11_method_28_code, 4, (some .boolean), 1, 0, 1526, 1525, 76)
set_option maxRecDepth 10000 in
theorem am_t214 : am_mt[214]? = some am_M214 := rfl
theorem am_m214 : am_ms[214]? = some am_M214 := am_me_of am_t214
def am_M215 : am_Me := (9, ⟨"RookHouseModel", "isWant", "(I)Z"⟩, prog_11_method_9_code, 1, (some .boolean), 1, 1, 1529, 1528, 0)
set_option maxRecDepth 10000 in
theorem am_t215 : am_mt[215]? = some am_M215 := rfl
theorem am_m215 : am_ms[215]? = some am_M215 := am_me_of am_t215
def am_M216 : am_Me := (9, ⟨"RookHouseModel", "feathers", "()I"⟩, prog_11_method_30_code, 1, (some .int), 0, 0, 1533, 1531, 1532)
set_option maxRecDepth 10000 in
theorem am_t216 : am_mt[216]? = some am_M216 := rfl
theorem am_m216 : am_ms[216]? = some am_M216 := am_me_of am_t216
def am_M217 : am_Me := (9, ⟨"RookHouseModel", "feed", "(IIIII)I"⟩, prog_11_method_31_code, 7, (some .int), 5, 0, 1537, 1535, 1536)
set_option maxRecDepth 10000 in
theorem am_t217 : am_mt[217]? = some am_M217 := rfl
theorem am_m217 : am_ms[217]? = some am_M217 := am_me_of am_t217
def am_M218 : am_Me := (9, ⟨"RookHouseModel", "end", "(I)I"⟩, prog_11_method_32_code, 2, (some .int), 1, 0, 1541, 1539, 1540)
set_option maxRecDepth 10000 in
theorem am_t218 : am_mt[218]? = some am_M218 := rfl
theorem am_m218 : am_ms[218]? = some am_M218 := am_me_of am_t218
def am_M219 : am_Me := (9, ⟨"RookHouseModel", "law", "()I"⟩, prog_11_method_57_code, 1, (some .int), 0, 0, 1545, 1543, 1544)
set_option maxRecDepth 10000 in
theorem am_t219 : am_mt[219]? = some am_M219 := rfl
theorem am_m219 : am_ms[219]? = some am_M219 := am_me_of am_t219
def am_M220 : am_Me := (9, ⟨"RookHouseModel", "readsAs", "(Z)Z"⟩, prog_11_method_55_code, 2, (some .boolean), 1, 0, 1549, 1548, 77)
set_option maxRecDepth 10000 in
theorem am_t220 : am_mt[220]? = some am_M220 := rfl
theorem am_m220 : am_ms[220]? = some am_M220 := am_me_of am_t220
def am_M221 : am_Me := (9, ⟨"RookHouseModel", "reads", "()Z"⟩, prog_11_method_54_code, 2, (some .boolean), 0, 0, 1553, 1552, 78)
set_option maxRecDepth 10000 in
theorem am_t221 : am_mt[221]? = some am_M221 := rfl
theorem am_m221 : am_ms[221]? = some am_M221 := am_me_of am_t221
def am_M222 : am_Me := (9, ⟨"RookHouseModel", "splits", "(I)V"⟩, prog_11_method_36_code, 6, none, 1, 0, 1557, 1556, 79)
set_option maxRecDepth 10000 in
theorem am_t222 : am_mt[222]? = some am_M222 := rfl
theorem am_m222 : am_ms[222]? = some am_M222 := am_me_of am_t222
def am_M223 : am_Me := (9, ⟨"RookHouseModel", "isSmall", "(I)Z"⟩, prog_11_method_33_code, 1, (some .boolean), 1, 1, 1560, 1559, 0)
set_option maxRecDepth 10000 in
theorem am_t223 : am_mt[223]? = some am_M223 := rfl
theorem am_m223 : am_ms[223]? = some am_M223 := am_me_of am_t223
def am_M224 : am_Me := (9, ⟨"RookHouseModel", "isDigit", "(I)Z"⟩, prog_11_method_34_code, 1, (some .boolean), 1, 1, 1563, 1562, 0)
set_option maxRecDepth 10000 in
theorem am_t224 : am_mt[224]? = some am_M224 := rfl
theorem am_m224 : am_ms[224]? = some am_M224 := am_me_of am_t224
def am_M225 : am_Me := (9, ⟨"RookHouseModel", "wordOf", "(II)I"⟩, prog_11_method_35_code, 8, (some .int), 2, 0, 1567, 1566, 80)
set_option maxRecDepth 10000 in
theorem am_t225 : am_mt[225]? = some am_M225 := rfl
theorem am_m225 : am_ms[225]? = some am_M225 := am_me_of am_t225
def am_M226 : am_Me := (9, ⟨"RookHouseModel", "readOne", "()V"⟩, prog_11_method_47_code, 1, none, 0, 0, 1572, 1571, 81)
set_option maxRecDepth 10000 in
theorem am_t226 : am_mt[226]? = some am_M226 := rfl
theorem am_m226 : am_ms[226]? = some am_M226 := am_me_of am_t226
def am_M227 : am_Me := (9, ⟨"RookHouseModel", "readOrder", "()V"⟩, prog_11_method_46_code, 1, none, 0, 0, 1576, 1575, 82)
set_option maxRecDepth 10000 in
theorem am_t227 : am_mt[227]? = some am_M227 := rfl
theorem am_m227 : am_ms[227]? = some am_M227 := am_me_of am_t227
def am_M228 : am_Me := (9, ⟨"RookHouseModel", "takes0", "(I)Z"⟩, prog_11_method_39_code, 3, (some .boolean), 1, 0, 1580, 1579, 83)
set_option maxRecDepth 10000 in
theorem am_t228 : am_mt[228]? = some am_M228 := rfl
theorem am_m228 : am_ms[228]? = some am_M228 := am_me_of am_t228
def am_M229 : am_Me := (9, ⟨"RookHouseModel", "fine", "()Z"⟩, prog_11_method_37_code, 1, (some .boolean), 0, 0, 1584, 1583, 84)
set_option maxRecDepth 10000 in
theorem am_t229 : am_mt[229]? = some am_M229 := rfl
theorem am_m229 : am_ms[229]? = some am_M229 := am_me_of am_t229
def am_M230 : am_Me := (9, ⟨"RookHouseModel", "readSum", "(I)V"⟩, prog_11_method_51_code, 2, none, 1, 0, 1588, 1587, 85)
set_option maxRecDepth 10000 in
theorem am_t230 : am_mt[230]? = some am_M230 := rfl
theorem am_m230 : am_ms[230]? = some am_M230 := am_me_of am_t230
def am_M231 : am_Me := (9, ⟨"RookHouseModel", "readTerm", "(I)V"⟩, prog_11_method_52_code, 2, none, 1, 0, 1592, 1591, 86)
set_option maxRecDepth 10000 in
theorem am_t231 : am_mt[231]? = some am_M231 := rfl
theorem am_m231 : am_ms[231]? = some am_M231 := am_me_of am_t231
def am_M232 : am_Me := (9, ⟨"RookHouseModel", "readPart", "(I)V"⟩, prog_11_method_53_code, 3, none, 1, 0, 1596, 1595, 87)
set_option maxRecDepth 10000 in
theorem am_t232 : am_mt[232]? = some am_M232 := rfl
theorem am_m232 : am_ms[232]? = some am_M232 := am_me_of am_t232
def am_M233 : am_Me := (9, ⟨"RookHouseModel", "faults", "()V"⟩, prog_11_method_38_code, 1, none, 0, 0, 1600, 1599, 88)
set_option maxRecDepth 10000 in
theorem am_t233 : am_mt[233]? = some am_M233 := rfl
theorem am_m233 : am_ms[233]? = some am_M233 := am_me_of am_t233
def am_M234 : am_Me := (9, ⟨"RookHouseModel", "must", "(I)V"⟩, prog_11_method_40_code, 2, none, 1, 0, 1604, 1603, 89)
set_option maxRecDepth 10000 in
theorem am_t234 : am_mt[234]? = some am_M234 := rfl
theorem am_m234 : am_ms[234]? = some am_M234 := am_me_of am_t234
def am_M235 : am_Me := (9, ⟨"RookHouseModel", "leaf", "()V"⟩, prog_11_method_41_code, 1, none, 0, 0, 1608, 1607, 90)
set_option maxRecDepth 10000 in
theorem am_t235 : am_mt[235]? = some am_M235 := rfl
theorem am_m235 : am_ms[235]? = some am_M235 := am_me_of am_t235
def am_M236 : am_Me := (9, ⟨"RookHouseModel", "mustNumber", "(II)V"⟩, prog_11_method_43_code, 3, none, 2, 0, 1612, 1611, 91)
set_option maxRecDepth 10000 in
theorem am_t236 : am_mt[236]? = some am_M236 := rfl
theorem am_m236 : am_ms[236]? = some am_M236 := am_me_of am_t236
def am_M237 : am_Me := (9, ⟨"RookHouseModel", "readMore", "(I)V"⟩, prog_11_method_45_code, 2, none, 1, 0, 1616, 1615, 92)
set_option maxRecDepth 10000 in
theorem am_t237 : am_mt[237]? = some am_M237 := rfl
theorem am_m237 : am_ms[237]? = some am_M237 := am_me_of am_t237
def am_M238 : am_Me := (9, ⟨"RookHouseModel", "readTest", "(I)V"⟩, prog_11_method_48_code, 2, none, 1, 0, 1620, 1619, 93)
set_option maxRecDepth 10000 in
theorem am_t238 : am_mt[238]? = some am_M238 := rfl
theorem am_m238 : am_ms[238]? = some am_M238 := am_me_of am_t238
def am_M239 : am_Me := (9, ⟨"RookHouseModel", "readBoth", "(I)V"⟩, prog_11_method_49_code, 2, none, 1, 0, 1624, 1623, 94)
set_option maxRecDepth 10000 in
theorem am_t239 : am_mt[239]? = some am_M239 := rfl
theorem am_m239 : am_ms[239]? = some am_M239 := am_me_of am_t239
def am_M240 : am_Me := (9, ⟨"RookHouseModel", "readPlain", "(I)V"⟩, prog_11_method_50_code, 4, none, 1, 0, 1628, 1627, 95)
set_option maxRecDepth 10000 in
theorem am_t240 : am_mt[240]? = some am_M240 := rfl
theorem am_m240 : am_ms[240]? = some am_M240 := am_me_of am_t240
def am_M241 : am_Me := (9, ⟨"RookHouseModel", "readClause", "()V"⟩, prog_11_method_44_code, 1, none, 0, 0, 1632, 1631, 96)
set_option maxRecDepth 10000 in
theorem am_t241 : am_mt[241]? = some am_M241 := rfl
theorem am_m241 : am_ms[241]? = some am_M241 := am_me_of am_t241
def am_M242 : am_Me := (9, ⟨"RookHouseModel", "lays", "(I)V"⟩, prog_11_method_56_code, 3, none, 1, 0, 1636, 1635, 97)
set_option maxRecDepth 10000 in
theorem am_t242 : am_mt[242]? = some am_M242 := rfl
theorem am_m242 : am_ms[242]? = some am_M242 := am_me_of am_t242
def am_M243 : am_Me := (9, ⟨"RookHouseModel", "fault", "()I"⟩, prog_11_method_58_code, 1, (some .int), 0, 0, 1640, 1638, 1639)
set_option maxRecDepth 10000 in
theorem am_t243 : am_mt[243]? = some am_M243 := rfl
theorem am_m243 : am_ms[243]? = some am_M243 := am_me_of am_t243
def am_M244 : am_Me := (9, ⟨"RookHouseModel", "force", "(I)I"⟩, prog_11_method_60_code, 3, (some .int), 1, 0, 1644, 1642, 1643)
set_option maxRecDepth 10000 in
theorem am_t244 : am_mt[244]? = some am_M244 := rfl
theorem am_m244 : am_ms[244]? = some am_M244 := am_me_of am_t244
def am_M245 : am_Me := (9, ⟨"RookHouseModel", "isLaw", "(I)Z"⟩, prog_11_method_59_code, 2, (some .boolean), 1, 0, 1648, 1647, 98)
set_option maxRecDepth 10000 in
theorem am_t245 : am_mt[245]? = some am_M245 := rfl
theorem am_m245 : am_ms[245]? = some am_M245 := am_me_of am_t245
def am_M246 : am_Me := (9, ⟨"RookHouseModel", "undo", "()I"⟩, prog_11_method_86_code, 3, (some .int), 0, 0, 1652, 1650, 1651)
set_option maxRecDepth 10000 in
theorem am_t246 : am_mt[246]? = some am_M246 := rfl
theorem am_m246 : am_ms[246]? = some am_M246 := am_me_of am_t246
def am_M247 : am_Me := (9, ⟨"RookHouseModel", "put", "(I)I"⟩, prog_11_method_94_code, 2, (some .int), 1, 0, 1656, 1654, 1655)
set_option maxRecDepth 10000 in
theorem am_t247 : am_mt[247]? = some am_M247 := rfl
theorem am_m247 : am_ms[247]? = some am_M247 := am_me_of am_t247
def am_M248 : am_Me := (9, ⟨"RookHouseModel", "putsKept", "(I)I"⟩, prog_11_method_89_code, 3, (some .int), 1, 0, 1660, 1659, 99)
set_option maxRecDepth 10000 in
theorem am_t248 : am_mt[248]? = some am_M248 := rfl
theorem am_m248 : am_ms[248]? = some am_M248 := am_me_of am_t248
def am_M249 : am_Me := (9, ⟨"RookHouseModel", "carriesNow", "(I)Z"⟩, prog_11_method_88_code, 2, (some .boolean), 1, 0, 1664, 1663, 100)
set_option maxRecDepth 10000 in
theorem am_t249 : am_mt[249]? = some am_M249 := rfl
theorem am_m249 : am_ms[249]? = some am_M249 := am_me_of am_t249
def am_M250 : am_Me := (9, ⟨"RookHouseModel", "keeps", "(I)V"⟩, prog_11_method_85_code, 4, none, 1, 0, 1668, 1667, 101)
set_option maxRecDepth 10000 in
theorem am_t250 : am_mt[250]? = some am_M250 := rfl
theorem am_m250 : am_ms[250]? = some am_M250 := am_me_of am_t250
def am_M251 : am_Me := (9, ⟨"RookHouseModel", "goodOr", "(I)I"⟩, prog_11_method_87_code, 2, (some .int), 1, 0, 1672, 1671, 102)
set_option maxRecDepth 10000 in
theorem am_t251 : am_mt[251]? = some am_M251 := rfl
theorem am_m251 : am_ms[251]? = some am_M251 := am_me_of am_t251
def am_M252 : am_Me := (9, ⟨"RookHouseModel", "go", "(I)I"⟩, prog_11_method_95_code, 2, (some .int), 1, 0, 1676, 1674, 1675)
set_option maxRecDepth 10000 in
theorem am_t252 : am_mt[252]? = some am_M252 := rfl
theorem am_m252 : am_ms[252]? = some am_M252 := am_me_of am_t252
def am_M253 : am_Me := (9, ⟨"RookHouseModel", "goesKept", "(I)I"⟩, prog_11_method_90_code, 2, (some .int), 1, 0, 1680, 1679, 103)
set_option maxRecDepth 10000 in
theorem am_t253 : am_mt[253]? = some am_M253 := rfl
theorem am_m253 : am_ms[253]? = some am_M253 := am_me_of am_t253
def am_M254 : am_Me := (9, ⟨"RookHouseModel", "sway", "(III)I"⟩, prog_11_method_96_code, 4, (some .int), 3, 0, 1684, 1682, 1683)
set_option maxRecDepth 10000 in
theorem am_t254 : am_mt[254]? = some am_M254 := rfl
theorem am_m254 : am_ms[254]? = some am_M254 := am_me_of am_t254
def am_M255 : am_Me := (9, ⟨"RookHouseModel", "swaysKept", "(III)I"⟩, prog_11_method_91_code, 5, (some .int), 3, 0, 1688, 1687, 104)
set_option maxRecDepth 10000 in
theorem am_t255 : am_mt[255]? = some am_M255 := rfl
theorem am_m255 : am_ms[255]? = some am_M255 := am_me_of am_t255
def am_M256 : am_Me := (9, ⟨"RookHouseModel", "pass", "()I"⟩, prog_11_method_97_code, 1, (some .int), 0, 0, 1692, 1690, 1691)
set_option maxRecDepth 10000 in
theorem am_t256 : am_mt[256]? = some am_M256 := rfl
theorem am_m256 : am_ms[256]? = some am_M256 := am_me_of am_t256
def am_M257 : am_Me := (9, ⟨"RookHouseModel", "passesKept", "()I"⟩, prog_11_method_93_code, 1, (some .int), 0, 0, 1696, 1695, 105)
set_option maxRecDepth 10000 in
theorem am_t257 : am_mt[257]? = some am_M257 := rfl
theorem am_m257 : am_ms[257]? = some am_M257 := am_me_of am_t257
def am_M258 : am_Me := (9, ⟨"RookHouseModel", "dayPasses", "()I"⟩, prog_11_method_92_code, 3, (some .int), 0, 0, 1700, 1699, 106)
set_option maxRecDepth 10000 in
theorem am_t258 : am_mt[258]? = some am_M258 := rfl
theorem am_m258 : am_ms[258]? = some am_M258 := am_me_of am_t258
def am_M259 : am_Me := (9, ⟨"RookHouseModel", "votes", "(II)I"⟩, prog_11_method_99_code, 3, (some .int), 2, 0, 1704, 1702, 1703)
set_option maxRecDepth 10000 in
theorem am_t259 : am_mt[259]? = some am_M259 := rfl
theorem am_m259 : am_ms[259]? = some am_M259 := am_me_of am_t259
def am_M260 : am_Me := (9, ⟨"RookHouseModel", "votesFor", "(II)I"⟩, prog_11_method_98_code, 5, (some .int), 2, 0, 1708, 1707, 107)
set_option maxRecDepth 10000 in
theorem am_t260 : am_mt[260]? = some am_M260 := rfl
theorem am_m260 : am_ms[260]? = some am_M260 := am_me_of am_t260
def am_M261 : am_Me := (9, ⟨"RookHouseModel", "best", "()I"⟩, prog_11_method_102_code, 5, (some .int), 0, 0, 1712, 1710, 1711)
set_option maxRecDepth 10000 in
theorem am_t261 : am_mt[261]? = some am_M261 := rfl
theorem am_m261 : am_ms[261]? = some am_M261 := am_me_of am_t261
def am_M262 : am_Me := (9, ⟨"RookHouseModel", "laysBeats", "()V"⟩, prog_11_method_101_code, 3, none, 0, 0, 1716, 1715, 108)
set_option maxRecDepth 10000 in
theorem am_t262 : am_mt[262]? = some am_M262 := rfl
theorem am_m262 : am_ms[262]? = some am_M262 := am_me_of am_t262
def am_M263 : am_Me := (9, ⟨"RookHouseModel", "beats", "(II)Z"⟩, prog_11_method_100_code, 3, (some .boolean), 2, 0, 1720, 1719, 109)
set_option maxRecDepth 10000 in
theorem am_t263 : am_mt[263]? = some am_M263 := rfl
theorem am_m263 : am_ms[263]? = some am_M263 := am_me_of am_t263
def am_M264 : am_Me := (9, ⟨"RookHouseModel", "rings", "()I"⟩, prog_11_method_103_code, 5, (some .int), 0, 0, 1724, 1722, 1723)
set_option maxRecDepth 10000 in
theorem am_t264 : am_mt[264]? = some am_M264 := rfl
theorem am_m264 : am_ms[264]? = some am_M264 := am_me_of am_t264
def am_M265 : am_Me := (9, ⟨"RookHouseModel", "agenda", "(II)I"⟩, prog_11_method_106_code, 6, (some .int), 2, 0, 1728, 1726, 1727)
set_option maxRecDepth 10000 in
theorem am_t265 : am_mt[265]? = some am_M265 := rfl
theorem am_m265 : am_ms[265]? = some am_M265 := am_me_of am_t265
def am_M266 : am_Me := (9, ⟨"RookHouseModel", "laysLine", "(I)V"⟩, prog_11_method_104_code, 8, none, 1, 0, 1732, 1731, 110)
set_option maxRecDepth 10000 in
theorem am_t266 : am_mt[266]? = some am_M266 := rfl
theorem am_m266 : am_ms[266]? = some am_M266 := am_me_of am_t266
def am_M267 : am_Me := (9, ⟨"RookHouseModel", "winner", "()I"⟩, prog_11_method_105_code, 3, (some .int), 0, 0, 1736, 1735, 111)
set_option maxRecDepth 10000 in
theorem am_t267 : am_mt[267]? = some am_M267 := rfl
theorem am_m267 : am_ms[267]? = some am_M267 := am_me_of am_t267
def am_M268 : am_Me := (9, ⟨"RookHouseModel", "power", "(II)I"⟩, prog_11_method_109_code, 3, (some .int), 2, 0, 1740, 1738, 1739)
set_option maxRecDepth 10000 in
theorem am_t268 : am_mt[268]? = some am_M268 := rfl
theorem am_m268 : am_ms[268]? = some am_M268 := am_me_of am_t268
def am_M269 : am_Me := (9, ⟨"RookHouseModel", "decides", "(IIZ)I"⟩, prog_11_method_108_code, 10, (some .int), 3, 0, 1744, 1743, 112)
set_option maxRecDepth 10000 in
theorem am_t269 : am_mt[269]? = some am_M269 := rfl
theorem am_m269 : am_ms[269]? = some am_M269 := am_me_of am_t269
def am_M270 : am_Me := (9, ⟨"RookHouseModel", "allOrders", "(I)I"⟩, prog_11_method_107_code, 3, (some .int), 1, 1, 1747, 1746, 0)
set_option maxRecDepth 10000 in
theorem am_t270 : am_mt[270]? = some am_M270 := rfl
theorem am_m270 : am_ms[270]? = some am_M270 := am_me_of am_t270
def am_M271 : am_Me := (9, ⟨"RookHouseModel", "pivot", "(II)I"⟩, prog_11_method_110_code, 3, (some .int), 2, 0, 1751, 1749, 1750)
set_option maxRecDepth 10000 in
theorem am_t271 : am_mt[271]? = some am_M271 := rfl
theorem am_m271 : am_ms[271]? = some am_M271 := am_me_of am_t271
def am_M272 : am_Me := (9, ⟨"RookHouseModel", "enough", "(II)I"⟩, prog_11_method_111_code, 7, (some .int), 2, 0, 1755, 1753, 1754)
set_option maxRecDepth 10000 in
theorem am_t272 : am_mt[272]? = some am_M272 := rfl
theorem am_m272 : am_ms[272]? = some am_M272 := am_me_of am_t272
def am_M273 : am_Me := (9, ⟨"RookHouseModel", "out", "(II)I"⟩, prog_11_method_112_code, 6, (some .int), 2, 0, 1759, 1757, 1758)
set_option maxRecDepth 10000 in
theorem am_t273 : am_mt[273]? = some am_M273 := rfl
theorem am_m273 : am_ms[273]? = some am_M273 := am_me_of am_t273
def am_M274 : am_Me := (9, ⟨"RookHouseModel", "first", "()I"⟩, prog_11_method_118_code, 1, (some .int), 0, 0, 1763, 1761, 1762)
set_option maxRecDepth 10000 in
theorem am_t274 : am_mt[274]? = some am_M274 := rfl
theorem am_m274 : am_ms[274]? = some am_M274 := am_me_of am_t274
def am_M275 : am_Me := (9, ⟨"RookHouseModel", "firstNow", "()I"⟩, prog_11_method_117_code, 2, (some .int), 0, 0, 1767, 1766, 113)
set_option maxRecDepth 10000 in
theorem am_t275 : am_mt[275]? = some am_M275 := rfl
theorem am_m275 : am_ms[275]? = some am_M275 := am_me_of am_t275
def am_M276 : am_Me := (9, ⟨"RookHouseModel", "mostPoints", "()I"⟩, prog_11_method_116_code, 3, (some .int), 0, 0, 1771, 1770, 114)
set_option maxRecDepth 10000 in
theorem am_t276 : am_mt[276]? = some am_M276 := rfl
theorem am_m276 : am_ms[276]? = some am_M276 := am_me_of am_t276
def am_M277 : am_Me := (9, ⟨"RookHouseModel", "compare", "(I)I"⟩, prog_11_method_119_code, 4, (some .int), 1, 0, 1775, 1773, 1774)
set_option maxRecDepth 10000 in
theorem am_t277 : am_mt[277]? = some am_M277 := rfl
theorem am_m277 : am_ms[277]? = some am_M277 := am_me_of am_t277
def am_M278 : am_Me := (9, ⟨"RookHouseModel", "falsely", "(II)I"⟩, prog_11_method_121_code, 6, (some .int), 2, 0, 1779, 1777, 1778)
set_option maxRecDepth 10000 in
theorem am_t278 : am_mt[278]? = some am_M278 := rfl
theorem am_m278 : am_ms[278]? = some am_M278 := am_me_of am_t278
def am_M279 : am_Me := (9, ⟨"RookHouseModel", "firstBy", "(I)I"⟩, prog_11_method_120_code, 4, (some .int), 1, 0, 1783, 1782, 115)
set_option maxRecDepth 10000 in
theorem am_t279 : am_mt[279]? = some am_M279 := rfl
theorem am_m279 : am_ms[279]? = some am_M279 := am_me_of am_t279
def am_M280 : am_Me := (9, ⟨"RookHouseModel", "seen", "(II)I"⟩, prog_11_method_122_code, 4, (some .int), 2, 0, 1787, 1785, 1786)
set_option maxRecDepth 10000 in
theorem am_t280 : am_mt[280]? = some am_M280 := rfl
theorem am_m280 : am_ms[280]? = some am_M280 := am_me_of am_t280
def am_M281 : am_Me := (9, ⟨"RookHouseModel", "forget", "()I"⟩, prog_11_method_123_code, 2, (some .int), 0, 0, 1791, 1789, 1790)
set_option maxRecDepth 10000 in
theorem am_t281 : am_mt[281]? = some am_M281 := rfl
theorem am_m281 : am_ms[281]? = some am_M281 := am_me_of am_t281
def am_M282 : am_Me := (9, ⟨"RookHouseModel", "canBe", "()I"⟩, prog_11_method_126_code, 3, (some .int), 0, 0, 1795, 1793, 1794)
set_option maxRecDepth 10000 in
theorem am_t282 : am_mt[282]? = some am_M282 := rfl
theorem am_m282 : am_ms[282]? = some am_M282 := am_me_of am_t282
def am_M283 : am_Me := (9, ⟨"RookHouseModel", "isSo", "(I)Z"⟩, prog_11_method_125_code, 4, (some .boolean), 1, 0, 1799, 1798, 116)
set_option maxRecDepth 10000 in
theorem am_t283 : am_mt[283]? = some am_M283 := rfl
theorem am_m283 : am_ms[283]? = some am_M283 := am_me_of am_t283
def am_M284 : am_Me := (9, ⟨"RookHouseModel", "wouldVote", "(III)Z"⟩, prog_11_method_124_code, 4, (some .boolean), 3, 0, 1803, 1802, 117)
set_option maxRecDepth 10000 in
theorem am_t284 : am_mt[284]? = some am_M284 := rfl
theorem am_m284 : am_ms[284]? = some am_M284 := am_me_of am_t284
def am_M285 : am_Me := (9, ⟨"RookHouseModel", "ask", "(I)I"⟩, prog_11_method_128_code, 9, (some .int), 1, 0, 1807, 1805, 1806)
set_option maxRecDepth 10000 in
theorem am_t285 : am_mt[285]? = some am_M285 := rfl
theorem am_m285 : am_ms[285]? = some am_M285 := am_me_of am_t285
def am_M286 : am_Me := (9, ⟨"RookHouseModel", "mostAlike", "(III)I"⟩, prog_11_method_127_code, 7, (some .int), 3, 0, 1812, 1811, 118)
set_option maxRecDepth 10000 in
theorem am_t286 : am_mt[286]? = some am_M286 := rfl
theorem am_m286 : am_ms[286]? = some am_M286 := am_me_of am_t286
def am_M287 : am_Me := (9, ⟨"RookHouseModel", "greater", "(II)I"⟩, prog_11_method_2_code, 2, (some .int), 2, 1, 1815, 1814, 0)
set_option maxRecDepth 10000 in
theorem am_t287 : am_mt[287]? = some am_M287 := rfl
theorem am_m287 : am_ms[287]? = some am_M287 := am_me_of am_t287
def am_M288 : am_Me := (9, ⟨"RookHouseModel", "few", "(II)J"⟩, prog_11_method_129_code, 6, (some .long), 2, 0, 1819, 1817, 1818)
set_option maxRecDepth 10000 in
theorem am_t288 : am_mt[288]? = some am_M288 := rfl
theorem am_m288 : am_ms[288]? = some am_M288 := am_me_of am_t288
def am_M289 : am_Me := (9, ⟨"RookHouseModel", "stopped", "()I"⟩, prog_11_method_130_code, 1, (some .int), 0, 0, 1826, 1824, 1825)
set_option maxRecDepth 10000 in
theorem am_t289 : am_mt[289]? = some am_M289 := rfl
theorem am_m289 : am_ms[289]? = some am_M289 := am_me_of am_t289
def am_M290 : am_Me := (9, ⟨"RookHouseModel", "orders", "()I"⟩, prog_11_method_131_code, 5, (some .int), 0, 0, 1830, 1828, 1829)
set_option maxRecDepth 10000 in
theorem am_t290 : am_mt[290]? = some am_M290 := rfl
theorem am_m290 : am_ms[290]? = some am_M290 := am_me_of am_t290
def am_M291 : am_Me := (9, ⟨"RookHouseModel", "laysAside", "(I)V"⟩, prog_11_method_11_code, 3, none, 1, 0, 1834, 1833, 119)
set_option maxRecDepth 10000 in
theorem am_t291 : am_mt[291]? = some am_M291 := rfl
theorem am_m291 : am_ms[291]? = some am_M291 := am_me_of am_t291
def am_M292 : am_Me := (9, ⟨"RookHouseModel", "runs", "(I)Z"⟩, prog_11_method_136_code, 5, (some .boolean), 1, 0, 1838, 1837, 120)
set_option maxRecDepth 10000 in
theorem am_t292 : am_mt[292]? = some am_M292 := rfl
theorem am_m292 : am_ms[292]? = some am_M292 := am_me_of am_t292
def am_M293 : am_Me := (9, ⟨"RookHouseModel", "goesAlong", "(IZ)V"⟩, prog_11_method_133_code, 5, none, 2, 0, 1842, 1841, 121)
set_option maxRecDepth 10000 in
theorem am_t293 : am_mt[293]? = some am_M293 := rfl
theorem am_m293 : am_ms[293]? = some am_M293 := am_me_of am_t293
def am_M294 : am_Me := (9, ⟨"RookHouseModel", "laysFor", "()V"⟩, prog_11_method_132_code, 2, none, 0, 0, 1846, 1845, 122)
set_option maxRecDepth 10000 in
theorem am_t294 : am_mt[294]? = some am_M294 := rfl
theorem am_m294 : am_ms[294]? = some am_M294 := am_me_of am_t294
def am_M295 : am_Me := (9, ⟨"RookHouseModel", "obeys", "()I"⟩, prog_11_method_135_code, 3, (some .int), 0, 0, 1850, 1849, 123)
set_option maxRecDepth 10000 in
theorem am_t295 : am_mt[295]? = some am_M295 := rfl
theorem am_m295 : am_ms[295]? = some am_M295 := am_me_of am_t295
def am_M296 : am_Me := (9, ⟨"RookHouseModel", "small", "(J)I"⟩, prog_11_method_134_code, 2, (some .int), 1, 1, 1853, 1852, 0)
set_option maxRecDepth 10000 in
theorem am_t296 : am_mt[296]? = some am_M296 := rfl
theorem am_m296 : am_ms[296]? = some am_M296 := am_me_of am_t296
def am_M297 : am_Me := (9, ⟨"RookHouseModel", "takesBack", "(I)V"⟩, prog_11_method_12_code, 3, none, 1, 0, 1858, 1857, 124)
set_option maxRecDepth 10000 in
theorem am_t297 : am_mt[297]? = some am_M297 := rfl
theorem am_m297 : am_ms[297]? = some am_M297 := am_me_of am_t297
def am_M298 : am_Me := (9, ⟨"RookHouseModel", "sessions", "(II)I"⟩, prog_11_method_139_code, 5, (some .int), 2, 0, 1862, 1860, 1861)
set_option maxRecDepth 10000 in
theorem am_t298 : am_mt[298]? = some am_M298 := rfl
theorem am_m298 : am_ms[298]? = some am_M298 := am_me_of am_t298
def am_M299 : am_Me := (9, ⟨"RookHouseModel", "sessionDay", "()V"⟩, prog_11_method_138_code, 5, none, 0, 0, 1866, 1865, 125)
set_option maxRecDepth 10000 in
theorem am_t299 : am_mt[299]? = some am_M299 := rfl
theorem am_m299 : am_ms[299]? = some am_M299 := am_me_of am_t299
def am_M300 : am_Me := (9, ⟨"RookHouseModel", "draws", "(I)I"⟩, prog_11_method_137_code, 2, (some .int), 1, 0, 1870, 1869, 126)
set_option maxRecDepth 10000 in
theorem am_t300 : am_mt[300]? = some am_M300 := rfl
theorem am_m300 : am_ms[300]? = some am_M300 := am_me_of am_t300
def am_M301 : am_Me := (9, ⟨"RookHouseModel", "drawn", "(II)I"⟩, prog_11_method_140_code, 3, (some .int), 2, 0, 1877, 1875, 1876)
set_option maxRecDepth 10000 in
theorem am_t301 : am_mt[301]? = some am_M301 := rfl
theorem am_m301 : am_ms[301]? = some am_M301 := am_me_of am_t301
def am_M302 : am_Me := (9, ⟨"RookHouseModel", "count", "(I)I"⟩, prog_11_method_141_code, 2, (some .int), 1, 0, 1881, 1879, 1880)
set_option maxRecDepth 10000 in
theorem am_t302 : am_mt[302]? = some am_M302 := rfl
theorem am_m302 : am_ms[302]? = some am_M302 := am_me_of am_t302
def am_M303 : am_Me := (9, ⟨"RookHouseModel", "status", "()I"⟩, prog_11_method_142_code, 1, (some .int), 0, 0, 1885, 1883, 1884)
set_option maxRecDepth 10000 in
theorem am_t303 : am_mt[303]? = some am_M303 := rfl
theorem am_m303 : am_ms[303]? = some am_M303 := am_me_of am_t303
theorem am_m304 : am_ms[304]? = some am_law := am_law_at

/-! THE TABLES OF THE ABSTRACT MACHINE, printed by wip/whole/gen/emit_tbl.py out of the claim: methods, call sites, fields, constants, by numbers; each row checked against the tables of the Statement. -/
abbrev zMt : Type := MethodName × ByteArray × Nat × Option FieldType × Nat × Nat × Nat
def zm_0 : zMt := (⟨"PayrollRun", "<init>", "()V"⟩, prog_1_method_1_code, 1, (Option.none : Option FieldType), 5, 103, 88)
def zm_1 : zMt := (⟨"java/lang/Object", "<init>", "()V"⟩, object_method_1_code, 1, (Option.none : Option FieldType), 0, 0, 91)
def zm_2 : zMt := (⟨"PayrollRun$Books", "<init>", "()V"⟩, prog_2_method_1_code, 2, (Option.none : Option FieldType), 3, 61, 96)
def zm_3 : zMt := (⟨"PayrollRun$Rules", "<init>", "()V"⟩, prog_7_method_1_code, 1, (Option.none : Option FieldType), 1, 20, 104)
def zm_4 : zMt := (⟨"PayrollRun$Worker", "<init>", "()V"⟩, prog_11_method_1_code, 2, (Option.none : Option FieldType), 2, 40, 132)
def zm_5 : zMt := (⟨"PayrollRun$Garnishments", "<init>", "()V"⟩, prog_5_method_1_code, 1, (Option.none : Option FieldType), 1, 20, 140)
def zm_6 : zMt := (⟨"PayrollRun$History", "<init>", "()V"⟩, prog_6_method_1_code, 2, (Option.none : Option FieldType), 4, 82, 231)
def zm_7 : zMt := (⟨"PayrollRun$CommandText", "<init>", "()V"⟩, prog_4_method_1_code, 1, (Option.none : Option FieldType), 1, 20, 250)
def zm_8 : zMt := (⟨"PayrollRun$Closing", "<init>", "()V"⟩, prog_3_method_1_code, 1, (Option.none : Option FieldType), 1, 20, 277)
def zm_9 : zMt := (⟨"PayrollRun$Trial", "<init>", "()V"⟩, prog_10_method_1_code, 1, (Option.none : Option FieldType), 3, 61, 288)
def zm_10 : zMt := (⟨"PayrollRun$Slip", "<init>", "()V"⟩, prog_8_method_1_code, 1, (Option.none : Option FieldType), 1, 20, 298)
def zm_11 : zMt := (⟨"PayrollRun$SlipText", "<init>", "()V"⟩, prog_9_method_1_code, 1, (Option.none : Option FieldType), 4, 81, 334)
def zm_12 : zMt := (⟨"java/lang/StringBuilder", "<init>", "()V"⟩, prog_18_method_1_code, 1, (Option.none : Option FieldType), 3, 61, 340)
def zm_13 : zMt := (⟨"java/lang/AbstractStringBuilder", "<init>", "(I)V"⟩, prog_14_method_2_code, 2, (Option.none : Option FieldType), 2, 40, 343)
def zm_14 : zMt := (⟨"java/lang/StringUTF16", "newBytesFor", "(I)[B"⟩, prog_20_method_2_code, 1, (Option.some (FieldType.array FieldType.byte)), 1, 20, 349)
def zm_15 : zMt := (⟨"java/lang/StringUTF16", "newBytesLength", "(I)I"⟩, prog_20_method_3_code, 1, (Option.some FieldType.int), 0, 0, 352)
def zm_16 : zMt := (⟨"PayrollRun", "salary", "(III)I"⟩, prog_1_method_2_code, 4, (Option.some FieldType.int), 5, 112, 403)
def zm_17 : zMt := (⟨"PayrollRun$History", "begin", "(LPayrollRun$Books;)V"⟩, prog_6_method_2_code, 2, (Option.none : Option FieldType), 4, 91, 407)
def zm_18 : zMt := (⟨"PayrollRun$Books", "copyFrom", "(LPayrollRun$Books;)V"⟩, prog_2_method_2_code, 3, (Option.none : Option FieldType), 3, 69, 411)
def zm_19 : zMt := (⟨"PayrollRun$Worker", "copyFrom", "(LPayrollRun$Worker;)V"⟩, prog_11_method_2_code, 3, (Option.none : Option FieldType), 2, 47, 415)
def zm_20 : zMt := (⟨"PayrollRun$Garnishments", "copyFrom", "(LPayrollRun$Garnishments;)V"⟩, prog_5_method_2_code, 2, (Option.none : Option FieldType), 1, 26, 422)
def zm_21 : zMt := (⟨"PayrollRun$Rules", "copyFrom", "(LPayrollRun$Rules;)V"⟩, prog_7_method_2_code, 2, (Option.none : Option FieldType), 1, 26, 427)
def zm_22 : zMt := (⟨"PayrollRun$Books", "changeSalary", "(III)I"⟩, prog_2_method_3_code, 6, (Option.some FieldType.int), 2, 42, 432)
def zm_23 : zMt := (⟨"PayrollRun", "isEmployee", "(I)Z"⟩, prog_1_method_48_code, 1, (Option.some FieldType.boolean), 1, 22, 435)
def zm_24 : zMt := (⟨"PayrollRun", "within", "(III)Z"⟩, prog_1_method_47_code, 3, (Option.some FieldType.boolean), 0, 0, 438)
def zm_25 : zMt := (⟨"PayrollRun", "isMonth", "(I)Z"⟩, prog_1_method_49_code, 1, (Option.some FieldType.boolean), 1, 22, 441)
def zm_26 : zMt := (⟨"PayrollRun", "finish", "(I)I"⟩, prog_1_method_45_code, 2, (Option.some FieldType.int), 2, 43, 446)
def zm_27 : zMt := (⟨"PayrollRun$History", "commit", "()V"⟩, prog_6_method_3_code, 1, (Option.none : Option FieldType), 1, 23, 450)
def zm_28 : zMt := (⟨"java/lang/Math", "min", "(II)I"⟩, prog_16_method_69_code, 2, (Option.some FieldType.int), 0, 0, 453)
def zm_29 : zMt := (⟨"PayrollRun", "days", "(III)I"⟩, prog_1_method_3_code, 4, (Option.some FieldType.int), 5, 112, 457)
def zm_30 : zMt := (⟨"PayrollRun$Books", "changeDays", "(III)I"⟩, prog_2_method_4_code, 5, (Option.some FieldType.int), 2, 42, 461)
def zm_31 : zMt := (⟨"PayrollRun", "bonus", "(III)I"⟩, prog_1_method_4_code, 4, (Option.some FieldType.int), 5, 112, 465)
def zm_32 : zMt := (⟨"PayrollRun$Books", "changeBonus", "(III)I"⟩, prog_2_method_5_code, 5, (Option.some FieldType.int), 2, 42, 469)
def zm_33 : zMt := (⟨"PayrollRun", "setFloor", "(II)I"⟩, prog_1_method_5_code, 3, (Option.some FieldType.int), 5, 112, 473)
def zm_34 : zMt := (⟨"PayrollRun$Books", "changeFloor", "(II)I"⟩, prog_2_method_6_code, 4, (Option.some FieldType.int), 2, 42, 477)
def zm_35 : zMt := (⟨"PayrollRun", "setRate", "(II)I"⟩, prog_1_method_6_code, 3, (Option.some FieldType.int), 5, 112, 481)
def zm_36 : zMt := (⟨"PayrollRun$Books", "changeRate", "(II)I"⟩, prog_2_method_7_code, 4, (Option.some FieldType.int), 1, 22, 485)
def zm_37 : zMt := (⟨"PayrollRun", "setCap", "(II)I"⟩, prog_1_method_7_code, 3, (Option.some FieldType.int), 5, 112, 489)
def zm_38 : zMt := (⟨"PayrollRun$Books", "changeCap", "(II)I"⟩, prog_2_method_8_code, 4, (Option.some FieldType.int), 1, 22, 493)
def zm_39 : zMt := (⟨"PayrollRun", "bracket", "(II)I"⟩, prog_1_method_8_code, 3, (Option.some FieldType.int), 5, 112, 498)
def zm_40 : zMt := (⟨"PayrollRun$Books", "addBracket", "(II)I"⟩, prog_2_method_9_code, 3, (Option.some FieldType.int), 2, 42, 502)
def zm_41 : zMt := (⟨"PayrollRun$Rules", "leastThreshold", "()I"⟩, prog_7_method_3_code, 1, (Option.some FieldType.int), 1, 22, 506)
def zm_42 : zMt := (⟨"PayrollRun", "clearBrackets", "()I"⟩, prog_1_method_9_code, 1, (Option.some FieldType.int), 5, 112, 511)
def zm_43 : zMt := (⟨"PayrollRun$Books", "removeBrackets", "()I"⟩, prog_2_method_10_code, 2, (Option.some FieldType.int), 0, 0, 515)
def zm_44 : zMt := (⟨"PayrollRun", "fixed", "(III)I"⟩, prog_1_method_10_code, 4, (Option.some FieldType.int), 5, 112, 519)
def zm_45 : zMt := (⟨"PayrollRun$Books", "addFixed", "(III)I"⟩, prog_2_method_11_code, 4, (Option.some FieldType.int), 2, 42, 523)
def zm_46 : zMt := (⟨"PayrollRun$Garnishments", "add", "(III)I"⟩, prog_5_method_4_code, 4, (Option.some FieldType.int), 0, 0, 527)
def zm_47 : zMt := (⟨"PayrollRun", "share", "(III)I"⟩, prog_1_method_11_code, 4, (Option.some FieldType.int), 5, 112, 532)
def zm_48 : zMt := (⟨"PayrollRun$Books", "addShare", "(III)I"⟩, prog_2_method_12_code, 4, (Option.some FieldType.int), 2, 42, 536)
def zm_49 : zMt := (⟨"PayrollRun", "dropGarnishment", "(II)I"⟩, prog_1_method_12_code, 3, (Option.some FieldType.int), 5, 114, 540)
def zm_50 : zMt := (⟨"PayrollRun$Books", "removeGarnishment", "(II)I"⟩, prog_2_method_13_code, 3, (Option.some FieldType.int), 4, 92, 544)
def zm_51 : zMt := (⟨"PayrollRun$Garnishments", "has", "(I)Z"⟩, prog_5_method_3_code, 2, (Option.some FieldType.boolean), 0, 0, 548)
def zm_52 : zMt := (⟨"PayrollRun$Garnishments", "remove", "(I)I"⟩, prog_5_method_5_code, 2, (Option.some FieldType.int), 3, 71, 552)
def zm_53 : zMt := (⟨"PayrollRun$Garnishments", "shift", "(II)V"⟩, prog_5_method_6_code, 4, (Option.none : Option FieldType), 2, 48, 556)
def zm_54 : zMt := (⟨"PayrollRun$Garnishments", "swap", "(II)V"⟩, prog_5_method_8_code, 8, (Option.none : Option FieldType), 1, 21, 560)
def zm_55 : zMt := (⟨"PayrollRun", "moveGarnishment", "(III)I"⟩, prog_1_method_13_code, 4, (Option.some FieldType.int), 5, 112, 565)
def zm_56 : zMt := (⟨"PayrollRun$Books", "shiftGarnishment", "(III)I"⟩, prog_2_method_14_code, 5, (Option.some FieldType.int), 3, 71, 569)
def zm_57 : zMt := (⟨"PayrollRun", "closeMonth", "()I"⟩, prog_1_method_14_code, 1, (Option.some FieldType.int), 5, 147, 574)
def zm_58 : zMt := (⟨"PayrollRun$Books", "closeNext", "(LPayrollRun$Closing;)I"⟩, prog_2_method_15_code, 5, (Option.some FieldType.int), 4, 123, 578)
def zm_59 : zMt := (⟨"PayrollRun$Closing", "close", "(LPayrollRun$Worker;ILPayrollRun$Rules;ZLPayrollRun$Slip;)V"⟩, prog_3_method_2_code, 14, (Option.none : Option FieldType), 3, 90, 584)
def zm_60 : zMt := (⟨"PayrollRun$Rules", "fillDues", "(LPayrollRun$Worker;[J)V"⟩, prog_7_method_5_code, 11, (Option.none : Option FieldType), 2, 60, 589)
def zm_61 : zMt := (⟨"PayrollRun$Worker", "grossOf", "(I)J"⟩, prog_11_method_4_code, 2, (Option.some FieldType.long), 1, 22, 593)
def zm_62 : zMt := (⟨"PayrollRun", "grossPay", "(III)J"⟩, prog_1_method_50_code, 3, (Option.some FieldType.long), 0, 0, 596)
def zm_63 : zMt := (⟨"PayrollRun$Rules", "amountOn", "(IJ)J"⟩, prog_7_method_6_code, 12, (Option.some FieldType.long), 1, 29, 600)
def zm_64 : zMt := (⟨"PayrollRun$Rules", "contributionOn", "(IJ)J"⟩, prog_7_method_7_code, 6, (Option.some FieldType.long), 0, 0, 605)
def zm_65 : zMt := (⟨"PayrollRun$Rules", "taxOn", "(J)J"⟩, prog_7_method_8_code, 10, (Option.some FieldType.long), 0, 0, 610)
def zm_66 : zMt := (⟨"PayrollRun$Closing", "addOwnLines", "(ILPayrollRun$Slip;)V"⟩, prog_3_method_3_code, 4, (Option.none : Option FieldType), 1, 25, 614)
def zm_67 : zMt := (⟨"PayrollRun$Closing", "signed", "(IJ)J"⟩, prog_3_method_7_code, 3, (Option.some FieldType.long), 0, 0, 617)
def zm_68 : zMt := (⟨"PayrollRun$Slip", "add", "(IIIJ)V"⟩, prog_8_method_3_code, 6, (Option.none : Option FieldType), 0, 0, 621)
def zm_69 : zMt := (⟨"PayrollRun$Closing", "addCorrections", "(LPayrollRun$Worker;IZLPayrollRun$Slip;)V"⟩, prog_3_method_4_code, 10, (Option.none : Option FieldType), 1, 25, 625)
def zm_70 : zMt := (⟨"PayrollRun$Worker", "reasonFor", "(IZ)I"⟩, prog_11_method_7_code, 5, (Option.some FieldType.int), 0, 0, 629)
def zm_71 : zMt := (⟨"PayrollRun$Worker", "settle", "(I[J)V"⟩, prog_11_method_6_code, 4, (Option.none : Option FieldType), 0, 0, 633)
def zm_72 : zMt := (⟨"java/lang/Math", "min", "(JJ)J"⟩, prog_16_method_70_code, 4, (Option.some FieldType.long), 0, 0, 637)
def zm_73 : zMt := (⟨"java/lang/Math", "max", "(JJ)J"⟩, prog_16_method_66_code, 4, (Option.some FieldType.long), 0, 0, 640)
def zm_74 : zMt := (⟨"PayrollRun$Closing", "addGarnishes", "(LPayrollRun$Garnishments;JLPayrollRun$Slip;)V"⟩, prog_3_method_5_code, 13, (Option.none : Option FieldType), 2, 48, 644)
def zm_75 : zMt := (⟨"PayrollRun$Garnishments", "wanted", "(IJ)J"⟩, prog_5_method_9_code, 6, (Option.some FieldType.long), 1, 23, 648)
def zm_76 : zMt := (⟨"PayrollRun$Closing", "garnishReason", "(JJJ)I"⟩, prog_3_method_6_code, 6, (Option.some FieldType.int), 0, 0, 653)
def zm_77 : zMt := (⟨"PayrollRun", "newYear", "()I"⟩, prog_1_method_15_code, 1, (Option.some FieldType.int), 5, 113, 657)
def zm_78 : zMt := (⟨"PayrollRun$Books", "beginYear", "()I"⟩, prog_2_method_16_code, 2, (Option.some FieldType.int), 4, 92, 661)
def zm_79 : zMt := (⟨"PayrollRun$Worker", "beginYear", "()V"⟩, prog_11_method_3_code, 3, (Option.none : Option FieldType), 3, 70, 665)
def zm_80 : zMt := (⟨"PayrollRun$Garnishments", "removePaid", "()V"⟩, prog_5_method_7_code, 3, (Option.none : Option FieldType), 2, 48, 669)
def zm_81 : zMt := (⟨"PayrollRun", "closed", "()I"⟩, prog_1_method_16_code, 1, (Option.some FieldType.int), 0, 0, 673)
def zm_82 : zMt := (⟨"PayrollRun", "data", "(III)I"⟩, prog_1_method_17_code, 4, (Option.some FieldType.int), 2, 42, 677)
def zm_83 : zMt := (⟨"PayrollRun", "setting", "(II)I"⟩, prog_1_method_18_code, 3, (Option.some FieldType.int), 2, 46, 683)
def zm_84 : zMt := (⟨"PayrollRun$Rules", "ruleAt", "(II)I"⟩, prog_7_method_4_code, 5, (Option.some FieldType.int), 1, 22, 687)
def zm_85 : zMt := (⟨"PayrollRun", "garnishment", "(III)I"⟩, prog_1_method_19_code, 5, (Option.some FieldType.int), 2, 42, 691)
def zm_86 : zMt := (⟨"PayrollRun", "rest", "(II)J"⟩, prog_1_method_20_code, 4, (Option.some FieldType.long), 2, 42, 696)
def zm_87 : zMt := (⟨"PayrollRun", "due", "(III)J"⟩, prog_1_method_21_code, 4, (Option.some FieldType.long), 3, 90, 701)
def zm_88 : zMt := (⟨"PayrollRun", "settled", "(III)J"⟩, prog_1_method_22_code, 4, (Option.some FieldType.long), 2, 42, 706)
def zm_89 : zMt := (⟨"PayrollRun", "pending", "(I)J"⟩, prog_1_method_23_code, 7, (Option.some FieldType.long), 3, 90, 711)
def zm_90 : zMt := (⟨"PayrollRun", "owed", "(I)J"⟩, prog_1_method_24_code, 2, (Option.some FieldType.long), 2, 42, 716)
def zm_91 : zMt := (⟨"PayrollRun", "lineCount", "(II)I"⟩, prog_1_method_25_code, 4, (Option.some FieldType.int), 2, 42, 720)
def zm_92 : zMt := (⟨"PayrollRun", "line", "(IIII)I"⟩, prog_1_method_26_code, 6, (Option.some FieldType.int), 2, 43, 724)
def zm_93 : zMt := (⟨"PayrollRun$Slip", "has", "(I)Z"⟩, prog_8_method_4_code, 2, (Option.some FieldType.boolean), 1, 22, 728)
def zm_94 : zMt := (⟨"PayrollRun", "amount", "(III)J"⟩, prog_1_method_27_code, 5, (Option.some FieldType.long), 2, 43, 733)
def zm_95 : zMt := (⟨"PayrollRun", "letter", "(III)I"⟩, prog_1_method_28_code, 5, (Option.some FieldType.int), 12, 273, 737)
def zm_96 : zMt := (⟨"PayrollRun$SlipText", "writeSlip", "(LPayrollRun$Slip;)V"⟩, prog_9_method_3_code, 6, (Option.none : Option FieldType), 11, 248, 741)
def zm_97 : zMt := (⟨"PayrollRun$SlipText", "clear", "()V"⟩, prog_9_method_2_code, 1, (Option.none : Option FieldType), 6, 135, 745)
def zm_98 : zMt := (⟨"java/lang/StringBuilder", "setLength", "(I)V"⟩, prog_18_method_89_code, 2, (Option.none : Option FieldType), 5, 114, 749)
def zm_99 : zMt := (⟨"java/lang/AbstractStringBuilder", "setLength", "(I)V"⟩, prog_14_method_13_code, 2, (Option.none : Option FieldType), 4, 93, 752)
def zm_100 : zMt := (⟨"java/lang/AbstractStringBuilder", "ensureCapacityInternal", "(I)V"⟩, prog_14_method_9_code, 3, (Option.none : Option FieldType), 3, 71, 756)
def zm_101 : zMt := (⟨"java/lang/AbstractStringBuilder", "newCapacity", "(I)I"⟩, prog_14_method_10_code, 6, (Option.some FieldType.int), 2, 46, 760)
def zm_102 : zMt := (⟨"jdk/internal/util/ArraysSupport", "newLength", "(III)I"⟩, prog_23_method_27_code, 4, (Option.some FieldType.int), 1, 23, 763)
def zm_103 : zMt := (⟨"java/lang/Math", "max", "(II)I"⟩, prog_16_method_65_code, 2, (Option.some FieldType.int), 0, 0, 766)
def zm_104 : zMt := (⟨"jdk/internal/util/ArraysSupport", "hugeLength", "(II)I"⟩, prog_23_method_28_code, 3, (Option.some FieldType.int), 0, 0, 770)
def zm_105 : zMt := (⟨"java/util/Arrays", "copyOf", "([BI)[B"⟩, prog_22_method_121_code, 3, (Option.some (FieldType.array FieldType.byte)), 1, 26, 774)
def zm_106 : zMt := (⟨"java/lang/AbstractStringBuilder", "isLatin1", "()Z"⟩, prog_14_method_68_code, 1, (Option.some FieldType.boolean), 0, 0, 788)
def zm_107 : zMt := (⟨"java/lang/StringLatin1", "fillNull", "([BII)V"⟩, prog_19_method_48_code, 3, (Option.none : Option FieldType), 2, 46, 791)
def zm_108 : zMt := (⟨"java/util/Arrays", "fill", "([BIIB)V"⟩, prog_22_method_110_code, 5, (Option.none : Option FieldType), 1, 22, 794)
def zm_109 : zMt := (⟨"java/util/Arrays", "rangeCheck", "(III)V"⟩, prog_22_method_30_code, 3, (Option.none : Option FieldType), 0, 0, 797)
def zm_110 : zMt := (⟨"java/lang/StringUTF16", "fillNull", "([BII)V"⟩, prog_20_method_70_code, 3, (Option.none : Option FieldType), 2, 46, 800)
def zm_111 : zMt := (⟨"PayrollRun$SlipText", "writeLine", "(IIIJ)V"⟩, prog_9_method_4_code, 6, (Option.none : Option FieldType), 10, 223, 805)
def zm_112 : zMt := (⟨"PayrollRun$SlipText", "kindName", "(I)Ljava/lang/String;"⟩, prog_9_method_7_code, 1, (Option.some (FieldType.object "java/lang/String")), 0, 0, 808)
def zm_113 : zMt := (⟨"java/lang/StringBuilder", "append", "(Ljava/lang/String;)Ljava/lang/StringBuilder;"⟩, prog_18_method_7_code, 2, (Option.some (FieldType.object "java/lang/StringBuilder")), 9, 202, 820)
def zm_114 : zMt := (⟨"java/lang/AbstractStringBuilder", "append", "(Ljava/lang/String;)Ljava/lang/AbstractStringBuilder;"⟩, prog_14_method_22_code, 3, (Option.some (FieldType.object "java/lang/AbstractStringBuilder")), 8, 180, 823)
def zm_115 : zMt := (⟨"java/lang/AbstractStringBuilder", "appendNull", "()Ljava/lang/AbstractStringBuilder;"⟩, prog_14_method_26_code, 3, (Option.some (FieldType.object "java/lang/AbstractStringBuilder")), 4, 93, 827)
def zm_116 : zMt := (⟨"java/lang/StringUTF16", "putCharsAt", "([BICCCC)I"⟩, prog_20_method_81_code, 7, (Option.some FieldType.int), 3, 67, 830)
def zm_117 : zMt := (⟨"java/lang/StringUTF16", "checkBoundsBeginEnd", "(II[B)V"⟩, prog_20_method_93_code, 3, (Option.none : Option FieldType), 2, 45, 833)
def zm_118 : zMt := (⟨"java/lang/StringUTF16", "length", "([B)I"⟩, prog_20_method_6_code, 1, (Option.some FieldType.int), 0, 0, 836)
def zm_119 : zMt := (⟨"java/lang/String", "checkBoundsBeginEnd", "(III)V"⟩, prog_17_method_158_code, 3, (Option.none : Option FieldType), 1, 23, 839)
def zm_120 : zMt := (⟨"jdk/internal/util/Preconditions", "checkFromToIndex", "(IIILjava/util/function/BiFunction;)I"⟩, prog_24_method_12_code, 4, (Option.some FieldType.int), 0, 0, 844)
def zm_121 : zMt := (⟨"java/lang/StringUTF16", "putChar", "([BII)V"⟩, prog_20_method_4_code, 3, (Option.none : Option FieldType), 1, 20, 847)
def zm_122 : zMt := (⟨"java/lang/String", "length", "()I"⟩, prog_17_method_54_code, 1, (Option.some FieldType.int), 1, 20, 857)
def zm_123 : zMt := (⟨"java/lang/String", "coder", "()B"⟩, prog_17_method_152_code, 1, (Option.some FieldType.byte), 0, 0, 861)
def zm_124 : zMt := (⟨"java/lang/AbstractStringBuilder", "putStringAt", "(ILjava/lang/String;)V"⟩, prog_14_method_73_code, 3, (Option.none : Option FieldType), 7, 158, 866)
def zm_125 : zMt := (⟨"java/lang/AbstractStringBuilder", "inflateIfNeededFor", "(Ljava/lang/String;)V"⟩, prog_14_method_71_code, 2, (Option.none : Option FieldType), 6, 137, 870)
def zm_126 : zMt := (⟨"java/lang/AbstractStringBuilder", "inflate", "()V"⟩, prog_14_method_11_code, 2, (Option.none : Option FieldType), 5, 116, 875)
def zm_127 : zMt := (⟨"java/lang/StringLatin1", "inflate", "([BI[BII)V"⟩, prog_19_method_50_code, 5, (Option.none : Option FieldType), 4, 92, 878)
def zm_128 : zMt := (⟨"java/lang/StringUTF16", "inflate", "([BI[BII)V"⟩, prog_20_method_86_code, 6, (Option.none : Option FieldType), 3, 67, 881)
def zm_129 : zMt := (⟨"java/lang/StringUTF16", "checkBoundsOffCount", "(II[B)V"⟩, prog_20_method_94_code, 3, (Option.none : Option FieldType), 2, 45, 884)
def zm_130 : zMt := (⟨"java/lang/String", "checkBoundsOffCount", "(III)I"⟩, prog_17_method_157_code, 3, (Option.some FieldType.int), 1, 23, 887)
def zm_131 : zMt := (⟨"jdk/internal/util/Preconditions", "checkFromIndexSize", "(IIILjava/util/function/BiFunction;)I"⟩, prog_24_method_13_code, 4, (Option.some FieldType.int), 0, 0, 890)
def zm_132 : zMt := (⟨"java/lang/String", "getBytes", "([BIB)V"⟩, prog_17_method_147_code, 4, (Option.none : Option FieldType), 5, 116, 894)
def zm_133 : zMt := (⟨"java/lang/StringBuilder", "append", "(C)Ljava/lang/StringBuilder;"⟩, prog_18_method_14_code, 2, (Option.some (FieldType.object "java/lang/StringBuilder")), 7, 158, 900)
def zm_134 : zMt := (⟨"java/lang/AbstractStringBuilder", "append", "(C)Ljava/lang/AbstractStringBuilder;"⟩, prog_14_method_31_code, 2, (Option.some (FieldType.object "java/lang/AbstractStringBuilder")), 6, 137, 903)
def zm_135 : zMt := (⟨"java/lang/StringLatin1", "canEncode", "(C)Z"⟩, prog_19_method_3_code, 1, (Option.some FieldType.boolean), 0, 0, 906)
def zm_136 : zMt := (⟨"java/lang/StringUTF16", "putCharSB", "([BII)V"⟩, prog_20_method_71_code, 3, (Option.none : Option FieldType), 3, 64, 909)
def zm_137 : zMt := (⟨"java/lang/StringUTF16", "checkIndex", "(I[B)V"⟩, prog_20_method_91_code, 2, (Option.none : Option FieldType), 2, 43, 912)
def zm_138 : zMt := (⟨"java/lang/String", "checkIndex", "(II)V"⟩, prog_17_method_155_code, 2, (Option.none : Option FieldType), 1, 22, 915)
def zm_139 : zMt := (⟨"jdk/internal/util/Preconditions", "checkIndex", "(IILjava/util/function/BiFunction;)I"⟩, prog_24_method_11_code, 3, (Option.some FieldType.int), 0, 0, 918)
def zm_140 : zMt := (⟨"PayrollRun$SlipText", "writeNumber", "(J)V"⟩, prog_9_method_6_code, 7, (Option.none : Option FieldType), 8, 179, 922)
def zm_141 : zMt := (⟨"java/lang/Math", "abs", "(J)J"⟩, prog_16_method_61_code, 2, (Option.some FieldType.long), 0, 0, 925)
def zm_142 : zMt := (⟨"PayrollRun$SlipText", "signAt", "(I)I"⟩, prog_9_method_5_code, 2, (Option.some FieldType.int), 4, 88, 931)
def zm_143 : zMt := (⟨"java/lang/StringBuilder", "length", "()I"⟩, prog_18_method_93_code, 1, (Option.some FieldType.int), 1, 20, 935)
def zm_144 : zMt := (⟨"java/lang/AbstractStringBuilder", "length", "()I"⟩, prog_14_method_6_code, 1, (Option.some FieldType.int), 0, 0, 938)
def zm_145 : zMt := (⟨"java/lang/StringBuilder", "charAt", "(I)C"⟩, prog_18_method_88_code, 2, (Option.some FieldType.char), 3, 67, 943)
def zm_146 : zMt := (⟨"java/lang/AbstractStringBuilder", "charAt", "(I)C"⟩, prog_14_method_14_code, 5, (Option.some FieldType.char), 2, 43, 946)
def zm_147 : zMt := (⟨"java/lang/StringUTF16", "getChar", "([BI)C"⟩, prog_20_method_5_code, 2, (Option.some FieldType.char), 1, 20, 951)
def zm_148 : zMt := (⟨"PayrollRun", "payout", "(II)J"⟩, prog_1_method_29_code, 4, (Option.some FieldType.long), 3, 63, 955)
def zm_149 : zMt := (⟨"PayrollRun$Slip", "paid", "()J"⟩, prog_8_method_5_code, 1, (Option.some FieldType.long), 2, 43, 959)
def zm_150 : zMt := (⟨"PayrollRun", "preview", "(I)J"⟩, prog_1_method_30_code, 2, (Option.some FieldType.long), 6, 169, 964)
def zm_151 : zMt := (⟨"PayrollRun$Trial", "nextPayout", "(LPayrollRun$Books;II)J"⟩, prog_10_method_2_code, 5, (Option.some FieldType.long), 5, 145, 968)
def zm_152 : zMt := (⟨"PayrollRun$Trial", "payoutOf", "(ILPayrollRun$Books;)J"⟩, prog_10_method_4_code, 3, (Option.some FieldType.long), 4, 123, 975)
def zm_153 : zMt := (⟨"PayrollRun$Slip", "clear", "()V"⟩, prog_8_method_2_code, 1, (Option.none : Option FieldType), 0, 0, 979)
def zm_154 : zMt := (⟨"PayrollRun", "marginal", "(I)J"⟩, prog_1_method_31_code, 2, (Option.some FieldType.long), 6, 169, 985)
def zm_155 : zMt := (⟨"PayrollRun", "leastSalary", "(II)I"⟩, prog_1_method_32_code, 3, (Option.some FieldType.int), 4, 104, 989)
def zm_156 : zMt := (⟨"PayrollRun$Trial", "leastSalaryFor", "(LPayrollRun$Books;IJ)I"⟩, prog_10_method_5_code, 18, (Option.some FieldType.int), 3, 67, 995)
def zm_157 : zMt := (⟨"PayrollRun$Worker", "grossBefore", "(I)J"⟩, prog_11_method_5_code, 5, (Option.some FieldType.long), 2, 43, 999)
def zm_158 : zMt := (⟨"PayrollRun", "projected", "(I)J"⟩, prog_1_method_33_code, 2, (Option.some FieldType.long), 6, 170, 1006)
def zm_159 : zMt := (⟨"PayrollRun$Worker", "totalOf", "(I)J"⟩, prog_11_method_8_code, 2, (Option.some FieldType.long), 2, 48, 1010)
def zm_160 : zMt := (⟨"PayrollRun$Worker", "sumOf", "(I)J"⟩, prog_11_method_9_code, 5, (Option.some FieldType.long), 1, 24, 1014)
def zm_161 : zMt := (⟨"PayrollRun$Slip", "sumOf", "(I)J"⟩, prog_8_method_6_code, 5, (Option.some FieldType.long), 0, 0, 1018)
def zm_162 : zMt := (⟨"PayrollRun$Trial", "payoutsToCome", "(LPayrollRun$Books;I)J"⟩, prog_10_method_3_code, 6, (Option.some FieldType.long), 5, 145, 1022)
def zm_163 : zMt := (⟨"PayrollRun", "total", "(II)J"⟩, prog_1_method_34_code, 4, (Option.some FieldType.long), 3, 69, 1026)
def zm_164 : zMt := (⟨"PayrollRun", "oneRun", "(II)J"⟩, prog_1_method_35_code, 3, (Option.some FieldType.long), 4, 89, 1030)
def zm_165 : zMt := (⟨"PayrollRun$Books", "inOneRun", "(II)J"⟩, prog_2_method_17_code, 3, (Option.some FieldType.long), 3, 67, 1034)
def zm_166 : zMt := (⟨"PayrollRun", "account", "(II)J"⟩, prog_1_method_36_code, 6, (Option.some FieldType.long), 2, 50, 1040)
def zm_167 : zMt := (⟨"PayrollRun$Books", "sumOfSlips", "(II)J"⟩, prog_2_method_18_code, 7, (Option.some FieldType.long), 1, 24, 1046)
def zm_168 : zMt := (⟨"PayrollRun", "statement", "(II)I"⟩, prog_1_method_37_code, 8, (Option.some FieldType.int), 11, 248, 1051)
def zm_169 : zMt := (⟨"PayrollRun", "lowest", "(I)I"⟩, prog_1_method_38_code, 2, (Option.some FieldType.int), 4, 87, 1061)
def zm_170 : zMt := (⟨"PayrollRun$Worker", "lowestPaid", "()I"⟩, prog_11_method_10_code, 5, (Option.some FieldType.int), 3, 63, 1065)
def zm_171 : zMt := (⟨"PayrollRun", "corrections", "(II)I"⟩, prog_1_method_39_code, 4, (Option.some FieldType.int), 2, 42, 1070)
def zm_172 : zMt := (⟨"PayrollRun$Slip", "correctedMonths", "(I)I"⟩, prog_8_method_7_code, 5, (Option.some FieldType.int), 0, 0, 1074)
def zm_173 : zMt := (⟨"PayrollRun", "feed", "(I)I"⟩, prog_1_method_40_code, 2, (Option.some FieldType.int), 2, 43, 1078)
def zm_174 : zMt := (⟨"PayrollRun$CommandText", "append", "(I)I"⟩, prog_4_method_2_code, 2, (Option.some FieldType.int), 1, 22, 1082)
def zm_175 : zMt := (⟨"PayrollRun", "execute", "()I"⟩, prog_1_method_41_code, 3, (Option.some FieldType.int), 9, 199, 1087)
def zm_176 : zMt := (⟨"PayrollRun$CommandText", "read", "()I"⟩, prog_4_method_7_code, 3, (Option.some FieldType.int), 8, 177, 1091)
def zm_177 : zMt := (⟨"PayrollRun$CommandText", "readCommand", "(I)I"⟩, prog_4_method_8_code, 5, (Option.some FieldType.int), 7, 153, 1095)
def zm_178 : zMt := (⟨"PayrollRun$CommandText", "wordEnd", "(I)I"⟩, prog_4_method_11_code, 3, (Option.some FieldType.int), 2, 45, 1099)
def zm_179 : zMt := (⟨"PayrollRun$CommandText", "isSign", "(ICC)Z"⟩, prog_4_method_10_code, 4, (Option.some FieldType.boolean), 1, 22, 1103)
def zm_180 : zMt := (⟨"PayrollRun$CommandText", "wordBetween", "(II)I"⟩, prog_4_method_12_code, 4, (Option.some FieldType.int), 6, 130, 1107)
def zm_181 : zMt := (⟨"PayrollRun$CommandText", "wordText", "(I)Ljava/lang/String;"⟩, prog_4_method_14_code, 1, (Option.some (FieldType.object "java/lang/String")), 0, 0, 1110)
def zm_182 : zMt := (⟨"PayrollRun$CommandText", "spells", "(Ljava/lang/String;II)Z"⟩, prog_4_method_13_code, 5, (Option.some FieldType.boolean), 5, 106, 1126)
def zm_183 : zMt := (⟨"java/lang/String", "charAt", "(I)C"⟩, prog_17_method_56_code, 2, (Option.some FieldType.char), 4, 85, 1131)
def zm_184 : zMt := (⟨"java/lang/String", "isLatin1", "()Z"⟩, prog_17_method_154_code, 1, (Option.some FieldType.boolean), 0, 0, 1135)
def zm_185 : zMt := (⟨"java/lang/StringLatin1", "charAt", "([BI)C"⟩, prog_19_method_2_code, 2, (Option.some FieldType.char), 2, 43, 1138)
def zm_186 : zMt := (⟨"java/lang/StringUTF16", "charAt", "([BI)C"⟩, prog_20_method_83_code, 2, (Option.some FieldType.char), 3, 64, 1142)
def zm_187 : zMt := (⟨"PayrollRun$CommandText", "failureAt", "(I)I"⟩, prog_4_method_15_code, 1, (Option.some FieldType.int), 0, 0, 1146)
def zm_188 : zMt := (⟨"PayrollRun$CommandText", "readNumber", "(II)I"⟩, prog_4_method_9_code, 6, (Option.some FieldType.int), 2, 45, 1152)
def zm_189 : zMt := (⟨"PayrollRun$CommandText", "isFailure", "(I)Z"⟩, prog_4_method_16_code, 1, (Option.some FieldType.boolean), 0, 0, 1155)
def zm_190 : zMt := (⟨"PayrollRun$CommandText", "failurePosition", "(I)I"⟩, prog_4_method_17_code, 1, (Option.some FieldType.int), 0, 0, 1158)
def zm_191 : zMt := (⟨"PayrollRun$CommandText", "clear", "()V"⟩, prog_4_method_3_code, 1, (Option.none : Option FieldType), 0, 0, 1162)
def zm_192 : zMt := (⟨"PayrollRun", "perform", "(I)I"⟩, prog_1_method_46_code, 5, (Option.some FieldType.int), 5, 147, 1166)
def zm_193 : zMt := (⟨"PayrollRun$CommandText", "numberOf", "(II)I"⟩, prog_4_method_6_code, 4, (Option.some FieldType.int), 1, 22, 1170)
def zm_194 : zMt := (⟨"PayrollRun$CommandText", "wordOf", "(I)I"⟩, prog_4_method_4_code, 2, (Option.some FieldType.int), 1, 22, 1174)
def zm_195 : zMt := (⟨"PayrollRun$History", "takeBack", "(LPayrollRun$Books;)V"⟩, prog_6_method_4_code, 2, (Option.none : Option FieldType), 4, 91, 1178)
def zm_196 : zMt := (⟨"PayrollRun$CommandText", "startOf", "(I)I"⟩, prog_4_method_5_code, 2, (Option.some FieldType.int), 1, 22, 1182)
def zm_197 : zMt := (⟨"PayrollRun", "save", "()I"⟩, prog_1_method_42_code, 1, (Option.some FieldType.int), 4, 91, 1186)
def zm_198 : zMt := (⟨"PayrollRun", "restore", "()I"⟩, prog_1_method_43_code, 1, (Option.some FieldType.int), 5, 112, 1191)
def zm_199 : zMt := (⟨"PayrollRun", "undo", "()I"⟩, prog_1_method_44_code, 1, (Option.some FieldType.int), 5, 112, 1195)
def zm_200 : zMt := (⟨"PayrollRun$History", "stepBack", "(LPayrollRun$Books;)I"⟩, prog_6_method_5_code, 2, (Option.some FieldType.int), 4, 91, 1199)
def zm_201 : zMt := (⟨"PayrollRunModel", "<init>", "()V"⟩, prog_13_method_1_code, 3, (Option.none : Option FieldType), 1, 21, 1204)
def zm_202 : zMt := (⟨"PayrollRunModel", "at", "(II)I"⟩, prog_13_method_2_code, 2, (Option.some FieldType.int), 0, 0, 1210)
def zm_203 : zMt := (⟨"PayrollRunModel", "salary", "(III)I"⟩, prog_13_method_11_code, 6, (Option.some FieldType.int), 4, 90, 1261)
def zm_204 : zMt := (⟨"PayrollRunModel", "isPerson", "(I)Z"⟩, prog_13_method_5_code, 1, (Option.some FieldType.boolean), 1, 22, 1264)
def zm_205 : zMt := (⟨"PayrollRunModel", "in", "(III)Z"⟩, prog_13_method_4_code, 3, (Option.some FieldType.boolean), 0, 0, 1267)
def zm_206 : zMt := (⟨"PayrollRunModel", "isMonth", "(I)Z"⟩, prog_13_method_6_code, 1, (Option.some FieldType.boolean), 1, 22, 1270)
def zm_207 : zMt := (⟨"PayrollRunModel", "set", "(II)I"⟩, prog_13_method_10_code, 4, (Option.some FieldType.int), 3, 67, 1274)
def zm_208 : zMt := (⟨"PayrollRunModel", "change", "()V"⟩, prog_13_method_8_code, 1, (Option.none : Option FieldType), 2, 47, 1278)
def zm_209 : zMt := (⟨"PayrollRunModel", "push", "([J)V"⟩, prog_13_method_9_code, 2, (Option.none : Option FieldType), 1, 26, 1282)
def zm_210 : zMt := (⟨"PayrollRunModel", "days", "(III)I"⟩, prog_13_method_12_code, 4, (Option.some FieldType.int), 4, 90, 1288)
def zm_211 : zMt := (⟨"PayrollRunModel", "bonus", "(III)I"⟩, prog_13_method_13_code, 4, (Option.some FieldType.int), 4, 90, 1292)
def zm_212 : zMt := (⟨"PayrollRunModel", "setFloor", "(II)I"⟩, prog_13_method_14_code, 3, (Option.some FieldType.int), 4, 90, 1296)
def zm_213 : zMt := (⟨"PayrollRunModel", "setRate", "(II)I"⟩, prog_13_method_16_code, 3, (Option.some FieldType.int), 5, 113, 1300)
def zm_214 : zMt := (⟨"PayrollRunModel", "setRule", "(II)I"⟩, prog_13_method_15_code, 4, (Option.some FieldType.int), 4, 90, 1304)
def zm_215 : zMt := (⟨"PayrollRunModel", "setCap", "(II)I"⟩, prog_13_method_17_code, 3, (Option.some FieldType.int), 5, 113, 1308)
def zm_216 : zMt := (⟨"PayrollRunModel", "bracket", "(II)I"⟩, prog_13_method_18_code, 5, (Option.some FieldType.int), 5, 113, 1313)
def zm_217 : zMt := (⟨"PayrollRunModel", "clearBrackets", "()I"⟩, prog_13_method_19_code, 3, (Option.some FieldType.int), 5, 113, 1317)
def zm_218 : zMt := (⟨"PayrollRunModel", "fixed", "(III)I"⟩, prog_13_method_21_code, 4, (Option.some FieldType.int), 5, 117, 1321)
def zm_219 : zMt := (⟨"PayrollRunModel", "garnish", "(IIII)I"⟩, prog_13_method_20_code, 8, (Option.some FieldType.int), 4, 90, 1325)
def zm_220 : zMt := (⟨"PayrollRunModel", "of", "(II)J"⟩, prog_13_method_3_code, 3, (Option.some FieldType.long), 1, 21, 1329)
def zm_221 : zMt := (⟨"PayrollRunModel", "share", "(III)I"⟩, prog_13_method_22_code, 4, (Option.some FieldType.int), 5, 117, 1334)
def zm_222 : zMt := (⟨"PayrollRunModel", "dropGarnishment", "(II)I"⟩, prog_13_method_25_code, 5, (Option.some FieldType.int), 4, 90, 1338)
def zm_223 : zMt := (⟨"PayrollRunModel", "isGarnishment", "(II)Z"⟩, prog_13_method_23_code, 3, (Option.some FieldType.boolean), 2, 43, 1342)
def zm_224 : zMt := (⟨"PayrollRunModel", "exchange", "(III)V"⟩, prog_13_method_24_code, 9, (Option.none : Option FieldType), 1, 21, 1346)
def zm_225 : zMt := (⟨"PayrollRunModel", "moveGarnishment", "(III)I"⟩, prog_13_method_26_code, 6, (Option.some FieldType.int), 3, 67, 1350)
def zm_226 : zMt := (⟨"PayrollRunModel", "closeMonth", "()I"⟩, prog_13_method_43_code, 1, (Option.some FieldType.int), 9, 222, 1354)
def zm_227 : zMt := (⟨"PayrollRunModel", "closedMany", "()I"⟩, prog_13_method_7_code, 1, (Option.some FieldType.int), 0, 0, 1358)
def zm_228 : zMt := (⟨"PayrollRunModel", "close", "()I"⟩, prog_13_method_42_code, 3, (Option.some FieldType.int), 8, 200, 1362)
def zm_229 : zMt := (⟨"PayrollRunModel", "closeFor", "(II)V"⟩, prog_13_method_41_code, 9, (Option.none : Option FieldType), 7, 172, 1366)
def zm_230 : zMt := (⟨"PayrollRunModel", "addDueLines", "(II)V"⟩, prog_13_method_39_code, 7, (Option.none : Option FieldType), 6, 146, 1370)
def zm_231 : zMt := (⟨"PayrollRunModel", "dueOf", "(III)J"⟩, prog_13_method_32_code, 4, (Option.some FieldType.long), 4, 100, 1374)
def zm_232 : zMt := (⟨"PayrollRunModel", "sumOf", "(II)J"⟩, prog_13_method_28_code, 6, (Option.some FieldType.long), 3, 65, 1378)
def zm_233 : zMt := (⟨"PayrollRunModel", "grossOf", "(II)J"⟩, prog_13_method_27_code, 3, (Option.some FieldType.long), 2, 43, 1382)
def zm_234 : zMt := (⟨"PayrollRunModel", "amountOn", "(JI)J"⟩, prog_13_method_31_code, 4, (Option.some FieldType.long), 3, 77, 1386)
def zm_235 : zMt := (⟨"PayrollRunModel", "contribution", "(IJ)J"⟩, prog_13_method_29_code, 4, (Option.some FieldType.long), 1, 23, 1390)
def zm_236 : zMt := (⟨"PayrollRunModel", "tax", "(J)J"⟩, prog_13_method_30_code, 12, (Option.some FieldType.long), 2, 46, 1396)
def zm_237 : zMt := (⟨"PayrollRunModel", "addLine", "(IIIIIJ)V"⟩, prog_13_method_34_code, 10, (Option.none : Option FieldType), 2, 43, 1401)
def zm_238 : zMt := (⟨"PayrollRunModel", "lineAt", "(III)I"⟩, prog_13_method_35_code, 3, (Option.some FieldType.int), 1, 21, 1404)
def zm_239 : zMt := (⟨"PayrollRunModel", "settledOf", "(III)J"⟩, prog_13_method_33_code, 5, (Option.some FieldType.long), 1, 21, 1408)
def zm_240 : zMt := (⟨"PayrollRunModel", "reasonFor", "(II)I"⟩, prog_13_method_37_code, 5, (Option.some FieldType.int), 2, 43, 1412)
def zm_241 : zMt := (⟨"PayrollRunModel", "settle", "(II)V"⟩, prog_13_method_38_code, 4, (Option.none : Option FieldType), 5, 123, 1416)
def zm_242 : zMt := (⟨"PayrollRunModel", "sumOfLines", "(II)J"⟩, prog_13_method_36_code, 6, (Option.some FieldType.long), 2, 43, 1420)
def zm_243 : zMt := (⟨"PayrollRunModel", "addGarnishLines", "(IIJ)V"⟩, prog_13_method_40_code, 16, (Option.none : Option FieldType), 3, 72, 1424)
def zm_244 : zMt := (⟨"PayrollRunModel", "newYear", "()I"⟩, prog_13_method_44_code, 4, (Option.some FieldType.int), 3, 67, 1428)
def zm_245 : zMt := (⟨"PayrollRunModel", "closed", "()I"⟩, prog_13_method_45_code, 1, (Option.some FieldType.int), 1, 20, 1432)
def zm_246 : zMt := (⟨"PayrollRunModel", "data", "(III)I"⟩, prog_13_method_46_code, 4, (Option.some FieldType.int), 2, 43, 1436)
def zm_247 : zMt := (⟨"PayrollRunModel", "setting", "(II)I"⟩, prog_13_method_47_code, 4, (Option.some FieldType.int), 2, 43, 1440)
def zm_248 : zMt := (⟨"PayrollRunModel", "garnishment", "(III)I"⟩, prog_13_method_48_code, 4, (Option.some FieldType.int), 3, 65, 1444)
def zm_249 : zMt := (⟨"PayrollRunModel", "rest", "(II)J"⟩, prog_13_method_49_code, 3, (Option.some FieldType.long), 3, 65, 1448)
def zm_250 : zMt := (⟨"PayrollRunModel", "due", "(III)J"⟩, prog_13_method_50_code, 4, (Option.some FieldType.long), 5, 123, 1453)
def zm_251 : zMt := (⟨"PayrollRunModel", "settled", "(III)J"⟩, prog_13_method_52_code, 5, (Option.some FieldType.long), 3, 64, 1457)
def zm_252 : zMt := (⟨"PayrollRunModel", "why", "(II)I"⟩, prog_13_method_51_code, 3, (Option.some FieldType.int), 2, 42, 1461)
def zm_253 : zMt := (⟨"PayrollRunModel", "pending", "(I)J"⟩, prog_13_method_53_code, 5, (Option.some FieldType.long), 5, 123, 1465)
def zm_254 : zMt := (⟨"PayrollRunModel", "owed", "(I)J"⟩, prog_13_method_54_code, 2, (Option.some FieldType.long), 2, 43, 1470)
def zm_255 : zMt := (⟨"PayrollRunModel", "lineCount", "(II)I"⟩, prog_13_method_55_code, 4, (Option.some FieldType.int), 3, 64, 1474)
def zm_256 : zMt := (⟨"PayrollRunModel", "line", "(IIII)I"⟩, prog_13_method_57_code, 6, (Option.some FieldType.int), 3, 66, 1478)
def zm_257 : zMt := (⟨"PayrollRunModel", "isLine", "(III)Z"⟩, prog_13_method_56_code, 4, (Option.some FieldType.boolean), 2, 43, 1482)
def zm_258 : zMt := (⟨"PayrollRunModel", "amount", "(III)J"⟩, prog_13_method_58_code, 5, (Option.some FieldType.long), 3, 66, 1486)
def zm_259 : zMt := (⟨"PayrollRunModel", "letter", "(III)I"⟩, prog_13_method_64_code, 7, (Option.some FieldType.int), 7, 156, 1490)
def zm_260 : zMt := (⟨"PayrollRunModel", "writeLine", "(IJJJ)V"⟩, prog_13_method_62_code, 8, (Option.none : Option FieldType), 6, 129, 1494)
def zm_261 : zMt := (⟨"PayrollRunModel", "writeName", "(I)V"⟩, prog_13_method_60_code, 4, (Option.none : Option FieldType), 5, 106, 1498)
def zm_262 : zMt := (⟨"PayrollRunModel", "write", "(C)V"⟩, prog_13_method_59_code, 2, (Option.none : Option FieldType), 0, 0, 1512)
def zm_263 : zMt := (⟨"PayrollRunModel", "writeNumber", "(J)V"⟩, prog_13_method_61_code, 7, (Option.none : Option FieldType), 1, 21, 1516)
def zm_264 : zMt := (⟨"PayrollRunModel", "readWritten", "(I)I"⟩, prog_13_method_63_code, 2, (Option.some FieldType.int), 1, 22, 1523)
def zm_265 : zMt := (⟨"PayrollRunModel", "payout", "(II)J"⟩, prog_13_method_66_code, 4, (Option.some FieldType.long), 3, 65, 1527)
def zm_266 : zMt := (⟨"PayrollRunModel", "payoutOf", "(II)J"⟩, prog_13_method_65_code, 3, (Option.some FieldType.long), 2, 43, 1531)
def zm_267 : zMt := (⟨"PayrollRunModel", "preview", "(I)J"⟩, prog_13_method_70_code, 2, (Option.some FieldType.long), 10, 246, 1535)
def zm_268 : zMt := (⟨"PayrollRunModel", "nextPayout", "(II)J"⟩, prog_13_method_69_code, 5, (Option.some FieldType.long), 9, 222, 1540)
def zm_269 : zMt := (⟨"PayrollRunModel", "think", "()V"⟩, prog_13_method_67_code, 1, (Option.none : Option FieldType), 1, 26, 1544)
def zm_270 : zMt := (⟨"PayrollRunModel", "forget", "()V"⟩, prog_13_method_68_code, 1, (Option.none : Option FieldType), 1, 26, 1548)
def zm_271 : zMt := (⟨"PayrollRunModel", "marginal", "(I)J"⟩, prog_13_method_71_code, 2, (Option.some FieldType.long), 10, 246, 1552)
def zm_272 : zMt := (⟨"PayrollRunModel", "leastSalary", "(II)I"⟩, prog_13_method_72_code, 11, (Option.some FieldType.int), 4, 100, 1556)
def zm_273 : zMt := (⟨"PayrollRunModel", "projected", "(I)J"⟩, prog_13_method_74_code, 4, (Option.some FieldType.long), 9, 222, 1560)
def zm_274 : zMt := (⟨"PayrollRunModel", "payouts", "(I)J"⟩, prog_13_method_73_code, 5, (Option.some FieldType.long), 3, 65, 1564)
def zm_275 : zMt := (⟨"PayrollRunModel", "total", "(II)J"⟩, prog_13_method_77_code, 3, (Option.some FieldType.long), 4, 95, 1568)
def zm_276 : zMt := (⟨"PayrollRunModel", "totalOf", "(II)J"⟩, prog_13_method_76_code, 6, (Option.some FieldType.long), 3, 70, 1572)
def zm_277 : zMt := (⟨"PayrollRunModel", "sumOfKind", "(III)J"⟩, prog_13_method_75_code, 8, (Option.some FieldType.long), 2, 43, 1576)
def zm_278 : zMt := (⟨"PayrollRunModel", "oneRun", "(II)J"⟩, prog_13_method_78_code, 3, (Option.some FieldType.long), 4, 100, 1580)
def zm_279 : zMt := (⟨"PayrollRunModel", "account", "(II)J"⟩, prog_13_method_79_code, 7, (Option.some FieldType.long), 3, 70, 1584)
def zm_280 : zMt := (⟨"PayrollRunModel", "statement", "(II)I"⟩, prog_13_method_80_code, 8, (Option.some FieldType.int), 7, 156, 1588)
def zm_281 : zMt := (⟨"PayrollRunModel", "lowest", "(I)I"⟩, prog_13_method_81_code, 4, (Option.some FieldType.int), 3, 65, 1592)
def zm_282 : zMt := (⟨"PayrollRunModel", "corrections", "(II)I"⟩, prog_13_method_82_code, 7, (Option.some FieldType.int), 3, 64, 1596)
def zm_283 : zMt := (⟨"PayrollRunModel", "feed", "(I)I"⟩, prog_13_method_83_code, 2, (Option.some FieldType.int), 1, 22, 1601)
def zm_284 : zMt := (⟨"PayrollRunModel", "execute", "()I"⟩, prog_13_method_90_code, 6, (Option.some FieldType.int), 12, 291, 1605)
def zm_285 : zMt := (⟨"PayrollRunModel", "command", "(Z)I"⟩, prog_13_method_89_code, 6, (Option.some FieldType.int), 11, 266, 1609)
def zm_286 : zMt := (⟨"PayrollRunModel", "here", "()I"⟩, prog_13_method_84_code, 1, (Option.some FieldType.int), 0, 0, 1613)
def zm_287 : zMt := (⟨"PayrollRunModel", "wordOf", "(I)I"⟩, prog_13_method_86_code, 5, (Option.some FieldType.int), 6, 130, 1617)
def zm_288 : zMt := (⟨"PayrollRunModel", "isWord", "(ILjava/lang/String;)Z"⟩, prog_13_method_85_code, 5, (Option.some FieldType.boolean), 5, 106, 1635)
def zm_289 : zMt := (⟨"PayrollRunModel", "readNumber", "(I)V"⟩, prog_13_method_87_code, 3, (Option.none : Option FieldType), 1, 22, 1639)
def zm_290 : zMt := (⟨"PayrollRunModel", "perform", "(I)I"⟩, prog_13_method_88_code, 5, (Option.some FieldType.int), 10, 242, 1643)
def zm_291 : zMt := (⟨"PayrollRunModel", "save", "()I"⟩, prog_13_method_91_code, 1, (Option.some FieldType.int), 1, 26, 1659)
def zm_292 : zMt := (⟨"PayrollRunModel", "restore", "()I"⟩, prog_13_method_92_code, 1, (Option.some FieldType.int), 3, 67, 1663)
def zm_293 : zMt := (⟨"PayrollRunModel", "undo", "()I"⟩, prog_13_method_93_code, 1, (Option.some FieldType.int), 1, 26, 1667)
def zm_294 : zMt := (⟨"PayrollRunLaw", "law", "([I)Z"⟩, code, 4, ret, 13, 316, 0)
def zm (M : Nat) : zMt := (if M < 147 then (if M < 73 then (if M < 36 then (if M < 18 then (if M < 9 then (if M < 4 then (if M < 2 then (if M < 1 then zm_0 else zm_1) else (if M < 3 then zm_2 else zm_3)) else (if M < 6 then (if M < 5 then zm_4 else zm_5) else (if M < 7 then zm_6 else (if M < 8 then zm_7 else zm_8)))) else (if M < 13 then (if M < 11 then (if M < 10 then zm_9 else zm_10) else (if M < 12 then zm_11 else zm_12)) else (if M < 15 then (if M < 14 then zm_13 else zm_14) else (if M < 16 then zm_15 else (if M < 17 then zm_16 else zm_17))))) else (if M < 27 then (if M < 22 then (if M < 20 then (if M < 19 then zm_18 else zm_19) else (if M < 21 then zm_20 else zm_21)) else (if M < 24 then (if M < 23 then zm_22 else zm_23) else (if M < 25 then zm_24 else (if M < 26 then zm_25 else zm_26)))) else (if M < 31 then (if M < 29 then (if M < 28 then zm_27 else zm_28) else (if M < 30 then zm_29 else zm_30)) else (if M < 33 then (if M < 32 then zm_31 else zm_32) else (if M < 34 then zm_33 else (if M < 35 then zm_34 else zm_35)))))) else (if M < 54 then (if M < 45 then (if M < 40 then (if M < 38 then (if M < 37 then zm_36 else zm_37) else (if M < 39 then zm_38 else zm_39)) else (if M < 42 then (if M < 41 then zm_40 else zm_41) else (if M < 43 then zm_42 else (if M < 44 then zm_43 else zm_44)))) else (if M < 49 then (if M < 47 then (if M < 46 then zm_45 else zm_46) else (if M < 48 then zm_47 else zm_48)) else (if M < 51 then (if M < 50 then zm_49 else zm_50) else (if M < 52 then zm_51 else (if M < 53 then zm_52 else zm_53))))) else (if M < 63 then (if M < 58 then (if M < 56 then (if M < 55 then zm_54 else zm_55) else (if M < 57 then zm_56 else zm_57)) else (if M < 60 then (if M < 59 then zm_58 else zm_59) else (if M < 61 then zm_60 else (if M < 62 then zm_61 else zm_62)))) else (if M < 68 then (if M < 65 then (if M < 64 then zm_63 else zm_64) else (if M < 66 then zm_65 else (if M < 67 then zm_66 else zm_67))) else (if M < 70 then (if M < 69 then zm_68 else zm_69) else (if M < 71 then zm_70 else (if M < 72 then zm_71 else zm_72))))))) else (if M < 110 then (if M < 91 then (if M < 82 then (if M < 77 then (if M < 75 then (if M < 74 then zm_73 else zm_74) else (if M < 76 then zm_75 else zm_76)) else (if M < 79 then (if M < 78 then zm_77 else zm_78) else (if M < 80 then zm_79 else (if M < 81 then zm_80 else zm_81)))) else (if M < 86 then (if M < 84 then (if M < 83 then zm_82 else zm_83) else (if M < 85 then zm_84 else zm_85)) else (if M < 88 then (if M < 87 then zm_86 else zm_87) else (if M < 89 then zm_88 else (if M < 90 then zm_89 else zm_90))))) else (if M < 100 then (if M < 95 then (if M < 93 then (if M < 92 then zm_91 else zm_92) else (if M < 94 then zm_93 else zm_94)) else (if M < 97 then (if M < 96 then zm_95 else zm_96) else (if M < 98 then zm_97 else (if M < 99 then zm_98 else zm_99)))) else (if M < 105 then (if M < 102 then (if M < 101 then zm_100 else zm_101) else (if M < 103 then zm_102 else (if M < 104 then zm_103 else zm_104))) else (if M < 107 then (if M < 106 then zm_105 else zm_106) else (if M < 108 then zm_107 else (if M < 109 then zm_108 else zm_109)))))) else (if M < 128 then (if M < 119 then (if M < 114 then (if M < 112 then (if M < 111 then zm_110 else zm_111) else (if M < 113 then zm_112 else zm_113)) else (if M < 116 then (if M < 115 then zm_114 else zm_115) else (if M < 117 then zm_116 else (if M < 118 then zm_117 else zm_118)))) else (if M < 123 then (if M < 121 then (if M < 120 then zm_119 else zm_120) else (if M < 122 then zm_121 else zm_122)) else (if M < 125 then (if M < 124 then zm_123 else zm_124) else (if M < 126 then zm_125 else (if M < 127 then zm_126 else zm_127))))) else (if M < 137 then (if M < 132 then (if M < 130 then (if M < 129 then zm_128 else zm_129) else (if M < 131 then zm_130 else zm_131)) else (if M < 134 then (if M < 133 then zm_132 else zm_133) else (if M < 135 then zm_134 else (if M < 136 then zm_135 else zm_136)))) else (if M < 142 then (if M < 139 then (if M < 138 then zm_137 else zm_138) else (if M < 140 then zm_139 else (if M < 141 then zm_140 else zm_141))) else (if M < 144 then (if M < 143 then zm_142 else zm_143) else (if M < 145 then zm_144 else (if M < 146 then zm_145 else zm_146)))))))) else (if M < 221 then (if M < 184 then (if M < 165 then (if M < 156 then (if M < 151 then (if M < 149 then (if M < 148 then zm_147 else zm_148) else (if M < 150 then zm_149 else zm_150)) else (if M < 153 then (if M < 152 then zm_151 else zm_152) else (if M < 154 then zm_153 else (if M < 155 then zm_154 else zm_155)))) else (if M < 160 then (if M < 158 then (if M < 157 then zm_156 else zm_157) else (if M < 159 then zm_158 else zm_159)) else (if M < 162 then (if M < 161 then zm_160 else zm_161) else (if M < 163 then zm_162 else (if M < 164 then zm_163 else zm_164))))) else (if M < 174 then (if M < 169 then (if M < 167 then (if M < 166 then zm_165 else zm_166) else (if M < 168 then zm_167 else zm_168)) else (if M < 171 then (if M < 170 then zm_169 else zm_170) else (if M < 172 then zm_171 else (if M < 173 then zm_172 else zm_173)))) else (if M < 179 then (if M < 176 then (if M < 175 then zm_174 else zm_175) else (if M < 177 then zm_176 else (if M < 178 then zm_177 else zm_178))) else (if M < 181 then (if M < 180 then zm_179 else zm_180) else (if M < 182 then zm_181 else (if M < 183 then zm_182 else zm_183)))))) else (if M < 202 then (if M < 193 then (if M < 188 then (if M < 186 then (if M < 185 then zm_184 else zm_185) else (if M < 187 then zm_186 else zm_187)) else (if M < 190 then (if M < 189 then zm_188 else zm_189) else (if M < 191 then zm_190 else (if M < 192 then zm_191 else zm_192)))) else (if M < 197 then (if M < 195 then (if M < 194 then zm_193 else zm_194) else (if M < 196 then zm_195 else zm_196)) else (if M < 199 then (if M < 198 then zm_197 else zm_198) else (if M < 200 then zm_199 else (if M < 201 then zm_200 else zm_201))))) else (if M < 211 then (if M < 206 then (if M < 204 then (if M < 203 then zm_202 else zm_203) else (if M < 205 then zm_204 else zm_205)) else (if M < 208 then (if M < 207 then zm_206 else zm_207) else (if M < 209 then zm_208 else (if M < 210 then zm_209 else zm_210)))) else (if M < 216 then (if M < 213 then (if M < 212 then zm_211 else zm_212) else (if M < 214 then zm_213 else (if M < 215 then zm_214 else zm_215))) else (if M < 218 then (if M < 217 then zm_216 else zm_217) else (if M < 219 then zm_218 else (if M < 220 then zm_219 else zm_220))))))) else (if M < 258 then (if M < 239 then (if M < 230 then (if M < 225 then (if M < 223 then (if M < 222 then zm_221 else zm_222) else (if M < 224 then zm_223 else zm_224)) else (if M < 227 then (if M < 226 then zm_225 else zm_226) else (if M < 228 then zm_227 else (if M < 229 then zm_228 else zm_229)))) else (if M < 234 then (if M < 232 then (if M < 231 then zm_230 else zm_231) else (if M < 233 then zm_232 else zm_233)) else (if M < 236 then (if M < 235 then zm_234 else zm_235) else (if M < 237 then zm_236 else (if M < 238 then zm_237 else zm_238))))) else (if M < 248 then (if M < 243 then (if M < 241 then (if M < 240 then zm_239 else zm_240) else (if M < 242 then zm_241 else zm_242)) else (if M < 245 then (if M < 244 then zm_243 else zm_244) else (if M < 246 then zm_245 else (if M < 247 then zm_246 else zm_247)))) else (if M < 253 then (if M < 250 then (if M < 249 then zm_248 else zm_249) else (if M < 251 then zm_250 else (if M < 252 then zm_251 else zm_252))) else (if M < 255 then (if M < 254 then zm_253 else zm_254) else (if M < 256 then zm_255 else (if M < 257 then zm_256 else zm_257)))))) else (if M < 276 then (if M < 267 then (if M < 262 then (if M < 260 then (if M < 259 then zm_258 else zm_259) else (if M < 261 then zm_260 else zm_261)) else (if M < 264 then (if M < 263 then zm_262 else zm_263) else (if M < 265 then zm_264 else (if M < 266 then zm_265 else zm_266)))) else (if M < 271 then (if M < 269 then (if M < 268 then zm_267 else zm_268) else (if M < 270 then zm_269 else zm_270)) else (if M < 273 then (if M < 272 then zm_271 else zm_272) else (if M < 274 then zm_273 else (if M < 275 then zm_274 else zm_275))))) else (if M < 285 then (if M < 280 then (if M < 278 then (if M < 277 then zm_276 else zm_277) else (if M < 279 then zm_278 else zm_279)) else (if M < 282 then (if M < 281 then zm_280 else zm_281) else (if M < 283 then zm_282 else (if M < 284 then zm_283 else zm_284)))) else (if M < 290 then (if M < 287 then (if M < 286 then zm_285 else zm_286) else (if M < 288 then zm_287 else (if M < 289 then zm_288 else zm_289))) else (if M < 292 then (if M < 291 then zm_290 else zm_291) else (if M < 293 then zm_292 else (if M < 294 then zm_293 else zm_294)))))))))
def zmy (M : Nat) : MethodName := (zm M).1
def zmb (M : Nat) : ByteArray := (zm M).2.1
def zml (M : Nat) : Nat := (zm M).2.2.1
def zmr (M : Nat) : Option FieldType := (zm M).2.2.2.1
def zmf (M : Nat) : Nat := (zm M).2.2.2.2.1
def zmo (M : Nat) : Nat := (zm M).2.2.2.2.2.1
def zmp (M : Nat) : Nat := (zm M).2.2.2.2.2.2
/-- the private methods of the superclass that are called on a text under construction -/
def zsbM : List MethodName := [⟨"java/lang/AbstractStringBuilder", "ensureCapacityInternal", "(I)V"⟩, ⟨"java/lang/AbstractStringBuilder", "newCapacity", "(I)I"⟩, ⟨"java/lang/AbstractStringBuilder", "appendNull", "()Ljava/lang/AbstractStringBuilder;"⟩, ⟨"java/lang/AbstractStringBuilder", "putStringAt", "(ILjava/lang/String;)V"⟩, ⟨"java/lang/AbstractStringBuilder", "inflateIfNeededFor", "(Ljava/lang/String;)V"⟩, ⟨"java/lang/AbstractStringBuilder", "inflate", "()V"⟩]
def zsb : List Cond := zsbM.map fun y => Cond.selects "java/lang/StringBuilder" y y
def zW0 : List Cond := lw_tbl.filter goodWord ++ zsb
theorem zw1 (j : Nat) {c : Cond} (h : tables_1_1[j]? = some c) (g : goodWord c = true) : c ∈ zW0 := List.mem_append_left _ (List.mem_filter.mpr ⟨List.mem_append_right _ (List.mem_append_left _ (List.mem_of_getElem? h)), g⟩)
theorem zw2 (j : Nat) {c : Cond} (h : tables_1_2[j]? = some c) (g : goodWord c = true) : c ∈ zW0 := List.mem_append_left _ (List.mem_filter.mpr ⟨List.mem_append_right _ (List.mem_append_right _ (List.mem_append_left _ (List.mem_of_getElem? h))), g⟩)
theorem zw3 (j : Nat) {c : Cond} (h : tables_1_3[j]? = some c) (g : goodWord c = true) : c ∈ zW0 := List.mem_append_left _ (List.mem_filter.mpr ⟨List.mem_append_right _ (List.mem_append_right _ (List.mem_append_right _ (List.mem_append_left _ (List.mem_of_getElem? h)))), g⟩)
theorem zw4 (j : Nat) {c : Cond} (h : tables_1_4[j]? = some c) (g : goodWord c = true) : c ∈ zW0 := List.mem_append_left _ (List.mem_filter.mpr ⟨List.mem_append_right _ (List.mem_append_right _ (List.mem_append_right _ (List.mem_append_right _ (List.mem_append_left _ (List.mem_of_getElem? h))))), g⟩)
theorem zw5 (j : Nat) {c : Cond} (h : tables_1_5[j]? = some c) (g : goodWord c = true) : c ∈ zW0 := List.mem_append_left _ (List.mem_filter.mpr ⟨List.mem_append_right _ (List.mem_append_right _ (List.mem_append_right _ (List.mem_append_right _ (List.mem_append_right _ (List.mem_append_left _ (List.mem_of_getElem? h)))))), g⟩)
theorem zw6 (j : Nat) {c : Cond} (h : tables_1_6[j]? = some c) (g : goodWord c = true) : c ∈ zW0 := List.mem_append_left _ (List.mem_filter.mpr ⟨List.mem_append_right _ (List.mem_append_right _ (List.mem_append_right _ (List.mem_append_right _ (List.mem_append_right _ (List.mem_append_right _ (List.mem_append_left _ (List.mem_of_getElem? h))))))), g⟩)
theorem zw7 (j : Nat) {c : Cond} (h : tables_1_7[j]? = some c) (g : goodWord c = true) : c ∈ zW0 := List.mem_append_left _ (List.mem_filter.mpr ⟨List.mem_append_right _ (List.mem_append_right _ (List.mem_append_right _ (List.mem_append_right _ (List.mem_append_right _ (List.mem_append_right _ (List.mem_append_right _ ((List.mem_of_getElem? h)))))))), g⟩)
theorem zwp1 (j : Nat) {q : MethodName × Nat} (h : lw_privs_1[j]? = some q) : Cond.selects q.1.cls q.1 q.1 ∈ zW0 := List.mem_append_left _ (List.mem_filter.mpr ⟨List.mem_append_left _ (List.mem_map.mpr ⟨q, List.mem_append_left _ (List.mem_of_getElem? h), rfl⟩), rfl⟩)
theorem zwp2 (j : Nat) {q : MethodName × Nat} (h : lw_privs_2[j]? = some q) : Cond.selects q.1.cls q.1 q.1 ∈ zW0 := List.mem_append_left _ (List.mem_filter.mpr ⟨List.mem_append_left _ (List.mem_map.mpr ⟨q, List.mem_append_right _ (List.mem_append_left _ (List.mem_of_getElem? h)), rfl⟩), rfl⟩)
theorem zwp3 (j : Nat) {q : MethodName × Nat} (h : lw_privs_3[j]? = some q) : Cond.selects q.1.cls q.1 q.1 ∈ zW0 := List.mem_append_left _ (List.mem_filter.mpr ⟨List.mem_append_left _ (List.mem_map.mpr ⟨q, List.mem_append_right _ (List.mem_append_right _ (List.mem_append_left _ (List.mem_of_getElem? h))), rfl⟩), rfl⟩)
theorem zwp4 (j : Nat) {q : MethodName × Nat} (h : lw_privs_4[j]? = some q) : Cond.selects q.1.cls q.1 q.1 ∈ zW0 := List.mem_append_left _ (List.mem_filter.mpr ⟨List.mem_append_left _ (List.mem_map.mpr ⟨q, List.mem_append_right _ (List.mem_append_right _ (List.mem_append_right _ ((List.mem_of_getElem? h)))), rfl⟩), rfl⟩)
theorem zv1 (j : Nat) {c : Cond} (h : tables_1_1[j]? = some c) : c ∈ lw_tbl := List.mem_append_right _ (List.mem_append_left _ (List.mem_of_getElem? h))
theorem zv2 (j : Nat) {c : Cond} (h : tables_1_2[j]? = some c) : c ∈ lw_tbl := List.mem_append_right _ (List.mem_append_right _ (List.mem_append_left _ (List.mem_of_getElem? h)))
theorem zv3 (j : Nat) {c : Cond} (h : tables_1_3[j]? = some c) : c ∈ lw_tbl := List.mem_append_right _ (List.mem_append_right _ (List.mem_append_right _ (List.mem_append_left _ (List.mem_of_getElem? h))))
theorem zv4 (j : Nat) {c : Cond} (h : tables_1_4[j]? = some c) : c ∈ lw_tbl := List.mem_append_right _ (List.mem_append_right _ (List.mem_append_right _ (List.mem_append_right _ (List.mem_append_left _ (List.mem_of_getElem? h)))))
theorem zv5 (j : Nat) {c : Cond} (h : tables_1_5[j]? = some c) : c ∈ lw_tbl := List.mem_append_right _ (List.mem_append_right _ (List.mem_append_right _ (List.mem_append_right _ (List.mem_append_right _ (List.mem_append_left _ (List.mem_of_getElem? h))))))
theorem zv6 (j : Nat) {c : Cond} (h : tables_1_6[j]? = some c) : c ∈ lw_tbl := List.mem_append_right _ (List.mem_append_right _ (List.mem_append_right _ (List.mem_append_right _ (List.mem_append_right _ (List.mem_append_right _ (List.mem_append_left _ (List.mem_of_getElem? h)))))))
theorem zv7 (j : Nat) {c : Cond} (h : tables_1_7[j]? = some c) : c ∈ lw_tbl := List.mem_append_right _ (List.mem_append_right _ (List.mem_append_right _ (List.mem_append_right _ (List.mem_append_right _ (List.mem_append_right _ (List.mem_append_right _ ((List.mem_of_getElem? h))))))))
theorem zwb (j : Nat) {y : MethodName} (h : zsbM[j]? = some y) : Cond.selects "java/lang/StringBuilder" y y ∈ zW0 := List.mem_append_right _ (List.mem_map.mpr ⟨y, List.mem_of_getElem? h, rfl⟩)
theorem zW0_g : ∀ w ∈ zW0, goodWord w = true := by
  intro w hw
  rcases List.mem_append.mp hw with h | h
  · exact (List.mem_filter.mp h).2
  · obtain ⟨y, hy, rfl⟩ := List.mem_map.mp h
    rfl
theorem zW0_t {s : State} {args : Array Value} (hts : ∀ w ∈ lw_tbl, w.before args s = true) : ∀ w ∈ zW0, w.before args s = true := by
  intro w hw
  rcases List.mem_append.mp hw with h | h
  · exact hts w (List.mem_filter.mp h).1
  · obtain ⟨y, hy, rfl⟩ := List.mem_map.mp h
    have h2 : (Cond.selects "java/lang/StringBuilder" ⟨"java/lang/AbstractStringBuilder", "isLatin1", "()Z"⟩ ⟨"java/lang/AbstractStringBuilder", "isLatin1", "()Z"⟩).before args s = true := hts _ (zv4 6 rfl)
    have h3 : (Cond.instanceMethod ⟨"java/lang/AbstractStringBuilder", "isLatin1", "()Z"⟩).before args s = true := hts _ (zv4 4 rfl)
    simp only [zsbM, List.mem_cons, List.not_mem_nil, or_false] at hy
    rcases hy with rfl | rfl | rfl | rfl | rfl | rfl
    · exact zsb_sel (y2 := ⟨"java/lang/AbstractStringBuilder", "isLatin1", "()Z"⟩) ⟨by decide, by decide⟩ rfl h2 (hts _ (zv3 213 rfl)) (hts _ (zv3 214 rfl)) h3
    · exact zsb_sel (y2 := ⟨"java/lang/AbstractStringBuilder", "isLatin1", "()Z"⟩) ⟨by decide, by decide⟩ rfl h2 (hts _ (zv3 217 rfl)) (hts _ (zv3 218 rfl)) h3
    · exact zsb_sel (y2 := ⟨"java/lang/AbstractStringBuilder", "isLatin1", "()Z"⟩) ⟨by decide, by decide⟩ rfl h2 (hts _ (zv4 44 rfl)) (hts _ (zv4 45 rfl)) h3
    · exact zsb_sel (y2 := ⟨"java/lang/AbstractStringBuilder", "isLatin1", "()Z"⟩) ⟨by decide, by decide⟩ rfl h2 (hts _ (zv4 83 rfl)) (hts _ (zv4 84 rfl)) h3
    · exact zsb_sel (y2 := ⟨"java/lang/AbstractStringBuilder", "isLatin1", "()Z"⟩) ⟨by decide, by decide⟩ rfl h2 (hts _ (zv4 87 rfl)) (hts _ (zv4 88 rfl)) h3
    · exact zsb_sel (y2 := ⟨"java/lang/AbstractStringBuilder", "isLatin1", "()Z"⟩) ⟨by decide, by decide⟩ rfl h2 (hts _ (zv4 92 rfl)) (hts _ (zv4 93 rfl)) h3
-- 
def zT0 : u_T := fun k => match k with
  | 0 => ("java/lang/AbstractStringBuilder", "value", "[B", false)
  | 1 => ("java/lang/AbstractStringBuilder", "coder", "B", false)
  | 2 => ("java/lang/AbstractStringBuilder", "maybeLatin1", "Z", false)
  | _ => ("java/lang/AbstractStringBuilder", "count", "I", false)
def zty0 : Nat → FieldType := fun k => match k with
  | 0 => .array .byte
  | 1 => .byte
  | 2 => .boolean
  | _ => .int
theorem znm0 : ∀ a, a < 4 → ∀ b, b < 4 → a ≠ b → (zT0 a).2.1 ≠ (zT0 b).2.1 := by decide +kernel
theorem zty0_ok : ∀ k, k < 4 → parseFieldDescriptor (zT0 k).2.2.1 = some (zty0 k) := by decide +kernel
def zT1 : u_T := fun k => match k with
  | 0 => ("PayrollRun$Books", "workers", "[LPayrollRun$Worker;", true)
  | 1 => ("PayrollRun$Books", "rules", "LPayrollRun$Rules;", true)
  | 2 => ("PayrollRun$Books", "closedMonths", "I", false)
  | 3 => ("PayrollRun$Books", "years", "I", false)
  | _ => ("PayrollRun$Books", "ruleSetSinceClosing", "Z", false)
def zty1 : Nat → FieldType := fun k => match k with
  | 0 => .array (.object "PayrollRun$Worker")
  | 1 => .object "PayrollRun$Rules"
  | 2 => .int
  | 3 => .int
  | _ => .boolean
theorem znm1 : ∀ a, a < 5 → ∀ b, b < 5 → a ≠ b → (zT1 a).2.1 ≠ (zT1 b).2.1 := by decide +kernel
theorem zty1_ok : ∀ k, k < 5 → parseFieldDescriptor (zT1 k).2.2.1 = some (zty1 k) := by decide +kernel
def zT2 : u_T := fun k => match k with
  | _ => ("PayrollRun$Closing", "dues", "[J", true)
def zty2 : Nat → FieldType := fun k => match k with
  | _ => .array .long
theorem znm2 : ∀ a, a < 1 → ∀ b, b < 1 → a ≠ b → (zT2 a).2.1 ≠ (zT2 b).2.1 := by decide +kernel
theorem zty2_ok : ∀ k, k < 1 → parseFieldDescriptor (zT2 k).2.2.1 = some (zty2 k) := by decide +kernel
def zT3 : u_T := fun k => match k with
  | 0 => ("PayrollRun$CommandText", "signs", "[C", true)
  | 1 => ("PayrollRun$CommandText", "length", "I", false)
  | 2 => ("PayrollRun$CommandText", "count", "I", false)
  | 3 => ("PayrollRun$CommandText", "words", "[I", true)
  | 4 => ("PayrollRun$CommandText", "starts", "[I", true)
  | _ => ("PayrollRun$CommandText", "numbers", "[I", true)
def zty3 : Nat → FieldType := fun k => match k with
  | 0 => .array .char
  | 1 => .int
  | 2 => .int
  | 3 => .array .int
  | 4 => .array .int
  | _ => .array .int
theorem znm3 : ∀ a, a < 6 → ∀ b, b < 6 → a ≠ b → (zT3 a).2.1 ≠ (zT3 b).2.1 := by decide +kernel
theorem zty3_ok : ∀ k, k < 6 → parseFieldDescriptor (zT3 k).2.2.1 = some (zty3 k) := by decide +kernel
def zT4 : u_T := fun k => match k with
  | 0 => ("PayrollRun$Garnishments", "kinds", "[I", true)
  | 1 => ("PayrollRun$Garnishments", "sizes", "[I", true)
  | 2 => ("PayrollRun$Garnishments", "debts", "[I", true)
  | 3 => ("PayrollRun$Garnishments", "rests", "[J", true)
  | _ => ("PayrollRun$Garnishments", "count", "I", false)
def zty4 : Nat → FieldType := fun k => match k with
  | 0 => .array .int
  | 1 => .array .int
  | 2 => .array .int
  | 3 => .array .long
  | _ => .int
theorem znm4 : ∀ a, a < 5 → ∀ b, b < 5 → a ≠ b → (zT4 a).2.1 ≠ (zT4 b).2.1 := by decide +kernel
theorem zty4_ok : ∀ k, k < 5 → parseFieldDescriptor (zT4 k).2.2.1 = some (zty4 k) := by decide +kernel
def zT5 : u_T := fun k => match k with
  | 0 => ("PayrollRun$History", "places", "[LPayrollRun$Books;", true)
  | 1 => ("PayrollRun$History", "next", "I", false)
  | _ => ("PayrollRun$History", "count", "I", false)
def zty5 : Nat → FieldType := fun k => match k with
  | 0 => .array (.object "PayrollRun$Books")
  | 1 => .int
  | _ => .int
theorem znm5 : ∀ a, a < 3 → ∀ b, b < 3 → a ≠ b → (zT5 a).2.1 ≠ (zT5 b).2.1 := by decide +kernel
theorem zty5_ok : ∀ k, k < 3 → parseFieldDescriptor (zT5 k).2.2.1 = some (zty5 k) := by decide +kernel
def zT6 : u_T := fun k => match k with
  | 0 => ("PayrollRun$Rules", "rates", "[I", true)
  | 1 => ("PayrollRun$Rules", "caps", "[I", true)
  | 2 => ("PayrollRun$Rules", "thresholds", "[I", true)
  | 3 => ("PayrollRun$Rules", "bracketRates", "[I", true)
  | _ => ("PayrollRun$Rules", "brackets", "I", false)
def zty6 : Nat → FieldType := fun k => match k with
  | 0 => .array .int
  | 1 => .array .int
  | 2 => .array .int
  | 3 => .array .int
  | _ => .int
theorem znm6 : ∀ a, a < 5 → ∀ b, b < 5 → a ≠ b → (zT6 a).2.1 ≠ (zT6 b).2.1 := by decide +kernel
theorem zty6_ok : ∀ k, k < 5 → parseFieldDescriptor (zT6 k).2.2.1 = some (zty6 k) := by decide +kernel
def zT7 : u_T := fun k => match k with
  | 0 => ("PayrollRun$Slip", "parts", "[I", true)
  | 1 => ("PayrollRun$Slip", "amounts", "[J", true)
  | 2 => ("PayrollRun$Slip", "count", "I", false)
  | _ => ("PayrollRun$Slip", "sum", "J", false)
def zty7 : Nat → FieldType := fun k => match k with
  | 0 => .array .int
  | 1 => .array .long
  | 2 => .int
  | _ => .long
theorem znm7 : ∀ a, a < 4 → ∀ b, b < 4 → a ≠ b → (zT7 a).2.1 ≠ (zT7 b).2.1 := by decide +kernel
theorem zty7_ok : ∀ k, k < 4 → parseFieldDescriptor (zT7 k).2.2.1 = some (zty7 k) := by decide +kernel
def zT8 : u_T := fun k => match k with
  | 0 => ("PayrollRun$SlipText", "text", "Ljava/lang/StringBuilder;", true)
  | _ => ("PayrollRun$SlipText", "digits", "[C", true)
def zty8 : Nat → FieldType := fun k => match k with
  | 0 => .object "java/lang/StringBuilder"
  | _ => .array .char
theorem znm8 : ∀ a, a < 2 → ∀ b, b < 2 → a ≠ b → (zT8 a).2.1 ≠ (zT8 b).2.1 := by decide +kernel
theorem zty8_ok : ∀ k, k < 2 → parseFieldDescriptor (zT8 k).2.2.1 = some (zty8 k) := by decide +kernel
def zT9 : u_T := fun k => match k with
  | 0 => ("PayrollRun$Trial", "closing", "LPayrollRun$Closing;", true)
  | 1 => ("PayrollRun$Trial", "worker", "LPayrollRun$Worker;", true)
  | _ => ("PayrollRun$Trial", "slip", "LPayrollRun$Slip;", true)
def zty9 : Nat → FieldType := fun k => match k with
  | 0 => .object "PayrollRun$Closing"
  | 1 => .object "PayrollRun$Worker"
  | _ => .object "PayrollRun$Slip"
theorem znm9 : ∀ a, a < 3 → ∀ b, b < 3 → a ≠ b → (zT9 a).2.1 ≠ (zT9 b).2.1 := by decide +kernel
theorem zty9_ok : ∀ k, k < 3 → parseFieldDescriptor (zT9 k).2.2.1 = some (zty9 k) := by decide +kernel
def zT10 : u_T := fun k => match k with
  | 0 => ("PayrollRun$Worker", "entries", "[I", true)
  | 1 => ("PayrollRun$Worker", "settledEntries", "[I", true)
  | 2 => ("PayrollRun$Worker", "settledAmounts", "[J", true)
  | 3 => ("PayrollRun$Worker", "slips", "[LPayrollRun$Slip;", true)
  | 4 => ("PayrollRun$Worker", "garnishments", "LPayrollRun$Garnishments;", true)
  | 5 => ("PayrollRun$Worker", "floor", "I", false)
  | _ => ("PayrollRun$Worker", "owed", "J", false)
def zty10 : Nat → FieldType := fun k => match k with
  | 0 => .array .int
  | 1 => .array .int
  | 2 => .array .long
  | 3 => .array (.object "PayrollRun$Slip")
  | 4 => .object "PayrollRun$Garnishments"
  | 5 => .int
  | _ => .long
theorem znm10 : ∀ a, a < 7 → ∀ b, b < 7 → a ≠ b → (zT10 a).2.1 ≠ (zT10 b).2.1 := by decide +kernel
theorem zty10_ok : ∀ k, k < 7 → parseFieldDescriptor (zT10 k).2.2.1 = some (zty10 k) := by decide +kernel
def zT11 : u_T := fun k => match k with
  | 0 => ("PayrollRun", "now", "LPayrollRun$Books;", true)
  | 1 => ("PayrollRun", "history", "LPayrollRun$History;", true)
  | 2 => ("PayrollRun", "snapshot", "LPayrollRun$Books;", true)
  | 3 => ("PayrollRun", "saved", "Z", false)
  | 4 => ("PayrollRun", "commands", "LPayrollRun$CommandText;", true)
  | 5 => ("PayrollRun", "closing", "LPayrollRun$Closing;", true)
  | 6 => ("PayrollRun", "trial", "LPayrollRun$Trial;", true)
  | _ => ("PayrollRun", "text", "LPayrollRun$SlipText;", true)
def zty11 : Nat → FieldType := fun k => match k with
  | 0 => .object "PayrollRun$Books"
  | 1 => .object "PayrollRun$History"
  | 2 => .object "PayrollRun$Books"
  | 3 => .boolean
  | 4 => .object "PayrollRun$CommandText"
  | 5 => .object "PayrollRun$Closing"
  | 6 => .object "PayrollRun$Trial"
  | _ => .object "PayrollRun$SlipText"
theorem znm11 : ∀ a, a < 8 → ∀ b, b < 8 → a ≠ b → (zT11 a).2.1 ≠ (zT11 b).2.1 := by decide +kernel
theorem zty11_ok : ∀ k, k < 8 → parseFieldDescriptor (zT11 k).2.2.1 = some (zty11 k) := by decide +kernel
def zT12 : u_T := fun k => match k with
  | 0 => ("PayrollRunModel", "s", "[J", true)
  | 1 => ("PayrollRunModel", "saved", "[J", true)
  | 2 => ("PayrollRunModel", "isSaved", "Z", false)
  | 3 => ("PayrollRunModel", "past", "[J", true)
  | 4 => ("PayrollRunModel", "pastMany", "I", false)
  | 5 => ("PayrollRunModel", "kept", "[J", true)
  | 6 => ("PayrollRunModel", "before", "[J", true)
  | 7 => ("PayrollRunModel", "isQuiet", "Z", false)
  | 8 => ("PayrollRunModel", "written", "[C", true)
  | 9 => ("PayrollRunModel", "writtenMany", "I", false)
  | 10 => ("PayrollRunModel", "text", "[C", true)
  | 11 => ("PayrollRunModel", "length", "I", false)
  | 12 => ("PayrollRunModel", "place", "I", false)
  | 13 => ("PayrollRunModel", "isWrong", "Z", false)
  | _ => ("PayrollRunModel", "numbers", "[I", true)
def zty12 : Nat → FieldType := fun k => match k with
  | 0 => .array .long
  | 1 => .array .long
  | 2 => .boolean
  | 3 => .array .long
  | 4 => .int
  | 5 => .array .long
  | 6 => .array .long
  | 7 => .boolean
  | 8 => .array .char
  | 9 => .int
  | 10 => .array .char
  | 11 => .int
  | 12 => .int
  | 13 => .boolean
  | _ => .array .int
theorem znm12 : ∀ a, a < 15 → ∀ b, b < 15 → a ≠ b → (zT12 a).2.1 ≠ (zT12 b).2.1 := by decide +kernel
theorem zty12_ok : ∀ k, k < 15 → parseFieldDescriptor (zT12 k).2.2.1 = some (zty12 k) := by decide +kernel
def zcl : List vw_C := [("java/lang/StringBuilder", zT0, 4), ("PayrollRun$Books", zT1, 5), ("PayrollRun$Closing", zT2, 1), ("PayrollRun$CommandText", zT3, 6), ("PayrollRun$Garnishments", zT4, 5), ("PayrollRun$History", zT5, 3), ("PayrollRun$Rules", zT6, 5), ("PayrollRun$Slip", zT7, 4), ("PayrollRun$SlipText", zT8, 2), ("PayrollRun$Trial", zT9, 3), ("PayrollRun$Worker", zT10, 7), ("PayrollRun", zT11, 8), ("PayrollRunModel", zT12, 15)]
def ztl : List (Nat → FieldType) := [zty0, zty1, zty2, zty3, zty4, zty5, zty6, zty7, zty8, zty9, zty10, zty11, zty12]
/-- the arrays: a tag is a place here -/
def ztag : List FieldType := [.int, .long, .char, .byte, .object "PayrollRun$Worker", .object "PayrollRun$Slip", .object "PayrollRun$Books", .object "java/lang/String"]
def zKEY : Nat := 2000
def zst_0 : List (Nat × Nat × Nat × Nat × Nat) := [(1, 7, 1, 0, 0),
  (9, 2, 2, 0, 0),
  (18, 2, 6, 0, 0),
  (32, 4, 7, 0, 0),
  (39, 4, 8, 0, 0),
  (46, 4, 9, 0, 0),
  (53, 4, 11, 0, 0),
  (4003, 7, 1, 0, 0),
  (4019, 4, 3, 0, 0),
  (4035, 2, 4, 0, 0),
  (6003, 7, 1, 0, 0),
  (8003, 7, 1, 0, 0),
  (8030, 4, 5, 0, 0),
  (10003, 7, 1, 0, 0),
  (12003, 7, 1, 0, 0),
  (12024, 2, 2, 0, 0),
  (14003, 7, 1, 0, 0),
  (16003, 7, 1, 0, 0),
  (18003, 7, 1, 0, 0),
  (18011, 4, 8, 0, 0),
  (18020, 2, 4, 0, 0),
  (18027, 4, 10, 0, 0),
  (20003, 7, 1, 0, 0),
  (22003, 7, 1, 0, 0),
  (22011, 2, 12, 0, 0),
  (24001, 2, 13, 1, 0),
  (26003, 7, 1, 0, 0),
  (26026, 0, 14, 1, 0),
  (28011, 0, 15, 1, 0),
  (32058, 1, 17, 1, 5),
  (32062, 1, 22, 3, 1),
  (32066, 1, 26, 1, 11),
  (34025, 1, 18, 1, 1),
  (36036, 1, 19, 1, 10),
  (36040, 1, 21, 1, 6),
  (38043, 8, 0, 5, 0),
  (38049, 1, 20, 1, 4),
  (40029, 8, 0, 5, 0),
  (42029, 8, 0, 5, 0),
  (44043, 3, 23, 1, 0),
  (44047, 3, 25, 1, 0),
  (44050, 3, 24, 3, 0),
  (46123, 0, 24, 3, 0),
  (50123, 0, 24, 3, 0),
  (52291, 1, 27, 0, 5),
  (54029, 9, 28, 2, 1),
  (58058, 1, 17, 1, 5),
  (58066, 1, 26, 1, 11),
  (58070, 1, 30, 3, 1),
  (60043, 3, 23, 1, 0),
  (60047, 3, 25, 1, 0),
  (60050, 3, 24, 3, 0),
  (62058, 1, 17, 1, 5),
  (62066, 1, 26, 1, 11),
  (62073, 1, 32, 3, 1),
  (64043, 3, 23, 1, 0),
  (64047, 3, 25, 1, 0),
  (64050, 3, 24, 3, 0),
  (66058, 1, 17, 1, 5),
  (66066, 1, 26, 1, 11),
  (66076, 1, 34, 2, 1),
  (68043, 3, 23, 1, 0),
  (68050, 3, 24, 3, 0),
  (70058, 1, 17, 1, 5),
  (70066, 1, 26, 1, 11),
  (70080, 1, 36, 2, 1),
  (72050, 3, 24, 3, 0),
  (74058, 1, 17, 1, 5),
  (74066, 1, 26, 1, 11),
  (74083, 1, 38, 2, 1),
  (76050, 3, 24, 3, 0),
  (78058, 1, 17, 1, 5),
  (78066, 1, 26, 1, 11),
  (78086, 1, 40, 2, 1),
  (80050, 3, 24, 3, 0),
  (80068, 1, 41, 0, 6),
  (82035, 3, 24, 3, 0),
  (84058, 1, 17, 1, 5),
  (84066, 1, 26, 1, 11),
  (84089, 1, 43, 0, 1),
  (88058, 1, 17, 1, 5),
  (88066, 1, 26, 1, 11),
  (88093, 1, 45, 3, 1),
  (90043, 3, 23, 1, 0),
  (90050, 3, 24, 3, 0),
  (90087, 1, 46, 3, 4),
  (94058, 1, 17, 1, 5),
  (94066, 1, 26, 1, 11),
  (94096, 1, 48, 3, 1),
  (96043, 3, 23, 1, 0),
  (96050, 3, 24, 3, 0),
  (96087, 1, 46, 3, 4),
  (98058, 1, 17, 1, 5),
  (98066, 1, 26, 1, 11),
  (98099, 1, 50, 2, 1),
  (100043, 3, 23, 1, 0),
  (100091, 1, 51, 1, 4),
  (100094, 1, 52, 1, 4),
  (104037, 1, 53, 2, 4),
  (106041, 1, 54, 2, 4)]
def zst_1 : List (Nat × Nat × Nat × Nat × Nat) := [(108044, 1, 51, 1, 4),
  (110058, 1, 17, 1, 5),
  (110066, 1, 26, 1, 11),
  (110102, 1, 56, 3, 1),
  (112043, 3, 23, 1, 0),
  (112091, 1, 51, 1, 4),
  (112098, 1, 53, 2, 4),
  (114058, 1, 17, 1, 5),
  (114066, 1, 26, 1, 11),
  (114105, 1, 58, 1, 1),
  (116047, 3, 25, 1, 0),
  (116107, 4, 10, 0, 0),
  (116108, 1, 59, 5, 2),
  (118015, 3, 25, 1, 0),
  (118019, 1, 60, 2, 6),
  (118025, 1, 66, 2, 2),
  (118029, 1, 69, 4, 2),
  (118033, 1, 71, 2, 10),
  (118043, 1, 68, 4, 7),
  (118058, 9, 72, 2, 3),
  (118064, 9, 73, 2, 2),
  (118071, 1, 74, 3, 2),
  (120039, 1, 61, 1, 10),
  (120045, 1, 63, 2, 6),
  (122056, 3, 62, 3, 0),
  (126051, 1, 64, 2, 6),
  (126054, 1, 65, 1, 6),
  (132043, 1, 68, 4, 7),
  (132075, 0, 67, 2, 0),
  (138043, 1, 68, 4, 7),
  (138075, 0, 67, 2, 0),
  (138079, 1, 70, 2, 10),
  (148043, 1, 68, 4, 7),
  (148058, 9, 72, 2, 3),
  (148094, 1, 75, 2, 4),
  (148097, 0, 76, 3, 0),
  (150050, 9, 72, 2, 3),
  (154058, 1, 17, 1, 5),
  (154066, 1, 26, 1, 11),
  (154109, 1, 78, 0, 1),
  (156118, 1, 79, 0, 10),
  (158053, 1, 80, 0, 4),
  (160041, 1, 54, 2, 4),
  (164116, 0, 23, 1, 0),
  (164120, 0, 25, 1, 0),
  (164123, 0, 24, 3, 0),
  (166116, 0, 23, 1, 0),
  (166144, 1, 84, 2, 6),
  (168035, 3, 24, 3, 0),
  (170116, 0, 23, 1, 0),
  (170158, 1, 51, 1, 4),
  (172116, 0, 23, 1, 0),
  (172158, 1, 51, 1, 4),
  (174116, 0, 23, 1, 0),
  (174120, 0, 25, 1, 0),
  (174123, 0, 24, 3, 0),
  (174179, 1, 60, 2, 6),
  (176116, 0, 23, 1, 0),
  (176120, 0, 25, 1, 0),
  (176123, 0, 24, 3, 0),
  (178116, 0, 23, 1, 0),
  (178179, 1, 60, 2, 6),
  (180116, 0, 23, 1, 0),
  (182116, 0, 23, 1, 0),
  (182120, 0, 25, 1, 0),
  (184116, 0, 23, 1, 0),
  (184120, 0, 25, 1, 0),
  (184123, 0, 24, 3, 0),
  (184201, 1, 93, 1, 7),
  (186027, 3, 24, 3, 0),
  (188116, 0, 23, 1, 0),
  (188120, 0, 25, 1, 0),
  (188201, 1, 93, 1, 7),
  (190116, 0, 23, 1, 0),
  (190120, 0, 25, 1, 0),
  (190208, 1, 96, 1, 8),
  (190212, 1, 142, 1, 8),
  (192026, 1, 97, 0, 8),
  (192043, 1, 111, 4, 8),
  (194022, 1, 98, 1, 0),
  (196333, 6, 99, 1, 0),
  (198083, 5, 106, 0, 0),
  (198100, 5, 100, 1, 0),
  (198133, 0, 107, 3, 0),
  (198137, 0, 110, 3, 0),
  (200104, 5, 101, 1, 0),
  (200108, 0, 105, 2, 0),
  (202114, 0, 102, 3, 0),
  (204194, 9, 103, 2, 0),
  (204201, 0, 104, 2, 0),
  (210150, 8, 0, 5, 0),
  (210304, 9, 28, 2, 1),
  (214236, 0, 108, 4, 0),
  (216013, 0, 109, 3, 0),
  (220380, 0, 108, 4, 0),
  (222047, 0, 112, 1, 0),
  (222051, 1, 113, 1, 0),
  (222055, 1, 133, 1, 0),
  (222058, 1, 140, 1, 8),
  (226029, 6, 114, 1, 0)]
def zst_2 : List (Nat × Nat × Nat × Nat × Nat) := [(228032, 1, 122, 0, 13),
  (228100, 5, 100, 1, 0),
  (228204, 5, 115, 0, 0),
  (228208, 5, 124, 2, 0),
  (230083, 5, 106, 0, 0),
  (230100, 5, 100, 1, 0),
  (230226, 0, 116, 6, 0),
  (232096, 0, 117, 3, 0),
  (232111, 0, 121, 3, 0),
  (234048, 0, 118, 1, 0),
  (234241, 0, 119, 3, 0),
  (239062, 0, 120, 4, 0),
  (242048, 0, 118, 1, 0),
  (244335, 1, 123, 0, 13),
  (248397, 5, 125, 1, 0),
  (248399, 1, 132, 3, 13),
  (250040, 1, 123, 0, 13),
  (250195, 5, 126, 0, 0),
  (252026, 0, 14, 1, 0),
  (252083, 5, 106, 0, 0),
  (252125, 0, 127, 5, 0),
  (254240, 0, 128, 5, 0),
  (256111, 0, 121, 3, 0),
  (256173, 0, 129, 3, 0),
  (258048, 0, 118, 1, 0),
  (258419, 0, 130, 3, 0),
  (261065, 0, 131, 4, 0),
  (264106, 0, 127, 5, 0),
  (264212, 8, 0, 5, 0),
  (264335, 1, 123, 0, 13),
  (266050, 6, 134, 1, 0),
  (268083, 5, 106, 0, 0),
  (268100, 5, 100, 1, 0),
  (268191, 0, 135, 1, 0),
  (268195, 5, 126, 0, 0),
  (268197, 0, 136, 3, 0),
  (272067, 0, 137, 2, 0),
  (272111, 0, 121, 3, 0),
  (274048, 0, 118, 1, 0),
  (274414, 0, 138, 2, 0),
  (277059, 0, 139, 3, 0),
  (280055, 1, 133, 1, 0),
  (280074, 9, 141, 1, 4),
  (284062, 1, 143, 0, 0),
  (284066, 3, 24, 3, 0),
  (284070, 1, 145, 1, 0),
  (286343, 6, 144, 0, 0),
  (290329, 6, 146, 1, 0),
  (292138, 9, 28, 2, 1),
  (292144, 0, 138, 2, 0),
  (292148, 0, 147, 2, 0),
  (294048, 0, 118, 1, 0),
  (296116, 0, 23, 1, 0),
  (296120, 0, 25, 1, 0),
  (296215, 1, 149, 0, 7),
  (298031, 1, 93, 1, 7),
  (300116, 0, 23, 1, 0),
  (300219, 1, 151, 3, 9),
  (302038, 3, 25, 1, 0),
  (302048, 1, 19, 1, 10),
  (302056, 1, 152, 2, 9),
  (304060, 1, 153, 0, 7),
  (304071, 1, 59, 5, 2),
  (304075, 1, 149, 0, 7),
  (308116, 0, 23, 1, 0),
  (308219, 1, 151, 3, 9),
  (310116, 0, 23, 1, 0),
  (310123, 0, 24, 3, 0),
  (310226, 1, 156, 3, 9),
  (312038, 3, 25, 1, 0),
  (312079, 1, 157, 1, 10),
  (312083, 1, 63, 2, 6),
  (312089, 3, 62, 3, 0),
  (314060, 1, 61, 1, 10),
  (316116, 0, 23, 1, 0),
  (316230, 1, 159, 1, 10),
  (316234, 1, 162, 2, 9),
  (318064, 1, 160, 1, 10),
  (320067, 1, 161, 1, 7),
  (324048, 1, 19, 1, 10),
  (324056, 1, 152, 2, 9),
  (326116, 0, 23, 1, 0),
  (326123, 0, 24, 3, 0),
  (326230, 1, 159, 1, 10),
  (328116, 0, 23, 1, 0),
  (328123, 0, 24, 3, 0),
  (328238, 1, 165, 2, 1),
  (330121, 1, 157, 1, 10),
  (330125, 1, 63, 2, 6),
  (332120, 0, 25, 1, 0),
  (332123, 0, 24, 3, 0),
  (332245, 1, 167, 2, 1),
  (334129, 1, 161, 1, 7),
  (336116, 0, 23, 1, 0),
  (336212, 1, 142, 1, 8),
  (336230, 1, 159, 1, 10),
  (336238, 1, 165, 2, 1),
  (336248, 1, 97, 0, 8),
  (336257, 1, 111, 4, 8),
  (338116, 0, 23, 1, 0)]
def zst_3 : List (Nat × Nat × Nat × Nat × Nat) := [(338261, 1, 170, 0, 10),
  (340068, 1, 149, 0, 7),
  (342116, 0, 23, 1, 0),
  (342120, 0, 25, 1, 0),
  (342264, 1, 172, 1, 7),
  (346267, 1, 174, 1, 3),
  (348032, 3, 24, 3, 0),
  (350058, 1, 17, 1, 5),
  (350066, 1, 26, 1, 11),
  (350270, 1, 176, 0, 3),
  (350273, 1, 191, 0, 3),
  (350275, 1, 192, 1, 11),
  (350278, 1, 195, 1, 5),
  (350281, 1, 196, 1, 3),
  (352036, 1, 177, 1, 3),
  (352040, 0, 189, 1, 0),
  (352044, 0, 190, 1, 0),
  (354040, 0, 189, 1, 0),
  (354047, 1, 178, 1, 3),
  (354050, 1, 180, 2, 3),
  (354054, 0, 187, 1, 0),
  (354060, 1, 188, 2, 3),
  (356063, 1, 179, 3, 3),
  (358032, 3, 24, 3, 0),
  (360067, 0, 181, 1, 0),
  (360071, 1, 182, 3, 3),
  (364075, 1, 122, 0, 13),
  (364080, 1, 183, 1, 13),
  (366492, 1, 184, 0, 13),
  (366495, 0, 185, 2, 0),
  (366498, 0, 186, 2, 0),
  (370009, 0, 138, 2, 0),
  (372067, 0, 137, 2, 0),
  (372071, 0, 147, 2, 0),
  (376054, 0, 187, 1, 0),
  (376063, 1, 179, 3, 3),
  (384062, 1, 22, 3, 1),
  (384070, 1, 30, 3, 1),
  (384073, 1, 32, 3, 1),
  (384076, 1, 34, 2, 1),
  (384080, 1, 36, 2, 1),
  (384083, 1, 38, 2, 1),
  (384086, 1, 40, 2, 1),
  (384093, 1, 45, 3, 1),
  (384096, 1, 48, 3, 1),
  (384099, 1, 50, 2, 1),
  (384102, 1, 56, 3, 1),
  (384105, 1, 58, 1, 1),
  (384294, 1, 193, 2, 3),
  (384297, 1, 194, 1, 3),
  (386032, 3, 24, 3, 0),
  (388032, 3, 24, 3, 0),
  (390025, 1, 18, 1, 1),
  (392032, 3, 24, 3, 0),
  (394284, 1, 18, 1, 1),
  (396058, 1, 17, 1, 5),
  (396066, 1, 26, 1, 11),
  (396284, 1, 18, 1, 1),
  (398287, 1, 200, 1, 5),
  (400025, 1, 18, 1, 1),
  (402003, 7, 1, 0, 0),
  (402039, 0, 202, 2, 0),
  (406039, 0, 202, 2, 0),
  (406045, 0, 205, 3, 0),
  (406071, 0, 204, 1, 0),
  (406075, 0, 206, 1, 0),
  (406078, 1, 207, 2, 12),
  (408045, 0, 205, 3, 0),
  (412045, 0, 205, 3, 0),
  (414068, 1, 208, 0, 12),
  (416053, 1, 209, 1, 12),
  (418062, 8, 0, 5, 0),
  (420039, 0, 202, 2, 0),
  (420045, 0, 205, 3, 0),
  (420071, 0, 204, 1, 0),
  (420075, 0, 206, 1, 0),
  (420078, 1, 207, 2, 12),
  (422039, 0, 202, 2, 0),
  (422045, 0, 205, 3, 0),
  (422071, 0, 204, 1, 0),
  (422075, 0, 206, 1, 0),
  (422078, 1, 207, 2, 12),
  (424039, 0, 202, 2, 0),
  (424045, 0, 205, 3, 0),
  (424071, 0, 204, 1, 0),
  (424078, 1, 207, 2, 12),
  (426045, 0, 205, 3, 0),
  (426081, 1, 214, 2, 12),
  (428078, 1, 207, 2, 12),
  (430045, 0, 205, 3, 0),
  (430081, 1, 214, 2, 12),
  (432045, 0, 205, 3, 0),
  (432081, 1, 214, 2, 12),
  (434081, 1, 214, 2, 12),
  (436045, 0, 205, 3, 0),
  (436071, 0, 204, 1, 0),
  (436091, 1, 219, 4, 12),
  (438039, 0, 202, 2, 0),
  (438078, 1, 207, 2, 12),
  (438085, 1, 220, 2, 12)]
def zst_4 : List (Nat × Nat × Nat × Nat × Nat) := [(440039, 0, 202, 2, 0),
  (442045, 0, 205, 3, 0),
  (442071, 0, 204, 1, 0),
  (442091, 1, 219, 4, 12),
  (444039, 0, 202, 2, 0),
  (444078, 1, 207, 2, 12),
  (444085, 1, 220, 2, 12),
  (444095, 1, 223, 2, 12),
  (444099, 1, 224, 3, 12),
  (446071, 0, 204, 1, 0),
  (446085, 1, 220, 2, 12),
  (448039, 0, 202, 2, 0),
  (450068, 1, 208, 0, 12),
  (450085, 1, 220, 2, 12),
  (450095, 1, 223, 2, 12),
  (450099, 1, 224, 3, 12),
  (452068, 1, 208, 0, 12),
  (452164, 1, 227, 0, 12),
  (452171, 1, 228, 0, 12),
  (456164, 1, 227, 0, 12),
  (456168, 1, 229, 2, 12),
  (458039, 0, 202, 2, 0),
  (458085, 1, 220, 2, 12),
  (458106, 9, 72, 2, 3),
  (458118, 9, 73, 2, 2),
  (458136, 1, 231, 3, 12),
  (458140, 1, 237, 6, 12),
  (458154, 1, 230, 2, 12),
  (458157, 1, 242, 2, 12),
  (458160, 1, 243, 3, 12),
  (460136, 1, 231, 3, 12),
  (460140, 1, 237, 6, 12),
  (460144, 1, 239, 3, 12),
  (460147, 1, 240, 2, 12),
  (460150, 1, 241, 2, 12),
  (462125, 1, 232, 2, 12),
  (462128, 1, 234, 2, 12),
  (464103, 1, 233, 2, 12),
  (466085, 1, 220, 2, 12),
  (468114, 1, 235, 2, 12),
  (468121, 1, 236, 1, 12),
  (470106, 9, 72, 2, 3),
  (472106, 9, 72, 2, 3),
  (472114, 1, 235, 2, 12),
  (472118, 9, 73, 2, 2),
  (474039, 0, 202, 2, 0),
  (474085, 1, 220, 2, 12),
  (474132, 0, 238, 3, 0),
  (476039, 0, 202, 2, 0),
  (478039, 0, 202, 2, 0),
  (480085, 1, 220, 2, 12),
  (482039, 0, 202, 2, 0),
  (482085, 1, 220, 2, 12),
  (482136, 1, 231, 3, 12),
  (484085, 1, 220, 2, 12),
  (484132, 0, 238, 3, 0),
  (486039, 0, 202, 2, 0),
  (486085, 1, 220, 2, 12),
  (486106, 9, 72, 2, 3),
  (486140, 1, 237, 6, 12),
  (488039, 0, 202, 2, 0),
  (488068, 1, 208, 0, 12),
  (488085, 1, 220, 2, 12),
  (488099, 1, 224, 3, 12),
  (488164, 1, 227, 0, 12),
  (490164, 1, 227, 0, 12),
  (492045, 0, 205, 3, 0),
  (492071, 0, 204, 1, 0),
  (492075, 0, 206, 1, 0),
  (492085, 1, 220, 2, 12),
  (494045, 0, 205, 3, 0),
  (494085, 1, 220, 2, 12),
  (496045, 0, 205, 3, 0),
  (496071, 0, 204, 1, 0),
  (496085, 1, 220, 2, 12),
  (496095, 1, 223, 2, 12),
  (498085, 1, 220, 2, 12),
  (498095, 1, 223, 2, 12),
  (500045, 0, 205, 3, 0),
  (500071, 0, 204, 1, 0),
  (500075, 0, 206, 1, 0),
  (500136, 1, 231, 3, 12),
  (502045, 0, 205, 3, 0),
  (502144, 1, 239, 3, 12),
  (502176, 1, 252, 2, 12),
  (504071, 0, 204, 1, 0),
  (504075, 0, 206, 1, 0),
  (504164, 1, 227, 0, 12),
  (506071, 0, 204, 1, 0),
  (506136, 1, 231, 3, 12),
  (506144, 1, 239, 3, 12),
  (506164, 1, 227, 0, 12),
  (508071, 0, 204, 1, 0),
  (508085, 1, 220, 2, 12),
  (510085, 1, 220, 2, 12),
  (510176, 1, 252, 2, 12),
  (512045, 0, 205, 3, 0),
  (512132, 0, 238, 3, 0),
  (512176, 1, 252, 2, 12),
  (512183, 1, 257, 3, 12)]
def zst_5 : List (Nat × Nat × Nat × Nat × Nat) := [(514085, 1, 220, 2, 12),
  (516132, 0, 238, 3, 0),
  (516176, 1, 252, 2, 12),
  (516183, 1, 257, 3, 12),
  (518085, 1, 220, 2, 12),
  (518132, 0, 238, 3, 0),
  (518176, 1, 252, 2, 12),
  (518230, 1, 260, 4, 12),
  (518234, 1, 264, 1, 12),
  (520212, 1, 262, 1, 12),
  (520222, 1, 261, 1, 12),
  (520226, 1, 263, 1, 12),
  (522203, 1, 122, 0, 13),
  (522208, 1, 183, 1, 13),
  (522212, 1, 262, 1, 12),
  (526212, 1, 262, 1, 12),
  (528045, 0, 205, 3, 0),
  (530176, 1, 252, 2, 12),
  (530238, 1, 266, 2, 12),
  (532085, 1, 220, 2, 12),
  (532132, 0, 238, 3, 0),
  (534071, 0, 204, 1, 0),
  (534164, 1, 227, 0, 12),
  (534249, 1, 268, 2, 12),
  (536039, 0, 202, 2, 0),
  (536164, 1, 227, 0, 12),
  (536171, 1, 228, 0, 12),
  (536238, 1, 266, 2, 12),
  (536241, 1, 269, 0, 12),
  (536244, 1, 270, 0, 12),
  (538062, 8, 0, 5, 0),
  (540062, 8, 0, 5, 0),
  (542071, 0, 204, 1, 0),
  (542164, 1, 227, 0, 12),
  (542249, 1, 268, 2, 12),
  (544045, 0, 205, 3, 0),
  (544071, 0, 204, 1, 0),
  (544085, 1, 220, 2, 12),
  (544125, 1, 232, 2, 12),
  (544128, 1, 234, 2, 12),
  (544164, 1, 227, 0, 12),
  (546071, 0, 204, 1, 0),
  (546164, 1, 227, 0, 12),
  (546171, 1, 228, 0, 12),
  (546241, 1, 269, 0, 12),
  (546244, 1, 270, 0, 12),
  (546252, 1, 274, 1, 12),
  (548164, 1, 227, 0, 12),
  (548238, 1, 266, 2, 12),
  (550045, 0, 205, 3, 0),
  (550071, 0, 204, 1, 0),
  (550259, 1, 276, 2, 12),
  (552045, 0, 205, 3, 0),
  (552164, 1, 227, 0, 12),
  (552256, 1, 277, 3, 12),
  (554085, 1, 220, 2, 12),
  (554132, 0, 238, 3, 0),
  (556045, 0, 205, 3, 0),
  (556071, 0, 204, 1, 0),
  (556125, 1, 232, 2, 12),
  (556128, 1, 234, 2, 12),
  (556164, 1, 227, 0, 12),
  (558045, 0, 205, 3, 0),
  (558075, 0, 206, 1, 0),
  (558164, 1, 227, 0, 12),
  (558256, 1, 277, 3, 12),
  (560071, 0, 204, 1, 0),
  (560125, 1, 232, 2, 12),
  (560128, 1, 234, 2, 12),
  (560164, 1, 227, 0, 12),
  (560230, 1, 260, 4, 12),
  (560234, 1, 264, 1, 12),
  (560259, 1, 276, 2, 12),
  (562071, 0, 204, 1, 0),
  (562164, 1, 227, 0, 12),
  (562238, 1, 266, 2, 12),
  (564085, 1, 220, 2, 12),
  (564132, 0, 238, 3, 0),
  (564176, 1, 252, 2, 12),
  (566045, 0, 205, 3, 0),
  (568053, 1, 209, 1, 12),
  (568062, 8, 0, 5, 0),
  (568296, 1, 286, 0, 12),
  (568341, 1, 285, 1, 12),
  (570045, 0, 205, 3, 0),
  (570296, 1, 286, 0, 12),
  (570332, 1, 287, 1, 12),
  (570335, 1, 289, 1, 12),
  (570338, 1, 290, 1, 12),
  (574292, 1, 288, 2, 12),
  (576203, 1, 122, 0, 13),
  (576208, 1, 183, 1, 13),
  (578045, 0, 205, 3, 0),
  (578296, 1, 286, 0, 12),
  (580302, 1, 203, 3, 12),
  (580304, 1, 210, 3, 12),
  (580306, 1, 211, 3, 12),
  (580308, 1, 218, 3, 12),
  (580310, 1, 221, 3, 12),
  (580312, 1, 225, 3, 12)]
def zst_6 : List (Nat × Nat × Nat × Nat × Nat) := [(580315, 1, 212, 2, 12),
  (580318, 1, 213, 2, 12),
  (580321, 1, 215, 2, 12),
  (580324, 1, 216, 2, 12),
  (580326, 1, 222, 2, 12),
  (580329, 1, 226, 0, 12),
  (582062, 8, 0, 5, 0),
  (582164, 1, 227, 0, 12),
  (584062, 8, 0, 5, 0),
  (584068, 1, 208, 0, 12),
  (584164, 1, 227, 0, 12),
  (586062, 8, 0, 5, 0),
  (588009, 2, 0, 0, 0),
  (588012, 2, 201, 0, 0),
  (588013, 1, 16, 3, 11),
  (588017, 1, 203, 3, 12),
  (588018, 1, 29, 3, 11),
  (588021, 1, 210, 3, 12),
  (588022, 1, 31, 3, 11),
  (588025, 1, 211, 3, 12),
  (588026, 1, 33, 2, 11),
  (588030, 1, 212, 2, 12),
  (588031, 1, 35, 2, 11),
  (588034, 1, 213, 2, 12),
  (588035, 1, 37, 2, 11),
  (588038, 1, 215, 2, 12),
  (588039, 1, 39, 2, 11),
  (588042, 1, 216, 2, 12),
  (588043, 1, 42, 0, 11),
  (588047, 1, 217, 0, 12),
  (588048, 1, 44, 3, 11),
  (588051, 1, 218, 3, 12),
  (588052, 1, 47, 3, 11),
  (588055, 1, 221, 3, 12),
  (588056, 1, 49, 2, 11),
  (588059, 1, 222, 2, 12),
  (588060, 1, 55, 3, 11),
  (588063, 1, 225, 3, 12),
  (588064, 1, 57, 0, 11),
  (588067, 1, 226, 0, 12),
  (588068, 1, 77, 0, 11),
  (588071, 1, 244, 0, 12),
  (588072, 1, 81, 0, 11),
  (588075, 1, 245, 0, 12),
  (588076, 1, 82, 3, 11),
  (588079, 1, 246, 3, 12),
  (588080, 1, 83, 2, 11),
  (588083, 1, 247, 2, 12),
  (588084, 1, 85, 3, 11),
  (588087, 1, 248, 3, 12),
  (588088, 1, 86, 2, 11),
  (588092, 1, 249, 2, 12),
  (588093, 1, 87, 3, 11),
  (588097, 1, 250, 3, 12),
  (588098, 1, 88, 3, 11),
  (588101, 1, 251, 3, 12),
  (588102, 1, 89, 1, 11),
  (588106, 1, 253, 1, 12),
  (588107, 1, 90, 1, 11),
  (588110, 1, 254, 1, 12),
  (588111, 1, 91, 2, 11),
  (588114, 1, 255, 2, 12),
  (588115, 1, 92, 4, 11),
  (588119, 1, 256, 4, 12),
  (588120, 1, 94, 3, 11),
  (588123, 1, 258, 3, 12),
  (588124, 1, 95, 3, 11),
  (588127, 1, 259, 3, 12),
  (588128, 1, 148, 2, 11),
  (588131, 1, 265, 2, 12),
  (588132, 1, 150, 1, 11),
  (588135, 1, 267, 1, 12),
  (588136, 1, 154, 1, 11),
  (588139, 1, 271, 1, 12),
  (588140, 1, 155, 2, 11),
  (588143, 1, 272, 2, 12),
  (588144, 1, 158, 1, 11),
  (588147, 1, 273, 1, 12),
  (588148, 1, 163, 2, 11),
  (588151, 1, 275, 2, 12),
  (588152, 1, 164, 2, 11),
  (588155, 1, 278, 2, 12),
  (588156, 1, 166, 2, 11),
  (588159, 1, 279, 2, 12),
  (588160, 1, 168, 2, 11),
  (588163, 1, 280, 2, 12),
  (588164, 1, 169, 1, 11),
  (588168, 1, 281, 1, 12),
  (588169, 1, 171, 2, 11),
  (588172, 1, 282, 2, 12),
  (588173, 1, 173, 1, 11),
  (588176, 1, 283, 1, 12),
  (588177, 1, 175, 0, 11),
  (588180, 1, 284, 0, 12),
  (588181, 1, 197, 0, 11),
  (588184, 1, 291, 0, 12),
  (588185, 1, 198, 0, 11),
  (588188, 1, 292, 0, 12),
  (588189, 1, 199, 0, 11),
  (588192, 1, 293, 0, 12)]
def zst : List (Nat × Nat × Nat × Nat × Nat) := zst_0 ++ (zst_1 ++ (zst_2 ++ (zst_3 ++ (zst_4 ++ (zst_5 ++ (zst_6))))))
def zft_0 : List (Nat × Nat × Nat) := [(10, 11, 0),
  (19, 11, 1),
  (23, 11, 2),
  (26, 11, 3),
  (33, 11, 4),
  (40, 11, 5),
  (47, 11, 6),
  (54, 11, 7),
  (4011, 1, 0),
  (4020, 1, 1),
  (4024, 1, 2),
  (4028, 1, 3),
  (4031, 1, 4),
  (6009, 6, 0),
  (6016, 6, 1),
  (6019, 6, 2),
  (6022, 6, 3),
  (6025, 6, 4),
  (8009, 10, 0),
  (8015, 10, 1),
  (8018, 10, 2),
  (8024, 10, 3),
  (8031, 10, 4),
  (8035, 10, 5),
  (8039, 10, 6),
  (10009, 4, 0),
  (10015, 4, 1),
  (10018, 4, 2),
  (10021, 4, 3),
  (10025, 4, 4),
  (12013, 5, 0),
  (12017, 5, 1),
  (12021, 5, 2),
  (14011, 3, 0),
  (14015, 3, 1),
  (14019, 3, 2),
  (14022, 3, 3),
  (14026, 3, 4),
  (14029, 3, 5),
  (16009, 2, 0),
  (18012, 9, 0),
  (18021, 9, 1),
  (18028, 9, 2),
  (20011, 7, 0),
  (20015, 7, 1),
  (20019, 7, 2),
  (20023, 7, 3),
  (22012, 8, 0),
  (22018, 8, 1),
  (26015, 0, 0),
  (26022, 0, 1),
  (32010, 11, 0),
  (32019, 11, 1),
  (34013, 5, 0),
  (34017, 5, 1),
  (36011, 1, 0),
  (36020, 1, 1),
  (36024, 1, 2),
  (36028, 1, 3),
  (36031, 1, 4),
  (38009, 10, 0),
  (38015, 10, 1),
  (38018, 10, 2),
  (38024, 10, 3),
  (38031, 10, 4),
  (38035, 10, 5),
  (38039, 10, 6),
  (40009, 4, 0),
  (40015, 4, 1),
  (40018, 4, 2),
  (40021, 4, 3),
  (40025, 4, 4),
  (42009, 6, 0),
  (42016, 6, 1),
  (42019, 6, 2),
  (42022, 6, 3),
  (42025, 6, 4),
  (44011, 1, 0),
  (44054, 10, 0),
  (52019, 11, 1),
  (54017, 5, 1),
  (54021, 5, 2),
  (58010, 11, 0),
  (58019, 11, 1),
  (60011, 1, 0),
  (60054, 10, 0),
  (62010, 11, 0),
  (62019, 11, 1),
  (64011, 1, 0),
  (64054, 10, 0),
  (66010, 11, 0),
  (66019, 11, 1),
  (68011, 1, 0),
  (68058, 10, 5),
  (70010, 11, 0),
  (70019, 11, 1),
  (72020, 1, 1),
  (72031, 1, 4),
  (72061, 6, 0),
  (74010, 11, 0)]
def zft_1 : List (Nat × Nat × Nat) := [(74019, 11, 1),
  (76020, 1, 1),
  (76031, 1, 4),
  (76065, 6, 1),
  (78010, 11, 0),
  (78019, 11, 1),
  (80020, 1, 1),
  (80031, 1, 4),
  (80072, 6, 4),
  (80075, 6, 2),
  (80078, 6, 3),
  (82019, 6, 2),
  (82025, 6, 4),
  (84010, 11, 0),
  (84019, 11, 1),
  (86020, 1, 1),
  (86031, 1, 4),
  (86072, 6, 4),
  (88010, 11, 0),
  (88019, 11, 1),
  (90011, 1, 0),
  (90081, 10, 4),
  (92009, 4, 0),
  (92015, 4, 1),
  (92018, 4, 2),
  (92021, 4, 3),
  (92025, 4, 4),
  (94010, 11, 0),
  (94019, 11, 1),
  (96011, 1, 0),
  (96081, 10, 4),
  (98010, 11, 0),
  (98019, 11, 1),
  (100011, 1, 0),
  (100081, 10, 4),
  (102025, 4, 4),
  (104025, 4, 4),
  (108009, 4, 0),
  (108015, 4, 1),
  (108018, 4, 2),
  (108021, 4, 3),
  (110010, 11, 0),
  (110019, 11, 1),
  (112011, 1, 0),
  (112081, 10, 4),
  (112102, 4, 0),
  (114010, 11, 0),
  (114019, 11, 1),
  (114040, 11, 5),
  (116011, 1, 0),
  (116020, 1, 1),
  (116024, 1, 2),
  (116031, 1, 4),
  (116114, 10, 3),
  (118009, 2, 0),
  (118039, 10, 6),
  (118049, 7, 3),
  (118052, 10, 5),
  (118067, 10, 4),
  (122009, 10, 0),
  (128009, 6, 0),
  (128016, 6, 1),
  (130019, 6, 2),
  (130022, 6, 3),
  (130025, 6, 4),
  (132009, 2, 0),
  (136011, 7, 0),
  (136015, 7, 1),
  (136019, 7, 2),
  (136023, 7, 3),
  (138009, 2, 0),
  (138083, 10, 2),
  (140009, 10, 0),
  (140015, 10, 1),
  (142009, 10, 0),
  (142015, 10, 1),
  (142018, 10, 2),
  (148086, 4, 4),
  (148091, 4, 3),
  (150009, 4, 0),
  (150015, 4, 1),
  (150021, 4, 3),
  (154010, 11, 0),
  (154019, 11, 1),
  (156011, 1, 0),
  (156024, 1, 2),
  (156028, 1, 3),
  (158009, 10, 0),
  (158024, 10, 3),
  (158031, 10, 4),
  (160021, 4, 3),
  (160025, 4, 4),
  (162010, 11, 0),
  (162112, 1, 2),
  (164010, 11, 0),
  (164127, 1, 0),
  (164131, 10, 0),
  (166010, 11, 0),
  (166127, 1, 0),
  (166137, 10, 5)]
def zft_2 : List (Nat × Nat × Nat) := [(166140, 1, 1),
  (168009, 6, 0),
  (168016, 6, 1),
  (168019, 6, 2),
  (168022, 6, 3),
  (168025, 6, 4),
  (170010, 11, 0),
  (170127, 1, 0),
  (170149, 10, 4),
  (170153, 4, 4),
  (170161, 4, 0),
  (170164, 4, 1),
  (170167, 4, 2),
  (172010, 11, 0),
  (172127, 1, 0),
  (172149, 10, 4),
  (172172, 4, 3),
  (174010, 11, 0),
  (174040, 11, 5),
  (174127, 1, 0),
  (174140, 1, 1),
  (174176, 2, 0),
  (176010, 11, 0),
  (176112, 1, 2),
  (176127, 1, 0),
  (176185, 10, 2),
  (178010, 11, 0),
  (178040, 11, 5),
  (178112, 1, 2),
  (178127, 1, 0),
  (178140, 1, 1),
  (178176, 2, 0),
  (178185, 10, 2),
  (180010, 11, 0),
  (180127, 1, 0),
  (180190, 10, 6),
  (182010, 11, 0),
  (182127, 1, 0),
  (182194, 10, 3),
  (182198, 7, 2),
  (184010, 11, 0),
  (184127, 1, 0),
  (184194, 10, 3),
  (184202, 7, 0),
  (186019, 7, 2),
  (188010, 11, 0),
  (188127, 1, 0),
  (188194, 10, 3),
  (188205, 7, 1),
  (190010, 11, 0),
  (190054, 11, 7),
  (190127, 1, 0),
  (190194, 10, 3),
  (192029, 7, 2),
  (192035, 7, 0),
  (192039, 7, 1),
  (194012, 8, 0),
  (198015, 0, 0),
  (198073, 0, 2),
  (198079, 0, 3),
  (200015, 0, 0),
  (200022, 0, 1),
  (202015, 0, 0),
  (202022, 0, 1),
  (212022, 0, 1),
  (222012, 8, 0),
  (228079, 0, 3),
  (230015, 0, 0),
  (230079, 0, 3),
  (244009, 13, 0),
  (246015, 13, 1),
  (248015, 0, 0),
  (248022, 0, 1),
  (250022, 0, 1),
  (252015, 0, 0),
  (252022, 0, 1),
  (252079, 0, 3),
  (264009, 13, 0),
  (268015, 0, 0),
  (268079, 0, 3),
  (280012, 8, 0),
  (280018, 8, 1),
  (284012, 8, 0),
  (288079, 0, 3),
  (292015, 0, 0),
  (292022, 0, 1),
  (292079, 0, 3),
  (296010, 11, 0),
  (296127, 1, 0),
  (296194, 10, 3),
  (298015, 7, 1),
  (298019, 7, 2),
  (300010, 11, 0),
  (300047, 11, 6),
  (300112, 1, 2),
  (302021, 9, 1),
  (302032, 1, 2),
  (302044, 1, 0),
  (302052, 10, 0),
  (304012, 9, 0)]
def zft_3 : List (Nat × Nat × Nat) := [(304021, 9, 1),
  (304028, 9, 2),
  (304063, 1, 1),
  (304067, 1, 4),
  (306019, 7, 2),
  (306023, 7, 3),
  (308010, 11, 0),
  (308047, 11, 6),
  (308112, 1, 2),
  (310010, 11, 0),
  (310047, 11, 6),
  (310112, 1, 2),
  (312032, 1, 2),
  (312044, 1, 0),
  (312052, 10, 0),
  (312063, 1, 1),
  (316010, 11, 0),
  (316047, 11, 6),
  (316127, 1, 0),
  (320024, 10, 3),
  (322011, 7, 0),
  (322015, 7, 1),
  (322019, 7, 2),
  (324021, 9, 1),
  (324032, 1, 2),
  (324044, 1, 0),
  (326010, 11, 0),
  (326127, 1, 0),
  (328010, 11, 0),
  (330011, 1, 0),
  (330020, 1, 1),
  (330024, 1, 2),
  (332010, 11, 0),
  (332112, 1, 2),
  (334011, 1, 0),
  (334114, 10, 3),
  (336010, 11, 0),
  (336054, 11, 7),
  (336112, 1, 2),
  (336127, 1, 0),
  (338010, 11, 0),
  (338127, 1, 0),
  (340024, 10, 3),
  (342010, 11, 0),
  (342127, 1, 0),
  (342194, 10, 3),
  (344011, 7, 0),
  (344019, 7, 2),
  (346033, 11, 4),
  (348011, 3, 0),
  (348015, 3, 1),
  (350010, 11, 0),
  (350019, 11, 1),
  (350033, 11, 4),
  (350274, 3, 2),
  (352015, 3, 1),
  (352019, 3, 2),
  (354011, 3, 0),
  (354015, 3, 1),
  (354019, 3, 2),
  (354022, 3, 3),
  (354026, 3, 4),
  (356015, 3, 1),
  (358011, 3, 0),
  (358015, 3, 1),
  (364011, 3, 0),
  (366009, 13, 0),
  (368015, 13, 1),
  (376011, 3, 0),
  (376019, 3, 2),
  (376029, 3, 5),
  (382015, 3, 1),
  (384010, 11, 0),
  (384033, 11, 4),
  (384040, 11, 5),
  (386019, 3, 2),
  (386029, 3, 5),
  (388019, 3, 2),
  (388022, 3, 3),
  (390013, 5, 0),
  (390017, 5, 1),
  (392019, 3, 2),
  (392026, 3, 4),
  (394010, 11, 0),
  (394023, 11, 2),
  (394026, 11, 3),
  (394112, 1, 2),
  (396010, 11, 0),
  (396019, 11, 1),
  (396023, 11, 2),
  (396026, 11, 3),
  (396112, 1, 2),
  (398010, 11, 0),
  (398019, 11, 1),
  (400013, 5, 0),
  (400017, 5, 1),
  (400021, 5, 2),
  (402009, 12, 0),
  (402013, 12, 1),
  (402017, 12, 3)]
def zft_4 : List (Nat × Nat × Nat) := [(402020, 12, 5),
  (402023, 12, 6),
  (402026, 12, 8),
  (402030, 12, 10),
  (402033, 12, 14),
  (406009, 12, 0),
  (414009, 12, 0),
  (416009, 12, 0),
  (416049, 12, 7),
  (418017, 12, 3),
  (418057, 12, 4),
  (428009, 12, 0),
  (432009, 12, 0),
  (434009, 12, 0),
  (438009, 12, 0),
  (440009, 12, 0),
  (448009, 12, 0),
  (454009, 12, 0),
  (456009, 12, 0),
  (458009, 12, 0),
  (470009, 12, 0),
  (472009, 12, 0),
  (474009, 12, 0),
  (478009, 12, 0),
  (480009, 12, 0),
  (482009, 12, 0),
  (484009, 12, 0),
  (486009, 12, 0),
  (488009, 12, 0),
  (494009, 12, 0),
  (512009, 12, 0),
  (516009, 12, 0),
  (518009, 12, 0),
  (518186, 12, 9),
  (524026, 12, 8),
  (524186, 12, 9),
  (528026, 12, 8),
  (528186, 12, 9),
  (532009, 12, 0),
  (536009, 12, 0),
  (538009, 12, 0),
  (538020, 12, 5),
  (540009, 12, 0),
  (540020, 12, 5),
  (554009, 12, 0),
  (560009, 12, 0),
  (560186, 12, 9),
  (564009, 12, 0),
  (566030, 12, 10),
  (566264, 12, 11),
  (568009, 12, 0),
  (568023, 12, 6),
  (568049, 12, 7),
  (568264, 12, 11),
  (568266, 12, 12),
  (568299, 12, 13),
  (570266, 12, 12),
  (570299, 12, 13),
  (572030, 12, 10),
  (572264, 12, 11),
  (572266, 12, 12),
  (576030, 12, 10),
  (576266, 12, 12),
  (578033, 12, 14),
  (578266, 12, 12),
  (578299, 12, 13),
  (580033, 12, 14),
  (582009, 12, 0),
  (582013, 12, 1),
  (582345, 12, 2),
  (584009, 12, 0),
  (584013, 12, 1),
  (584345, 12, 2),
  (586009, 12, 0),
  (586017, 12, 3),
  (586057, 12, 4)]
def zft : List (Nat × Nat × Nat) := zft_0 ++ (zft_1 ++ (zft_2 ++ (zft_3 ++ (zft_4))))
def znt_0 : List (Nat × Nat) := [(7, 1),
  (16, 5),
  (30, 3),
  (37, 2),
  (44, 9),
  (51, 8),
  (4009, 10),
  (4017, 6),
  (8028, 4),
  (12011, 1),
  (18009, 2),
  (18018, 10),
  (18025, 7),
  (22009, 0),
  (116105, 7),
  (588007, 11),
  (588010, 12)]
def znt : List (Nat × Nat) := znt_0
def zat_0 : List (Nat × Nat) := [(4009, 4),
  (8022, 5),
  (12011, 6),
  (574204, 7)]
def zat : List (Nat × Nat) := zat_0
def zkt_0 : List (Nat × Int32) := [(6015, 99999),
  (30020, 1073741823),
  (76064, 99999),
  (80064, 99999),
  (90064, 99999),
  (96064, 99999),
  (202039, 2147483647),
  (204200, 2147483639),
  (208200, 2147483639),
  (310223, 99999),
  (402016, 49626),
  (418061, 41355),
  (430084, 99999),
  (432084, 99999),
  (436084, 99999),
  (442084, 99999),
  (544084, 99999)]
def zkt : List (Nat × Int32) := zkt_0
def zlt_0 : List (Nat × Int64) := [(92035, 1000000),
  (118056, 1000000),
  (126049, 1000000),
  (128058, 1000),
  (130049, 1000000),
  (130058, 1000),
  (150035, 1000000),
  (150048, 1000),
  (172170, -1),
  (174170, -1),
  (176170, -1),
  (176183, -2),
  (178188, -9223372036854775808),
  (180170, -1),
  (188188, -9223372036854775808),
  (280080, 48),
  (280082, 10),
  (296170, -1),
  (296183, -2),
  (300170, -1),
  (300183, -2),
  (302042, -2),
  (308170, -1),
  (308183, -2),
  (310224, 1000000),
  (316170, -1),
  (326170, -1),
  (328170, -1),
  (332170, -1),
  (332183, -2),
  (402037, 99999),
  (402043, 30),
  (438089, 1000000),
  (458089, 1000000),
  (466043, 30),
  (468089, 1000000),
  (470112, 1000),
  (472112, 1000),
  (486089, 1000000),
  (486112, 1000),
  (488043, 30),
  (498174, -1),
  (500174, -1),
  (506181, -9223372036854775808),
  (508174, -1),
  (516181, -9223372036854775808),
  (526216, 9),
  (526218, 10),
  (526220, 48),
  (534174, -1),
  (534247, -2),
  (542174, -1),
  (542247, -2),
  (544043, 30),
  (544089, 1000000),
  (546174, -1),
  (550174, -1),
  (556174, -1),
  (558174, -1),
  (558247, -2),
  (564262, 4)]
def zlt : List (Nat × Int64) := zlt_0
def zut_0 : List (Nat × Nat) := [(224084, 12),
  (224086, 13),
  (224088, 14),
  (224090, 15),
  (224092, 16),
  (224094, 17),
  (224096, 18),
  (224098, 19),
  (362084, 0),
  (362086, 1),
  (362088, 2),
  (362090, 3),
  (362092, 4),
  (362094, 5),
  (362096, 6),
  (362098, 7),
  (362100, 8),
  (362102, 9),
  (362104, 10),
  (362106, 11),
  (522189, 20),
  (522191, 21),
  (522193, 22),
  (522195, 23),
  (522196, 24),
  (522198, 25),
  (522199, 26),
  (522201, 27),
  (574269, 28),
  (574271, 29),
  (574273, 30),
  (574275, 31),
  (574277, 32),
  (574279, 33),
  (574281, 34),
  (574283, 35),
  (574285, 36),
  (574287, 37),
  (574289, 38),
  (574291, 39)]
def zut : List (Nat × Nat) := zut_0
def zgt_0 : List (Nat × Nat) := [(26018, 4),
  (212018, 4),
  (232044, 5),
  (239053, 8),
  (242044, 5),
  (242059, 6),
  (242063, 7),
  (246038, 4),
  (250018, 4),
  (261053, 8),
  (277053, 8),
  (294044, 5),
  (294059, 6),
  (294063, 7),
  (332242, 2),
  (336251, 0),
  (336254, 1),
  (354057, 3),
  (368038, 4)]
def zgt : List (Nat × Nat) := zgt_0
/-- the statics: class, name, descriptor, what it holds -/
def zsl : List (String × String × String × Value) := [("PayrollRun", "STATEMENT_KINDS", "[I", .ref 1), ("PayrollRun", "STATEMENT_TOTALS", "[I", .ref 2), ("PayrollRun", "ACCOUNT_KINDS", "[I", .ref 3), ("PayrollRun$CommandText", "NUMBERS_AFTER", "[I", .ref 4), ("java/lang/String", "COMPACT_STRINGS", "Z", .int 1), ("java/lang/StringUTF16", "$assertionsDisabled", "Z", .int 1), ("java/lang/StringUTF16", "HI_BYTE_SHIFT", "I", .int 0), ("java/lang/StringUTF16", "LO_BYTE_SHIFT", "I", .int 8), ("jdk/internal/util/Preconditions", "SIOOBE_FORMATTER", "Ljava/util/function/BiFunction;", .retAddr 0)]
/-- the static arrays: what they hold; the first stands at 1 -/
def zsa : List (FieldType × List Int32) := [(.int, [0, 1, 2, 3, 5, 6, 7]), (.int, [0, 1, 2, 3, 5, 8, 7]), (.int, [3, 1, 2, 5, 7]), (.int, [3, 3, 3, 2, 2, 2, 2, 3, 3, 2, 3, 0])]
/-- the texts of the constants: class, entry, text, its bytes; the object of the j-th stands at 10 + 2 j, its bytes behind it -/
def zsx : List (String × Nat × String × List Int32) := [("PayrollRun$CommandText", 84, "salary", [115, 97, 108, 97, 114, 121]), ("PayrollRun$CommandText", 86, "days", [100, 97, 121, 115]), ("PayrollRun$CommandText", 88, "bonus", [98, 111, 110, 117, 115]), ("PayrollRun$CommandText", 90, "floor", [102, 108, 111, 111, 114]), ("PayrollRun$CommandText", 92, "rate", [114, 97, 116, 101]), ("PayrollRun$CommandText", 94, "cap", [99, 97, 112]), ("PayrollRun$CommandText", 96, "bracket", [98, 114, 97, 99, 107, 101, 116]), ("PayrollRun$CommandText", 98, "fixed", [102, 105, 120, 101, 100]), ("PayrollRun$CommandText", 100, "share", [115, 104, 97, 114, 101]), ("PayrollRun$CommandText", 102, "drop", [100, 114, 111, 112]), ("PayrollRun$CommandText", 104, "move", [109, 111, 118, 101]), ("PayrollRun$CommandText", 106, "close", [99, 108, 111, 115, 101]), ("PayrollRun$SlipText", 84, "gross", [103, 114, 111, 115, 115]), ("PayrollRun$SlipText", 86, "social", [115, 111, 99, 105, 97, 108]), ("PayrollRun$SlipText", 88, "health", [104, 101, 97, 108, 116, 104]), ("PayrollRun$SlipText", 90, "tax", [116, 97, 120]), ("PayrollRun$SlipText", 92, "owed", [111, 119, 101, 100]), ("PayrollRun$SlipText", 94, "garnish", [103, 97, 114, 110, 105, 115, 104]), ("PayrollRun$SlipText", 96, "carry", [99, 97, 114, 114, 121]), ("PayrollRun$SlipText", 98, "pay", [112, 97, 121]), ("PayrollRunModel", 189, "gross", [103, 114, 111, 115, 115]), ("PayrollRunModel", 191, "social", [115, 111, 99, 105, 97, 108]), ("PayrollRunModel", 193, "health", [104, 101, 97, 108, 116, 104]), ("PayrollRunModel", 195, "tax", [116, 97, 120]), ("PayrollRunModel", 196, "owed", [111, 119, 101, 100]), ("PayrollRunModel", 198, "garnish", [103, 97, 114, 110, 105, 115, 104]), ("PayrollRunModel", 199, "carry", [99, 97, 114, 114, 121]), ("PayrollRunModel", 201, "pay", [112, 97, 121]), ("PayrollRunModel", 269, "salary", [115, 97, 108, 97, 114, 121]), ("PayrollRunModel", 271, "days", [100, 97, 121, 115]), ("PayrollRunModel", 273, "bonus", [98, 111, 110, 117, 115]), ("PayrollRunModel", 275, "fixed", [102, 105, 120, 101, 100]), ("PayrollRunModel", 277, "share", [115, 104, 97, 114, 101]), ("PayrollRunModel", 279, "move", [109, 111, 118, 101]), ("PayrollRunModel", 281, "floor", [102, 108, 111, 111, 114]), ("PayrollRunModel", 283, "rate", [114, 97, 116, 101]), ("PayrollRunModel", 285, "cap", [99, 97, 112]), ("PayrollRunModel", 287, "bracket", [98, 114, 97, 99, 107, 101, 116]), ("PayrollRunModel", 289, "drop", [100, 114, 111, 112]), ("PayrollRunModel", 291, "close", [99, 108, 111, 115, 101])]
def znl : List (String × Nat × MethodName × String) := [("PayrollRun", 32, ⟨"PayrollRun$CommandText", "<init>", "()V"⟩, "PayrollRun"), ("PayrollRun", 39, ⟨"PayrollRun$Closing", "<init>", "()V"⟩, "PayrollRun"), ("PayrollRun", 46, ⟨"PayrollRun$Trial", "<init>", "()V"⟩, "PayrollRun"), ("PayrollRun", 53, ⟨"PayrollRun$SlipText", "<init>", "()V"⟩, "PayrollRun"), ("PayrollRun$Books", 19, ⟨"PayrollRun$Rules", "<init>", "()V"⟩, "PayrollRun"), ("PayrollRun$Books", 43, ⟨"PayrollRun", "isEmployee", "(I)Z"⟩, "PayrollRun"), ("PayrollRun$Books", 47, ⟨"PayrollRun", "isMonth", "(I)Z"⟩, "PayrollRun"), ("PayrollRun$Books", 50, ⟨"PayrollRun", "within", "(III)Z"⟩, "PayrollRun"), ("PayrollRun$Books", 107, ⟨"PayrollRun$Slip", "<init>", "()V"⟩, "PayrollRun"), ("PayrollRun$Closing", 15, ⟨"PayrollRun", "isMonth", "(I)Z"⟩, "PayrollRun"), ("PayrollRun$CommandText", 32, ⟨"PayrollRun", "within", "(III)Z"⟩, "PayrollRun"), ("PayrollRun$Rules", 35, ⟨"PayrollRun", "within", "(III)Z"⟩, "PayrollRun"), ("PayrollRun$Slip", 27, ⟨"PayrollRun", "within", "(III)Z"⟩, "PayrollRun"), ("PayrollRun$SlipText", 66, ⟨"PayrollRun", "within", "(III)Z"⟩, "PayrollRun"), ("PayrollRun$Trial", 11, ⟨"PayrollRun$Closing", "<init>", "()V"⟩, "PayrollRun"), ("PayrollRun$Trial", 27, ⟨"PayrollRun$Slip", "<init>", "()V"⟩, "PayrollRun"), ("PayrollRun$Trial", 38, ⟨"PayrollRun", "isMonth", "(I)Z"⟩, "PayrollRun"), ("PayrollRun$Trial", 89, ⟨"PayrollRun", "grossPay", "(III)J"⟩, "PayrollRun"), ("PayrollRun$Worker", 30, ⟨"PayrollRun$Garnishments", "<init>", "()V"⟩, "PayrollRun"), ("PayrollRun$Worker", 56, ⟨"PayrollRun", "grossPay", "(III)J"⟩, "PayrollRun")]
def zao : List String := ["PayrollRun$Worker", "PayrollRun$Slip", "PayrollRun$Books", "java/lang/String"]

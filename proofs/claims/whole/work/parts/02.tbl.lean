/-! THE TABLES OF THE ABSTRACT MACHINE, printed by wip/whole/gen/emit_tbl.py out of the claim: methods, call sites, fields, constants, by numbers; each row checked against the tables of the Statement. -/
abbrev zMt : Type := MethodName × ByteArray × Nat × Option FieldType × Nat × Nat × Nat
def zm_0 : zMt := (⟨"PayrollRun", "<init>", "()V"⟩, prog_1_method_1_code, 1, (Option.none : Option FieldType), 5, 103, 89)
def zm_1 : zMt := (⟨"java/lang/Object", "<init>", "()V"⟩, object_method_1_code, 1, (Option.none : Option FieldType), 0, 0, 92)
def zm_2 : zMt := (⟨"PayrollRun$Books", "<init>", "()V"⟩, prog_2_method_1_code, 2, (Option.none : Option FieldType), 3, 61, 97)
def zm_3 : zMt := (⟨"PayrollRun$Rules", "<init>", "()V"⟩, prog_7_method_1_code, 1, (Option.none : Option FieldType), 1, 20, 105)
def zm_4 : zMt := (⟨"PayrollRun$Worker", "<init>", "()V"⟩, prog_11_method_1_code, 2, (Option.none : Option FieldType), 2, 40, 133)
def zm_5 : zMt := (⟨"PayrollRun$Garnishments", "<init>", "()V"⟩, prog_5_method_1_code, 1, (Option.none : Option FieldType), 1, 20, 141)
def zm_6 : zMt := (⟨"PayrollRun$History", "<init>", "()V"⟩, prog_6_method_1_code, 2, (Option.none : Option FieldType), 4, 82, 232)
def zm_7 : zMt := (⟨"PayrollRun$CommandText", "<init>", "()V"⟩, prog_4_method_1_code, 1, (Option.none : Option FieldType), 1, 20, 251)
def zm_8 : zMt := (⟨"PayrollRun$Closing", "<init>", "()V"⟩, prog_3_method_1_code, 1, (Option.none : Option FieldType), 1, 20, 278)
def zm_9 : zMt := (⟨"PayrollRun$Trial", "<init>", "()V"⟩, prog_10_method_1_code, 1, (Option.none : Option FieldType), 3, 61, 289)
def zm_10 : zMt := (⟨"PayrollRun$Slip", "<init>", "()V"⟩, prog_8_method_1_code, 1, (Option.none : Option FieldType), 1, 20, 299)
def zm_11 : zMt := (⟨"PayrollRun$SlipText", "<init>", "()V"⟩, prog_9_method_1_code, 1, (Option.none : Option FieldType), 4, 81, 335)
def zm_12 : zMt := (⟨"java/lang/StringBuilder", "<init>", "()V"⟩, prog_19_method_1_code, 1, (Option.none : Option FieldType), 3, 61, 341)
def zm_13 : zMt := (⟨"java/lang/AbstractStringBuilder", "<init>", "(I)V"⟩, prog_14_method_2_code, 2, (Option.none : Option FieldType), 2, 40, 344)
def zm_14 : zMt := (⟨"java/lang/StringUTF16", "newBytesFor", "(I)[B"⟩, prog_21_method_2_code, 1, (Option.some (FieldType.array FieldType.byte)), 1, 20, 350)
def zm_15 : zMt := (⟨"java/lang/StringUTF16", "newBytesLength", "(I)I"⟩, prog_21_method_3_code, 1, (Option.some FieldType.int), 0, 0, 353)
def zm_16 : zMt := (⟨"PayrollRun", "salary", "(III)I"⟩, prog_1_method_2_code, 4, (Option.some FieldType.int), 5, 112, 404)
def zm_17 : zMt := (⟨"PayrollRun$History", "begin", "(LPayrollRun$Books;)V"⟩, prog_6_method_2_code, 2, (Option.none : Option FieldType), 4, 91, 408)
def zm_18 : zMt := (⟨"PayrollRun$Books", "copyFrom", "(LPayrollRun$Books;)V"⟩, prog_2_method_2_code, 3, (Option.none : Option FieldType), 3, 69, 412)
def zm_19 : zMt := (⟨"PayrollRun$Worker", "copyFrom", "(LPayrollRun$Worker;)V"⟩, prog_11_method_2_code, 3, (Option.none : Option FieldType), 2, 47, 416)
def zm_20 : zMt := (⟨"PayrollRun$Garnishments", "copyFrom", "(LPayrollRun$Garnishments;)V"⟩, prog_5_method_2_code, 2, (Option.none : Option FieldType), 1, 26, 423)
def zm_21 : zMt := (⟨"PayrollRun$Rules", "copyFrom", "(LPayrollRun$Rules;)V"⟩, prog_7_method_2_code, 2, (Option.none : Option FieldType), 1, 26, 428)
def zm_22 : zMt := (⟨"PayrollRun$Books", "changeSalary", "(III)I"⟩, prog_2_method_3_code, 6, (Option.some FieldType.int), 2, 42, 433)
def zm_23 : zMt := (⟨"PayrollRun", "isEmployee", "(I)Z"⟩, prog_1_method_48_code, 1, (Option.some FieldType.boolean), 1, 22, 436)
def zm_24 : zMt := (⟨"PayrollRun", "within", "(III)Z"⟩, prog_1_method_47_code, 3, (Option.some FieldType.boolean), 0, 0, 439)
def zm_25 : zMt := (⟨"PayrollRun", "isMonth", "(I)Z"⟩, prog_1_method_49_code, 1, (Option.some FieldType.boolean), 1, 22, 442)
def zm_26 : zMt := (⟨"PayrollRun", "finish", "(I)I"⟩, prog_1_method_45_code, 2, (Option.some FieldType.int), 2, 43, 447)
def zm_27 : zMt := (⟨"PayrollRun$History", "commit", "()V"⟩, prog_6_method_3_code, 1, (Option.none : Option FieldType), 1, 23, 451)
def zm_28 : zMt := (⟨"java/lang/Math", "min", "(II)I"⟩, prog_17_method_69_code, 2, (Option.some FieldType.int), 0, 0, 454)
def zm_29 : zMt := (⟨"PayrollRun", "days", "(III)I"⟩, prog_1_method_3_code, 4, (Option.some FieldType.int), 5, 112, 458)
def zm_30 : zMt := (⟨"PayrollRun$Books", "changeDays", "(III)I"⟩, prog_2_method_4_code, 5, (Option.some FieldType.int), 2, 42, 462)
def zm_31 : zMt := (⟨"PayrollRun", "bonus", "(III)I"⟩, prog_1_method_4_code, 4, (Option.some FieldType.int), 5, 112, 466)
def zm_32 : zMt := (⟨"PayrollRun$Books", "changeBonus", "(III)I"⟩, prog_2_method_5_code, 5, (Option.some FieldType.int), 2, 42, 470)
def zm_33 : zMt := (⟨"PayrollRun", "setFloor", "(II)I"⟩, prog_1_method_5_code, 3, (Option.some FieldType.int), 5, 112, 474)
def zm_34 : zMt := (⟨"PayrollRun$Books", "changeFloor", "(II)I"⟩, prog_2_method_6_code, 4, (Option.some FieldType.int), 2, 42, 478)
def zm_35 : zMt := (⟨"PayrollRun", "setRate", "(II)I"⟩, prog_1_method_6_code, 3, (Option.some FieldType.int), 5, 112, 482)
def zm_36 : zMt := (⟨"PayrollRun$Books", "changeRate", "(II)I"⟩, prog_2_method_7_code, 4, (Option.some FieldType.int), 1, 22, 486)
def zm_37 : zMt := (⟨"PayrollRun", "setCap", "(II)I"⟩, prog_1_method_7_code, 3, (Option.some FieldType.int), 5, 112, 490)
def zm_38 : zMt := (⟨"PayrollRun$Books", "changeCap", "(II)I"⟩, prog_2_method_8_code, 4, (Option.some FieldType.int), 1, 22, 494)
def zm_39 : zMt := (⟨"PayrollRun", "bracket", "(II)I"⟩, prog_1_method_8_code, 3, (Option.some FieldType.int), 5, 112, 499)
def zm_40 : zMt := (⟨"PayrollRun$Books", "addBracket", "(II)I"⟩, prog_2_method_9_code, 3, (Option.some FieldType.int), 2, 42, 503)
def zm_41 : zMt := (⟨"PayrollRun$Rules", "leastThreshold", "()I"⟩, prog_7_method_3_code, 1, (Option.some FieldType.int), 1, 22, 507)
def zm_42 : zMt := (⟨"PayrollRun", "clearBrackets", "()I"⟩, prog_1_method_9_code, 1, (Option.some FieldType.int), 5, 112, 512)
def zm_43 : zMt := (⟨"PayrollRun$Books", "removeBrackets", "()I"⟩, prog_2_method_10_code, 2, (Option.some FieldType.int), 0, 0, 516)
def zm_44 : zMt := (⟨"PayrollRun", "fixed", "(III)I"⟩, prog_1_method_10_code, 4, (Option.some FieldType.int), 5, 112, 520)
def zm_45 : zMt := (⟨"PayrollRun$Books", "addFixed", "(III)I"⟩, prog_2_method_11_code, 4, (Option.some FieldType.int), 2, 42, 524)
def zm_46 : zMt := (⟨"PayrollRun$Garnishments", "add", "(III)I"⟩, prog_5_method_4_code, 4, (Option.some FieldType.int), 0, 0, 528)
def zm_47 : zMt := (⟨"PayrollRun", "share", "(III)I"⟩, prog_1_method_11_code, 4, (Option.some FieldType.int), 5, 112, 533)
def zm_48 : zMt := (⟨"PayrollRun$Books", "addShare", "(III)I"⟩, prog_2_method_12_code, 4, (Option.some FieldType.int), 2, 42, 537)
def zm_49 : zMt := (⟨"PayrollRun", "dropGarnishment", "(II)I"⟩, prog_1_method_12_code, 3, (Option.some FieldType.int), 6, 136, 541)
def zm_50 : zMt := (⟨"PayrollRun$Books", "removeGarnishment", "(II)I"⟩, prog_2_method_13_code, 3, (Option.some FieldType.int), 5, 114, 545)
def zm_51 : zMt := (⟨"PayrollRun$Garnishments", "has", "(I)Z"⟩, prog_5_method_3_code, 2, (Option.some FieldType.boolean), 1, 22, 549)
def zm_52 : zMt := (⟨"PayrollRun$Garnishments", "remove", "(I)I"⟩, prog_5_method_5_code, 2, (Option.some FieldType.int), 4, 93, 554)
def zm_53 : zMt := (⟨"PayrollRun$Garnishments", "shift", "(II)V"⟩, prog_5_method_6_code, 4, (Option.none : Option FieldType), 3, 70, 558)
def zm_54 : zMt := (⟨"PayrollRun$Garnishments", "swap", "(II)V"⟩, prog_5_method_8_code, 8, (Option.none : Option FieldType), 2, 43, 562)
def zm_55 : zMt := (⟨"PayrollRun", "moveGarnishment", "(III)I"⟩, prog_1_method_13_code, 4, (Option.some FieldType.int), 5, 117, 567)
def zm_56 : zMt := (⟨"PayrollRun$Books", "shiftGarnishment", "(III)I"⟩, prog_2_method_14_code, 5, (Option.some FieldType.int), 4, 93, 571)
def zm_57 : zMt := (⟨"PayrollRun", "closeMonth", "()I"⟩, prog_1_method_14_code, 1, (Option.some FieldType.int), 5, 147, 576)
def zm_58 : zMt := (⟨"PayrollRun$Books", "closeNext", "(LPayrollRun$Closing;)I"⟩, prog_2_method_15_code, 5, (Option.some FieldType.int), 4, 123, 580)
def zm_59 : zMt := (⟨"PayrollRun$Closing", "close", "(LPayrollRun$Worker;ILPayrollRun$Rules;ZLPayrollRun$Slip;)V"⟩, prog_3_method_2_code, 14, (Option.none : Option FieldType), 3, 90, 586)
def zm_60 : zMt := (⟨"PayrollRun$Rules", "fillDues", "(LPayrollRun$Worker;[J)V"⟩, prog_7_method_5_code, 11, (Option.none : Option FieldType), 2, 60, 591)
def zm_61 : zMt := (⟨"PayrollRun$Worker", "grossOf", "(I)J"⟩, prog_11_method_4_code, 2, (Option.some FieldType.long), 1, 22, 595)
def zm_62 : zMt := (⟨"PayrollRun", "grossPay", "(III)J"⟩, prog_1_method_50_code, 3, (Option.some FieldType.long), 0, 0, 598)
def zm_63 : zMt := (⟨"PayrollRun$Rules", "amountOn", "(IJ)J"⟩, prog_7_method_6_code, 12, (Option.some FieldType.long), 1, 29, 602)
def zm_64 : zMt := (⟨"PayrollRun$Rules", "contributionOn", "(IJ)J"⟩, prog_7_method_7_code, 6, (Option.some FieldType.long), 0, 0, 607)
def zm_65 : zMt := (⟨"PayrollRun$Rules", "taxOn", "(J)J"⟩, prog_7_method_8_code, 10, (Option.some FieldType.long), 0, 0, 612)
def zm_66 : zMt := (⟨"PayrollRun$Closing", "addOwnLines", "(ILPayrollRun$Slip;)V"⟩, prog_3_method_3_code, 4, (Option.none : Option FieldType), 1, 25, 616)
def zm_67 : zMt := (⟨"PayrollRun$Closing", "signed", "(IJ)J"⟩, prog_3_method_7_code, 3, (Option.some FieldType.long), 0, 0, 619)
def zm_68 : zMt := (⟨"PayrollRun$Slip", "add", "(IIIJ)V"⟩, prog_8_method_3_code, 6, (Option.none : Option FieldType), 0, 0, 623)
def zm_69 : zMt := (⟨"PayrollRun$Closing", "addCorrections", "(LPayrollRun$Worker;IZLPayrollRun$Slip;)V"⟩, prog_3_method_4_code, 10, (Option.none : Option FieldType), 1, 25, 627)
def zm_70 : zMt := (⟨"PayrollRun$Worker", "reasonFor", "(IZ)I"⟩, prog_11_method_7_code, 5, (Option.some FieldType.int), 0, 0, 631)
def zm_71 : zMt := (⟨"PayrollRun$Worker", "settle", "(I[J)V"⟩, prog_11_method_6_code, 4, (Option.none : Option FieldType), 0, 0, 635)
def zm_72 : zMt := (⟨"java/lang/Math", "min", "(JJ)J"⟩, prog_17_method_70_code, 4, (Option.some FieldType.long), 0, 0, 639)
def zm_73 : zMt := (⟨"java/lang/Math", "max", "(JJ)J"⟩, prog_17_method_66_code, 4, (Option.some FieldType.long), 0, 0, 642)
def zm_74 : zMt := (⟨"PayrollRun$Closing", "addGarnishes", "(LPayrollRun$Garnishments;JLPayrollRun$Slip;)V"⟩, prog_3_method_5_code, 13, (Option.none : Option FieldType), 2, 48, 646)
def zm_75 : zMt := (⟨"PayrollRun$Garnishments", "wanted", "(IJ)J"⟩, prog_5_method_9_code, 6, (Option.some FieldType.long), 1, 23, 650)
def zm_76 : zMt := (⟨"PayrollRun$Closing", "garnishReason", "(JJJ)I"⟩, prog_3_method_6_code, 6, (Option.some FieldType.int), 0, 0, 655)
def zm_77 : zMt := (⟨"PayrollRun", "newYear", "()I"⟩, prog_1_method_15_code, 1, (Option.some FieldType.int), 6, 135, 659)
def zm_78 : zMt := (⟨"PayrollRun$Books", "beginYear", "()I"⟩, prog_2_method_16_code, 2, (Option.some FieldType.int), 5, 114, 663)
def zm_79 : zMt := (⟨"PayrollRun$Worker", "beginYear", "()V"⟩, prog_11_method_3_code, 3, (Option.none : Option FieldType), 4, 92, 667)
def zm_80 : zMt := (⟨"PayrollRun$Garnishments", "removePaid", "()V"⟩, prog_5_method_7_code, 3, (Option.none : Option FieldType), 3, 70, 671)
def zm_81 : zMt := (⟨"PayrollRun", "closed", "()I"⟩, prog_1_method_16_code, 1, (Option.some FieldType.int), 0, 0, 675)
def zm_82 : zMt := (⟨"PayrollRun", "data", "(III)I"⟩, prog_1_method_17_code, 4, (Option.some FieldType.int), 2, 42, 679)
def zm_83 : zMt := (⟨"PayrollRun", "setting", "(II)I"⟩, prog_1_method_18_code, 3, (Option.some FieldType.int), 2, 46, 685)
def zm_84 : zMt := (⟨"PayrollRun$Rules", "ruleAt", "(II)I"⟩, prog_7_method_4_code, 5, (Option.some FieldType.int), 1, 22, 689)
def zm_85 : zMt := (⟨"PayrollRun", "garnishment", "(III)I"⟩, prog_1_method_19_code, 5, (Option.some FieldType.int), 2, 43, 693)
def zm_86 : zMt := (⟨"PayrollRun", "rest", "(II)J"⟩, prog_1_method_20_code, 4, (Option.some FieldType.long), 2, 43, 698)
def zm_87 : zMt := (⟨"PayrollRun", "due", "(III)J"⟩, prog_1_method_21_code, 4, (Option.some FieldType.long), 3, 90, 703)
def zm_88 : zMt := (⟨"PayrollRun", "settled", "(III)J"⟩, prog_1_method_22_code, 4, (Option.some FieldType.long), 2, 42, 708)
def zm_89 : zMt := (⟨"PayrollRun", "pending", "(I)J"⟩, prog_1_method_23_code, 7, (Option.some FieldType.long), 3, 90, 713)
def zm_90 : zMt := (⟨"PayrollRun", "owed", "(I)J"⟩, prog_1_method_24_code, 2, (Option.some FieldType.long), 2, 42, 718)
def zm_91 : zMt := (⟨"PayrollRun", "lineCount", "(II)I"⟩, prog_1_method_25_code, 4, (Option.some FieldType.int), 2, 42, 722)
def zm_92 : zMt := (⟨"PayrollRun", "line", "(IIII)I"⟩, prog_1_method_26_code, 6, (Option.some FieldType.int), 2, 43, 726)
def zm_93 : zMt := (⟨"PayrollRun$Slip", "has", "(I)Z"⟩, prog_8_method_4_code, 2, (Option.some FieldType.boolean), 1, 22, 730)
def zm_94 : zMt := (⟨"PayrollRun", "amount", "(III)J"⟩, prog_1_method_27_code, 5, (Option.some FieldType.long), 2, 43, 735)
def zm_95 : zMt := (⟨"PayrollRun", "letter", "(III)I"⟩, prog_1_method_28_code, 5, (Option.some FieldType.int), 12, 273, 739)
def zm_96 : zMt := (⟨"PayrollRun$SlipText", "writeSlip", "(LPayrollRun$Slip;)V"⟩, prog_9_method_3_code, 6, (Option.none : Option FieldType), 11, 248, 743)
def zm_97 : zMt := (⟨"PayrollRun$SlipText", "clear", "()V"⟩, prog_9_method_2_code, 1, (Option.none : Option FieldType), 6, 135, 747)
def zm_98 : zMt := (⟨"java/lang/StringBuilder", "setLength", "(I)V"⟩, prog_19_method_89_code, 2, (Option.none : Option FieldType), 5, 114, 751)
def zm_99 : zMt := (⟨"java/lang/AbstractStringBuilder", "setLength", "(I)V"⟩, prog_14_method_13_code, 2, (Option.none : Option FieldType), 4, 93, 754)
def zm_100 : zMt := (⟨"java/lang/AbstractStringBuilder", "ensureCapacityInternal", "(I)V"⟩, prog_14_method_9_code, 3, (Option.none : Option FieldType), 3, 71, 758)
def zm_101 : zMt := (⟨"java/lang/AbstractStringBuilder", "newCapacity", "(I)I"⟩, prog_14_method_10_code, 6, (Option.some FieldType.int), 2, 46, 762)
def zm_102 : zMt := (⟨"jdk/internal/util/ArraysSupport", "newLength", "(III)I"⟩, prog_24_method_27_code, 4, (Option.some FieldType.int), 1, 23, 765)
def zm_103 : zMt := (⟨"java/lang/Math", "max", "(II)I"⟩, prog_17_method_65_code, 2, (Option.some FieldType.int), 0, 0, 768)
def zm_104 : zMt := (⟨"jdk/internal/util/ArraysSupport", "hugeLength", "(II)I"⟩, prog_24_method_28_code, 3, (Option.some FieldType.int), 0, 0, 772)
def zm_105 : zMt := (⟨"java/util/Arrays", "copyOf", "([BI)[B"⟩, prog_23_method_121_code, 3, (Option.some (FieldType.array FieldType.byte)), 1, 26, 776)
def zm_106 : zMt := (⟨"java/lang/AbstractStringBuilder", "isLatin1", "()Z"⟩, prog_14_method_68_code, 1, (Option.some FieldType.boolean), 0, 0, 790)
def zm_107 : zMt := (⟨"java/lang/StringLatin1", "fillNull", "([BII)V"⟩, prog_20_method_48_code, 3, (Option.none : Option FieldType), 2, 46, 793)
def zm_108 : zMt := (⟨"java/util/Arrays", "fill", "([BIIB)V"⟩, prog_23_method_110_code, 5, (Option.none : Option FieldType), 1, 22, 796)
def zm_109 : zMt := (⟨"java/util/Arrays", "rangeCheck", "(III)V"⟩, prog_23_method_30_code, 3, (Option.none : Option FieldType), 0, 0, 799)
def zm_110 : zMt := (⟨"java/lang/StringUTF16", "fillNull", "([BII)V"⟩, prog_21_method_70_code, 3, (Option.none : Option FieldType), 2, 46, 802)
def zm_111 : zMt := (⟨"PayrollRun$SlipText", "writeLine", "(IIIJ)V"⟩, prog_9_method_4_code, 6, (Option.none : Option FieldType), 10, 223, 807)
def zm_112 : zMt := (⟨"PayrollRun$SlipText", "kindName", "(I)Ljava/lang/String;"⟩, prog_9_method_7_code, 1, (Option.some (FieldType.object "java/lang/String")), 0, 0, 810)
def zm_113 : zMt := (⟨"java/lang/StringBuilder", "append", "(Ljava/lang/String;)Ljava/lang/StringBuilder;"⟩, prog_19_method_7_code, 2, (Option.some (FieldType.object "java/lang/StringBuilder")), 9, 202, 822)
def zm_114 : zMt := (⟨"java/lang/AbstractStringBuilder", "append", "(Ljava/lang/String;)Ljava/lang/AbstractStringBuilder;"⟩, prog_14_method_22_code, 3, (Option.some (FieldType.object "java/lang/AbstractStringBuilder")), 8, 180, 825)
def zm_115 : zMt := (⟨"java/lang/AbstractStringBuilder", "appendNull", "()Ljava/lang/AbstractStringBuilder;"⟩, prog_14_method_26_code, 3, (Option.some (FieldType.object "java/lang/AbstractStringBuilder")), 4, 93, 829)
def zm_116 : zMt := (⟨"java/lang/StringUTF16", "putCharsAt", "([BICCCC)I"⟩, prog_21_method_81_code, 7, (Option.some FieldType.int), 3, 67, 832)
def zm_117 : zMt := (⟨"java/lang/StringUTF16", "checkBoundsBeginEnd", "(II[B)V"⟩, prog_21_method_93_code, 3, (Option.none : Option FieldType), 2, 45, 835)
def zm_118 : zMt := (⟨"java/lang/StringUTF16", "length", "([B)I"⟩, prog_21_method_6_code, 1, (Option.some FieldType.int), 0, 0, 838)
def zm_119 : zMt := (⟨"java/lang/String", "checkBoundsBeginEnd", "(III)V"⟩, prog_18_method_158_code, 3, (Option.none : Option FieldType), 1, 23, 841)
def zm_120 : zMt := (⟨"jdk/internal/util/Preconditions", "checkFromToIndex", "(IIILjava/util/function/BiFunction;)I"⟩, prog_25_method_12_code, 4, (Option.some FieldType.int), 0, 0, 846)
def zm_121 : zMt := (⟨"java/lang/StringUTF16", "putChar", "([BII)V"⟩, prog_21_method_4_code, 3, (Option.none : Option FieldType), 1, 20, 849)
def zm_122 : zMt := (⟨"java/lang/String", "length", "()I"⟩, prog_18_method_54_code, 1, (Option.some FieldType.int), 1, 20, 859)
def zm_123 : zMt := (⟨"java/lang/String", "coder", "()B"⟩, prog_18_method_152_code, 1, (Option.some FieldType.byte), 0, 0, 863)
def zm_124 : zMt := (⟨"java/lang/AbstractStringBuilder", "putStringAt", "(ILjava/lang/String;)V"⟩, prog_14_method_73_code, 3, (Option.none : Option FieldType), 7, 158, 868)
def zm_125 : zMt := (⟨"java/lang/AbstractStringBuilder", "inflateIfNeededFor", "(Ljava/lang/String;)V"⟩, prog_14_method_71_code, 2, (Option.none : Option FieldType), 6, 137, 872)
def zm_126 : zMt := (⟨"java/lang/AbstractStringBuilder", "inflate", "()V"⟩, prog_14_method_11_code, 2, (Option.none : Option FieldType), 5, 116, 877)
def zm_127 : zMt := (⟨"java/lang/StringLatin1", "inflate", "([BI[BII)V"⟩, prog_20_method_50_code, 5, (Option.none : Option FieldType), 4, 92, 880)
def zm_128 : zMt := (⟨"java/lang/StringUTF16", "inflate", "([BI[BII)V"⟩, prog_21_method_86_code, 6, (Option.none : Option FieldType), 3, 67, 883)
def zm_129 : zMt := (⟨"java/lang/StringUTF16", "checkBoundsOffCount", "(II[B)V"⟩, prog_21_method_94_code, 3, (Option.none : Option FieldType), 2, 45, 886)
def zm_130 : zMt := (⟨"java/lang/String", "checkBoundsOffCount", "(III)I"⟩, prog_18_method_157_code, 3, (Option.some FieldType.int), 1, 23, 889)
def zm_131 : zMt := (⟨"jdk/internal/util/Preconditions", "checkFromIndexSize", "(IIILjava/util/function/BiFunction;)I"⟩, prog_25_method_13_code, 4, (Option.some FieldType.int), 0, 0, 892)
def zm_132 : zMt := (⟨"java/lang/String", "getBytes", "([BIB)V"⟩, prog_18_method_147_code, 4, (Option.none : Option FieldType), 5, 116, 896)
def zm_133 : zMt := (⟨"java/lang/StringBuilder", "append", "(C)Ljava/lang/StringBuilder;"⟩, prog_19_method_14_code, 2, (Option.some (FieldType.object "java/lang/StringBuilder")), 7, 158, 902)
def zm_134 : zMt := (⟨"java/lang/AbstractStringBuilder", "append", "(C)Ljava/lang/AbstractStringBuilder;"⟩, prog_14_method_31_code, 2, (Option.some (FieldType.object "java/lang/AbstractStringBuilder")), 6, 137, 905)
def zm_135 : zMt := (⟨"java/lang/StringLatin1", "canEncode", "(C)Z"⟩, prog_20_method_3_code, 1, (Option.some FieldType.boolean), 0, 0, 908)
def zm_136 : zMt := (⟨"java/lang/StringUTF16", "putCharSB", "([BII)V"⟩, prog_21_method_71_code, 3, (Option.none : Option FieldType), 3, 64, 911)
def zm_137 : zMt := (⟨"java/lang/StringUTF16", "checkIndex", "(I[B)V"⟩, prog_21_method_91_code, 2, (Option.none : Option FieldType), 2, 43, 914)
def zm_138 : zMt := (⟨"java/lang/String", "checkIndex", "(II)V"⟩, prog_18_method_155_code, 2, (Option.none : Option FieldType), 1, 22, 917)
def zm_139 : zMt := (⟨"jdk/internal/util/Preconditions", "checkIndex", "(IILjava/util/function/BiFunction;)I"⟩, prog_25_method_11_code, 3, (Option.some FieldType.int), 0, 0, 920)
def zm_140 : zMt := (⟨"java/lang/StringBuilder", "append", "(I)Ljava/lang/StringBuilder;"⟩, prog_19_method_15_code, 2, (Option.some (FieldType.object "java/lang/StringBuilder")), 5, 116, 924)
def zm_141 : zMt := (⟨"java/lang/AbstractStringBuilder", "append", "(I)Ljava/lang/AbstractStringBuilder;"⟩, prog_14_method_32_code, 4, (Option.some (FieldType.object "java/lang/AbstractStringBuilder")), 4, 93, 927)
def zm_142 : zMt := (⟨"java/lang/Integer", "stringSize", "(I)I"⟩, prog_16_method_13_code, 4, (Option.some FieldType.int), 0, 0, 930)
def zm_143 : zMt := (⟨"java/lang/Integer", "getChars", "(II[B)I"⟩, prog_16_method_12_code, 7, (Option.some FieldType.int), 0, 0, 933)
def zm_144 : zMt := (⟨"java/lang/StringUTF16", "getChars", "(III[B)I"⟩, prog_21_method_77_code, 5, (Option.some FieldType.int), 3, 68, 940)
def zm_145 : zMt := (⟨"java/lang/StringUTF16", "getChars", "(II[B)I"⟩, prog_21_method_89_code, 7, (Option.some FieldType.int), 2, 42, 943)
def zm_146 : zMt := (⟨"PayrollRun$SlipText", "writeAmount", "(J)V"⟩, prog_9_method_6_code, 7, (Option.none : Option FieldType), 8, 179, 949)
def zm_147 : zMt := (⟨"java/lang/Math", "abs", "(J)J"⟩, prog_17_method_61_code, 2, (Option.some FieldType.long), 0, 0, 952)
def zm_148 : zMt := (⟨"PayrollRun$SlipText", "signAt", "(I)I"⟩, prog_9_method_5_code, 2, (Option.some FieldType.int), 4, 88, 958)
def zm_149 : zMt := (⟨"java/lang/StringBuilder", "length", "()I"⟩, prog_19_method_93_code, 1, (Option.some FieldType.int), 1, 20, 962)
def zm_150 : zMt := (⟨"java/lang/AbstractStringBuilder", "length", "()I"⟩, prog_14_method_6_code, 1, (Option.some FieldType.int), 0, 0, 965)
def zm_151 : zMt := (⟨"java/lang/StringBuilder", "charAt", "(I)C"⟩, prog_19_method_88_code, 2, (Option.some FieldType.char), 3, 67, 970)
def zm_152 : zMt := (⟨"java/lang/AbstractStringBuilder", "charAt", "(I)C"⟩, prog_14_method_14_code, 5, (Option.some FieldType.char), 2, 43, 973)
def zm_153 : zMt := (⟨"java/lang/StringUTF16", "getChar", "([BI)C"⟩, prog_21_method_5_code, 2, (Option.some FieldType.char), 1, 20, 978)
def zm_154 : zMt := (⟨"PayrollRun", "payout", "(II)J"⟩, prog_1_method_29_code, 4, (Option.some FieldType.long), 3, 63, 982)
def zm_155 : zMt := (⟨"PayrollRun$Slip", "paid", "()J"⟩, prog_8_method_5_code, 1, (Option.some FieldType.long), 2, 43, 986)
def zm_156 : zMt := (⟨"PayrollRun", "preview", "(I)J"⟩, prog_1_method_30_code, 2, (Option.some FieldType.long), 6, 169, 991)
def zm_157 : zMt := (⟨"PayrollRun$Trial", "nextPayout", "(LPayrollRun$Books;II)J"⟩, prog_10_method_2_code, 5, (Option.some FieldType.long), 5, 145, 995)
def zm_158 : zMt := (⟨"PayrollRun$Trial", "payoutOf", "(ILPayrollRun$Books;)J"⟩, prog_10_method_4_code, 3, (Option.some FieldType.long), 4, 123, 1002)
def zm_159 : zMt := (⟨"PayrollRun$Slip", "clear", "()V"⟩, prog_8_method_2_code, 1, (Option.none : Option FieldType), 0, 0, 1006)
def zm_160 : zMt := (⟨"PayrollRun", "marginal", "(I)J"⟩, prog_1_method_31_code, 2, (Option.some FieldType.long), 6, 169, 1012)
def zm_161 : zMt := (⟨"PayrollRun", "leastSalary", "(II)I"⟩, prog_1_method_32_code, 3, (Option.some FieldType.int), 4, 104, 1016)
def zm_162 : zMt := (⟨"PayrollRun$Trial", "leastSalaryFor", "(LPayrollRun$Books;IJ)I"⟩, prog_10_method_5_code, 18, (Option.some FieldType.int), 3, 67, 1022)
def zm_163 : zMt := (⟨"PayrollRun$Worker", "grossBefore", "(I)J"⟩, prog_11_method_5_code, 5, (Option.some FieldType.long), 2, 43, 1026)
def zm_164 : zMt := (⟨"PayrollRun", "projected", "(I)J"⟩, prog_1_method_33_code, 2, (Option.some FieldType.long), 6, 170, 1033)
def zm_165 : zMt := (⟨"PayrollRun$Worker", "totalOf", "(I)J"⟩, prog_11_method_8_code, 2, (Option.some FieldType.long), 2, 48, 1037)
def zm_166 : zMt := (⟨"PayrollRun$Worker", "sumOf", "(I)J"⟩, prog_11_method_9_code, 5, (Option.some FieldType.long), 1, 24, 1041)
def zm_167 : zMt := (⟨"PayrollRun$Slip", "sumOf", "(I)J"⟩, prog_8_method_6_code, 5, (Option.some FieldType.long), 0, 0, 1045)
def zm_168 : zMt := (⟨"PayrollRun$Trial", "payoutsToCome", "(LPayrollRun$Books;I)J"⟩, prog_10_method_3_code, 6, (Option.some FieldType.long), 5, 145, 1049)
def zm_169 : zMt := (⟨"PayrollRun", "total", "(II)J"⟩, prog_1_method_34_code, 4, (Option.some FieldType.long), 3, 69, 1053)
def zm_170 : zMt := (⟨"PayrollRun", "oneRun", "(II)J"⟩, prog_1_method_35_code, 3, (Option.some FieldType.long), 4, 89, 1057)
def zm_171 : zMt := (⟨"PayrollRun$Books", "inOneRun", "(II)J"⟩, prog_2_method_17_code, 3, (Option.some FieldType.long), 3, 67, 1061)
def zm_172 : zMt := (⟨"PayrollRun", "account", "(II)J"⟩, prog_1_method_36_code, 6, (Option.some FieldType.long), 2, 50, 1067)
def zm_173 : zMt := (⟨"PayrollRun$Books", "sumOfSlips", "(II)J"⟩, prog_2_method_18_code, 7, (Option.some FieldType.long), 1, 24, 1073)
def zm_174 : zMt := (⟨"PayrollRun", "statement", "(II)I"⟩, prog_1_method_37_code, 8, (Option.some FieldType.int), 11, 248, 1078)
def zm_175 : zMt := (⟨"PayrollRun", "lowest", "(I)I"⟩, prog_1_method_38_code, 2, (Option.some FieldType.int), 4, 87, 1088)
def zm_176 : zMt := (⟨"PayrollRun$Worker", "lowestPaid", "()I"⟩, prog_11_method_10_code, 5, (Option.some FieldType.int), 3, 63, 1092)
def zm_177 : zMt := (⟨"PayrollRun", "corrections", "(II)I"⟩, prog_1_method_39_code, 4, (Option.some FieldType.int), 2, 42, 1097)
def zm_178 : zMt := (⟨"PayrollRun$Slip", "correctedMonths", "(I)I"⟩, prog_8_method_7_code, 5, (Option.some FieldType.int), 0, 0, 1101)
def zm_179 : zMt := (⟨"PayrollRun", "feed", "(I)I"⟩, prog_1_method_40_code, 2, (Option.some FieldType.int), 2, 43, 1105)
def zm_180 : zMt := (⟨"PayrollRun$CommandText", "append", "(I)I"⟩, prog_4_method_2_code, 2, (Option.some FieldType.int), 1, 22, 1109)
def zm_181 : zMt := (⟨"PayrollRun", "execute", "()I"⟩, prog_1_method_41_code, 3, (Option.some FieldType.int), 9, 199, 1114)
def zm_182 : zMt := (⟨"PayrollRun$CommandText", "read", "()I"⟩, prog_4_method_7_code, 3, (Option.some FieldType.int), 8, 177, 1118)
def zm_183 : zMt := (⟨"PayrollRun$CommandText", "readCommand", "(I)I"⟩, prog_4_method_8_code, 5, (Option.some FieldType.int), 7, 153, 1122)
def zm_184 : zMt := (⟨"PayrollRun$CommandText", "wordEnd", "(I)I"⟩, prog_4_method_11_code, 3, (Option.some FieldType.int), 2, 45, 1126)
def zm_185 : zMt := (⟨"PayrollRun$CommandText", "isSign", "(ICC)Z"⟩, prog_4_method_10_code, 4, (Option.some FieldType.boolean), 1, 22, 1130)
def zm_186 : zMt := (⟨"PayrollRun$CommandText", "wordBetween", "(II)I"⟩, prog_4_method_12_code, 4, (Option.some FieldType.int), 6, 130, 1134)
def zm_187 : zMt := (⟨"PayrollRun$CommandText", "wordText", "(I)Ljava/lang/String;"⟩, prog_4_method_14_code, 1, (Option.some (FieldType.object "java/lang/String")), 0, 0, 1137)
def zm_188 : zMt := (⟨"PayrollRun$CommandText", "spells", "(Ljava/lang/String;II)Z"⟩, prog_4_method_13_code, 5, (Option.some FieldType.boolean), 5, 106, 1153)
def zm_189 : zMt := (⟨"java/lang/String", "charAt", "(I)C"⟩, prog_18_method_56_code, 2, (Option.some FieldType.char), 4, 85, 1158)
def zm_190 : zMt := (⟨"java/lang/String", "isLatin1", "()Z"⟩, prog_18_method_154_code, 1, (Option.some FieldType.boolean), 0, 0, 1162)
def zm_191 : zMt := (⟨"java/lang/StringLatin1", "charAt", "([BI)C"⟩, prog_20_method_2_code, 2, (Option.some FieldType.char), 2, 43, 1165)
def zm_192 : zMt := (⟨"java/lang/StringUTF16", "charAt", "([BI)C"⟩, prog_21_method_83_code, 2, (Option.some FieldType.char), 3, 64, 1169)
def zm_193 : zMt := (⟨"PayrollRun$CommandText", "failureAt", "(I)I"⟩, prog_4_method_15_code, 1, (Option.some FieldType.int), 0, 0, 1173)
def zm_194 : zMt := (⟨"PayrollRun$CommandText", "readNumber", "(II)I"⟩, prog_4_method_9_code, 6, (Option.some FieldType.int), 2, 45, 1179)
def zm_195 : zMt := (⟨"PayrollRun$CommandText", "isFailure", "(I)Z"⟩, prog_4_method_16_code, 1, (Option.some FieldType.boolean), 0, 0, 1182)
def zm_196 : zMt := (⟨"PayrollRun$CommandText", "failurePosition", "(I)I"⟩, prog_4_method_17_code, 1, (Option.some FieldType.int), 0, 0, 1185)
def zm_197 : zMt := (⟨"PayrollRun$CommandText", "clear", "()V"⟩, prog_4_method_3_code, 1, (Option.none : Option FieldType), 0, 0, 1189)
def zm_198 : zMt := (⟨"PayrollRun", "perform", "(I)I"⟩, prog_1_method_46_code, 5, (Option.some FieldType.int), 6, 147, 1193)
def zm_199 : zMt := (⟨"PayrollRun$CommandText", "numberOf", "(II)I"⟩, prog_4_method_6_code, 4, (Option.some FieldType.int), 1, 22, 1197)
def zm_200 : zMt := (⟨"PayrollRun$CommandText", "wordOf", "(I)I"⟩, prog_4_method_4_code, 2, (Option.some FieldType.int), 1, 22, 1201)
def zm_201 : zMt := (⟨"PayrollRun$History", "takeBack", "(LPayrollRun$Books;)V"⟩, prog_6_method_4_code, 2, (Option.none : Option FieldType), 4, 91, 1205)
def zm_202 : zMt := (⟨"PayrollRun$CommandText", "startOf", "(I)I"⟩, prog_4_method_5_code, 2, (Option.some FieldType.int), 1, 22, 1209)
def zm_203 : zMt := (⟨"PayrollRun", "save", "()I"⟩, prog_1_method_42_code, 1, (Option.some FieldType.int), 4, 91, 1213)
def zm_204 : zMt := (⟨"PayrollRun", "restore", "()I"⟩, prog_1_method_43_code, 1, (Option.some FieldType.int), 5, 112, 1218)
def zm_205 : zMt := (⟨"PayrollRun", "undo", "()I"⟩, prog_1_method_44_code, 1, (Option.some FieldType.int), 5, 112, 1222)
def zm_206 : zMt := (⟨"PayrollRun$History", "stepBack", "(LPayrollRun$Books;)I"⟩, prog_6_method_5_code, 2, (Option.some FieldType.int), 4, 91, 1226)
def zm_207 : zMt := (⟨"PayrollRunModel", "<init>", "()V"⟩, prog_13_method_1_code, 3, (Option.none : Option FieldType), 1, 21, 1231)
def zm_208 : zMt := (⟨"PayrollRunModel", "at", "(II)I"⟩, prog_13_method_2_code, 2, (Option.some FieldType.int), 0, 0, 1237)
def zm_209 : zMt := (⟨"PayrollRunModel", "salary", "(III)I"⟩, prog_13_method_11_code, 6, (Option.some FieldType.int), 4, 90, 1288)
def zm_210 : zMt := (⟨"PayrollRunModel", "isPerson", "(I)Z"⟩, prog_13_method_5_code, 1, (Option.some FieldType.boolean), 1, 22, 1291)
def zm_211 : zMt := (⟨"PayrollRunModel", "in", "(III)Z"⟩, prog_13_method_4_code, 3, (Option.some FieldType.boolean), 0, 0, 1294)
def zm_212 : zMt := (⟨"PayrollRunModel", "isMonth", "(I)Z"⟩, prog_13_method_6_code, 1, (Option.some FieldType.boolean), 1, 22, 1297)
def zm_213 : zMt := (⟨"PayrollRunModel", "set", "(II)I"⟩, prog_13_method_10_code, 4, (Option.some FieldType.int), 3, 67, 1301)
def zm_214 : zMt := (⟨"PayrollRunModel", "change", "()V"⟩, prog_13_method_8_code, 1, (Option.none : Option FieldType), 2, 47, 1305)
def zm_215 : zMt := (⟨"PayrollRunModel", "push", "([J)V"⟩, prog_13_method_9_code, 2, (Option.none : Option FieldType), 1, 26, 1309)
def zm_216 : zMt := (⟨"PayrollRunModel", "days", "(III)I"⟩, prog_13_method_12_code, 4, (Option.some FieldType.int), 4, 90, 1315)
def zm_217 : zMt := (⟨"PayrollRunModel", "bonus", "(III)I"⟩, prog_13_method_13_code, 4, (Option.some FieldType.int), 4, 90, 1319)
def zm_218 : zMt := (⟨"PayrollRunModel", "setFloor", "(II)I"⟩, prog_13_method_14_code, 3, (Option.some FieldType.int), 4, 90, 1323)
def zm_219 : zMt := (⟨"PayrollRunModel", "setRate", "(II)I"⟩, prog_13_method_16_code, 3, (Option.some FieldType.int), 5, 113, 1327)
def zm_220 : zMt := (⟨"PayrollRunModel", "setRule", "(II)I"⟩, prog_13_method_15_code, 4, (Option.some FieldType.int), 4, 90, 1331)
def zm_221 : zMt := (⟨"PayrollRunModel", "setCap", "(II)I"⟩, prog_13_method_17_code, 3, (Option.some FieldType.int), 5, 113, 1335)
def zm_222 : zMt := (⟨"PayrollRunModel", "bracket", "(II)I"⟩, prog_13_method_18_code, 5, (Option.some FieldType.int), 5, 113, 1340)
def zm_223 : zMt := (⟨"PayrollRunModel", "clearBrackets", "()I"⟩, prog_13_method_19_code, 3, (Option.some FieldType.int), 5, 113, 1344)
def zm_224 : zMt := (⟨"PayrollRunModel", "fixed", "(III)I"⟩, prog_13_method_21_code, 4, (Option.some FieldType.int), 5, 117, 1348)
def zm_225 : zMt := (⟨"PayrollRunModel", "garnish", "(IIII)I"⟩, prog_13_method_20_code, 8, (Option.some FieldType.int), 4, 90, 1352)
def zm_226 : zMt := (⟨"PayrollRunModel", "of", "(II)J"⟩, prog_13_method_3_code, 3, (Option.some FieldType.long), 1, 21, 1356)
def zm_227 : zMt := (⟨"PayrollRunModel", "share", "(III)I"⟩, prog_13_method_22_code, 4, (Option.some FieldType.int), 5, 117, 1361)
def zm_228 : zMt := (⟨"PayrollRunModel", "dropGarnishment", "(II)I"⟩, prog_13_method_25_code, 5, (Option.some FieldType.int), 4, 90, 1365)
def zm_229 : zMt := (⟨"PayrollRunModel", "isGarnishment", "(II)Z"⟩, prog_13_method_23_code, 3, (Option.some FieldType.boolean), 2, 43, 1369)
def zm_230 : zMt := (⟨"PayrollRunModel", "exchange", "(III)V"⟩, prog_13_method_24_code, 9, (Option.none : Option FieldType), 1, 21, 1373)
def zm_231 : zMt := (⟨"PayrollRunModel", "moveGarnishment", "(III)I"⟩, prog_13_method_26_code, 6, (Option.some FieldType.int), 3, 67, 1377)
def zm_232 : zMt := (⟨"PayrollRunModel", "closeMonth", "()I"⟩, prog_13_method_43_code, 1, (Option.some FieldType.int), 9, 222, 1381)
def zm_233 : zMt := (⟨"PayrollRunModel", "closedMany", "()I"⟩, prog_13_method_7_code, 1, (Option.some FieldType.int), 0, 0, 1385)
def zm_234 : zMt := (⟨"PayrollRunModel", "close", "()I"⟩, prog_13_method_42_code, 3, (Option.some FieldType.int), 8, 200, 1389)
def zm_235 : zMt := (⟨"PayrollRunModel", "closeFor", "(II)V"⟩, prog_13_method_41_code, 9, (Option.none : Option FieldType), 7, 172, 1393)
def zm_236 : zMt := (⟨"PayrollRunModel", "addDueLines", "(II)V"⟩, prog_13_method_39_code, 7, (Option.none : Option FieldType), 6, 146, 1397)
def zm_237 : zMt := (⟨"PayrollRunModel", "dueOf", "(III)J"⟩, prog_13_method_32_code, 4, (Option.some FieldType.long), 4, 100, 1401)
def zm_238 : zMt := (⟨"PayrollRunModel", "sumOf", "(II)J"⟩, prog_13_method_28_code, 6, (Option.some FieldType.long), 3, 65, 1405)
def zm_239 : zMt := (⟨"PayrollRunModel", "grossOf", "(II)J"⟩, prog_13_method_27_code, 3, (Option.some FieldType.long), 2, 43, 1409)
def zm_240 : zMt := (⟨"PayrollRunModel", "amountOn", "(JI)J"⟩, prog_13_method_31_code, 4, (Option.some FieldType.long), 3, 77, 1413)
def zm_241 : zMt := (⟨"PayrollRunModel", "contribution", "(IJ)J"⟩, prog_13_method_29_code, 4, (Option.some FieldType.long), 1, 23, 1417)
def zm_242 : zMt := (⟨"PayrollRunModel", "tax", "(J)J"⟩, prog_13_method_30_code, 12, (Option.some FieldType.long), 2, 46, 1423)
def zm_243 : zMt := (⟨"PayrollRunModel", "addLine", "(IIIIIJ)V"⟩, prog_13_method_34_code, 10, (Option.none : Option FieldType), 2, 43, 1428)
def zm_244 : zMt := (⟨"PayrollRunModel", "lineAt", "(III)I"⟩, prog_13_method_35_code, 3, (Option.some FieldType.int), 1, 21, 1431)
def zm_245 : zMt := (⟨"PayrollRunModel", "settledOf", "(III)J"⟩, prog_13_method_33_code, 5, (Option.some FieldType.long), 1, 21, 1435)
def zm_246 : zMt := (⟨"PayrollRunModel", "reasonFor", "(II)I"⟩, prog_13_method_37_code, 5, (Option.some FieldType.int), 2, 43, 1439)
def zm_247 : zMt := (⟨"PayrollRunModel", "settle", "(II)V"⟩, prog_13_method_38_code, 4, (Option.none : Option FieldType), 5, 123, 1443)
def zm_248 : zMt := (⟨"PayrollRunModel", "sumOfLines", "(II)J"⟩, prog_13_method_36_code, 6, (Option.some FieldType.long), 2, 43, 1447)
def zm_249 : zMt := (⟨"PayrollRunModel", "addGarnishLines", "(IIJ)V"⟩, prog_13_method_40_code, 16, (Option.none : Option FieldType), 3, 72, 1451)
def zm_250 : zMt := (⟨"PayrollRunModel", "newYear", "()I"⟩, prog_13_method_44_code, 4, (Option.some FieldType.int), 3, 67, 1455)
def zm_251 : zMt := (⟨"PayrollRunModel", "closed", "()I"⟩, prog_13_method_45_code, 1, (Option.some FieldType.int), 1, 20, 1459)
def zm_252 : zMt := (⟨"PayrollRunModel", "data", "(III)I"⟩, prog_13_method_46_code, 4, (Option.some FieldType.int), 2, 43, 1463)
def zm_253 : zMt := (⟨"PayrollRunModel", "setting", "(II)I"⟩, prog_13_method_47_code, 4, (Option.some FieldType.int), 2, 43, 1467)
def zm_254 : zMt := (⟨"PayrollRunModel", "garnishment", "(III)I"⟩, prog_13_method_48_code, 4, (Option.some FieldType.int), 3, 65, 1471)
def zm_255 : zMt := (⟨"PayrollRunModel", "rest", "(II)J"⟩, prog_13_method_49_code, 3, (Option.some FieldType.long), 3, 65, 1475)
def zm_256 : zMt := (⟨"PayrollRunModel", "due", "(III)J"⟩, prog_13_method_50_code, 4, (Option.some FieldType.long), 5, 123, 1480)
def zm_257 : zMt := (⟨"PayrollRunModel", "settled", "(III)J"⟩, prog_13_method_52_code, 5, (Option.some FieldType.long), 3, 64, 1484)
def zm_258 : zMt := (⟨"PayrollRunModel", "why", "(II)I"⟩, prog_13_method_51_code, 3, (Option.some FieldType.int), 2, 42, 1488)
def zm_259 : zMt := (⟨"PayrollRunModel", "pending", "(I)J"⟩, prog_13_method_53_code, 5, (Option.some FieldType.long), 5, 123, 1492)
def zm_260 : zMt := (⟨"PayrollRunModel", "owed", "(I)J"⟩, prog_13_method_54_code, 2, (Option.some FieldType.long), 2, 43, 1497)
def zm_261 : zMt := (⟨"PayrollRunModel", "lineCount", "(II)I"⟩, prog_13_method_55_code, 4, (Option.some FieldType.int), 3, 64, 1501)
def zm_262 : zMt := (⟨"PayrollRunModel", "line", "(IIII)I"⟩, prog_13_method_57_code, 6, (Option.some FieldType.int), 3, 66, 1505)
def zm_263 : zMt := (⟨"PayrollRunModel", "isLine", "(III)Z"⟩, prog_13_method_56_code, 4, (Option.some FieldType.boolean), 2, 43, 1509)
def zm_264 : zMt := (⟨"PayrollRunModel", "amount", "(III)J"⟩, prog_13_method_58_code, 5, (Option.some FieldType.long), 3, 66, 1513)
def zm_265 : zMt := (⟨"PayrollRunModel", "letter", "(III)I"⟩, prog_13_method_64_code, 7, (Option.some FieldType.int), 7, 156, 1517)
def zm_266 : zMt := (⟨"PayrollRunModel", "writeLine", "(IJJJ)V"⟩, prog_13_method_62_code, 8, (Option.none : Option FieldType), 6, 129, 1521)
def zm_267 : zMt := (⟨"PayrollRunModel", "writeName", "(I)V"⟩, prog_13_method_60_code, 4, (Option.none : Option FieldType), 5, 106, 1525)
def zm_268 : zMt := (⟨"PayrollRunModel", "write", "(C)V"⟩, prog_13_method_59_code, 2, (Option.none : Option FieldType), 0, 0, 1539)
def zm_269 : zMt := (⟨"PayrollRunModel", "writeNumber", "(J)V"⟩, prog_13_method_61_code, 7, (Option.none : Option FieldType), 1, 21, 1543)
def zm_270 : zMt := (⟨"PayrollRunModel", "readWritten", "(I)I"⟩, prog_13_method_63_code, 2, (Option.some FieldType.int), 1, 22, 1550)
def zm_271 : zMt := (⟨"PayrollRunModel", "payout", "(II)J"⟩, prog_13_method_66_code, 4, (Option.some FieldType.long), 3, 65, 1554)
def zm_272 : zMt := (⟨"PayrollRunModel", "payoutOf", "(II)J"⟩, prog_13_method_65_code, 3, (Option.some FieldType.long), 2, 43, 1558)
def zm_273 : zMt := (⟨"PayrollRunModel", "preview", "(I)J"⟩, prog_13_method_70_code, 2, (Option.some FieldType.long), 10, 246, 1562)
def zm_274 : zMt := (⟨"PayrollRunModel", "nextPayout", "(II)J"⟩, prog_13_method_69_code, 5, (Option.some FieldType.long), 9, 222, 1567)
def zm_275 : zMt := (⟨"PayrollRunModel", "think", "()V"⟩, prog_13_method_67_code, 1, (Option.none : Option FieldType), 1, 26, 1571)
def zm_276 : zMt := (⟨"PayrollRunModel", "forget", "()V"⟩, prog_13_method_68_code, 1, (Option.none : Option FieldType), 1, 26, 1575)
def zm_277 : zMt := (⟨"PayrollRunModel", "marginal", "(I)J"⟩, prog_13_method_71_code, 2, (Option.some FieldType.long), 10, 246, 1579)
def zm_278 : zMt := (⟨"PayrollRunModel", "leastSalary", "(II)I"⟩, prog_13_method_72_code, 11, (Option.some FieldType.int), 4, 100, 1583)
def zm_279 : zMt := (⟨"PayrollRunModel", "projected", "(I)J"⟩, prog_13_method_74_code, 4, (Option.some FieldType.long), 9, 222, 1587)
def zm_280 : zMt := (⟨"PayrollRunModel", "payouts", "(I)J"⟩, prog_13_method_73_code, 5, (Option.some FieldType.long), 3, 65, 1591)
def zm_281 : zMt := (⟨"PayrollRunModel", "total", "(II)J"⟩, prog_13_method_77_code, 3, (Option.some FieldType.long), 4, 95, 1595)
def zm_282 : zMt := (⟨"PayrollRunModel", "totalOf", "(II)J"⟩, prog_13_method_76_code, 6, (Option.some FieldType.long), 3, 70, 1599)
def zm_283 : zMt := (⟨"PayrollRunModel", "sumOfKind", "(III)J"⟩, prog_13_method_75_code, 8, (Option.some FieldType.long), 2, 43, 1603)
def zm_284 : zMt := (⟨"PayrollRunModel", "oneRun", "(II)J"⟩, prog_13_method_78_code, 3, (Option.some FieldType.long), 4, 100, 1607)
def zm_285 : zMt := (⟨"PayrollRunModel", "account", "(II)J"⟩, prog_13_method_79_code, 7, (Option.some FieldType.long), 3, 70, 1611)
def zm_286 : zMt := (⟨"PayrollRunModel", "statement", "(II)I"⟩, prog_13_method_80_code, 8, (Option.some FieldType.int), 7, 156, 1615)
def zm_287 : zMt := (⟨"PayrollRunModel", "lowest", "(I)I"⟩, prog_13_method_81_code, 4, (Option.some FieldType.int), 3, 65, 1619)
def zm_288 : zMt := (⟨"PayrollRunModel", "corrections", "(II)I"⟩, prog_13_method_82_code, 7, (Option.some FieldType.int), 3, 64, 1623)
def zm_289 : zMt := (⟨"PayrollRunModel", "feed", "(I)I"⟩, prog_13_method_83_code, 2, (Option.some FieldType.int), 1, 22, 1628)
def zm_290 : zMt := (⟨"PayrollRunModel", "execute", "()I"⟩, prog_13_method_90_code, 6, (Option.some FieldType.int), 12, 291, 1632)
def zm_291 : zMt := (⟨"PayrollRunModel", "command", "(Z)I"⟩, prog_13_method_89_code, 6, (Option.some FieldType.int), 11, 266, 1636)
def zm_292 : zMt := (⟨"PayrollRunModel", "here", "()I"⟩, prog_13_method_84_code, 1, (Option.some FieldType.int), 0, 0, 1640)
def zm_293 : zMt := (⟨"PayrollRunModel", "wordOf", "(I)I"⟩, prog_13_method_86_code, 5, (Option.some FieldType.int), 6, 130, 1644)
def zm_294 : zMt := (⟨"PayrollRunModel", "isWord", "(ILjava/lang/String;)Z"⟩, prog_13_method_85_code, 5, (Option.some FieldType.boolean), 5, 106, 1662)
def zm_295 : zMt := (⟨"PayrollRunModel", "readNumber", "(I)V"⟩, prog_13_method_87_code, 3, (Option.none : Option FieldType), 1, 22, 1666)
def zm_296 : zMt := (⟨"PayrollRunModel", "perform", "(I)I"⟩, prog_13_method_88_code, 5, (Option.some FieldType.int), 10, 242, 1670)
def zm_297 : zMt := (⟨"PayrollRunModel", "save", "()I"⟩, prog_13_method_91_code, 1, (Option.some FieldType.int), 1, 26, 1686)
def zm_298 : zMt := (⟨"PayrollRunModel", "restore", "()I"⟩, prog_13_method_92_code, 1, (Option.some FieldType.int), 3, 67, 1690)
def zm_299 : zMt := (⟨"PayrollRunModel", "undo", "()I"⟩, prog_13_method_93_code, 1, (Option.some FieldType.int), 1, 26, 1694)
def zm_300 : zMt := (⟨"PayrollRunLaw", "law", "([I)Z"⟩, code, 4, ret, 13, 316, 0)
def zm (M : Nat) : zMt := (if M < 150 then (if M < 75 then (if M < 37 then (if M < 18 then (if M < 9 then (if M < 4 then (if M < 2 then (if M < 1 then zm_0 else zm_1) else (if M < 3 then zm_2 else zm_3)) else (if M < 6 then (if M < 5 then zm_4 else zm_5) else (if M < 7 then zm_6 else (if M < 8 then zm_7 else zm_8)))) else (if M < 13 then (if M < 11 then (if M < 10 then zm_9 else zm_10) else (if M < 12 then zm_11 else zm_12)) else (if M < 15 then (if M < 14 then zm_13 else zm_14) else (if M < 16 then zm_15 else (if M < 17 then zm_16 else zm_17))))) else (if M < 27 then (if M < 22 then (if M < 20 then (if M < 19 then zm_18 else zm_19) else (if M < 21 then zm_20 else zm_21)) else (if M < 24 then (if M < 23 then zm_22 else zm_23) else (if M < 25 then zm_24 else (if M < 26 then zm_25 else zm_26)))) else (if M < 32 then (if M < 29 then (if M < 28 then zm_27 else zm_28) else (if M < 30 then zm_29 else (if M < 31 then zm_30 else zm_31))) else (if M < 34 then (if M < 33 then zm_32 else zm_33) else (if M < 35 then zm_34 else (if M < 36 then zm_35 else zm_36)))))) else (if M < 56 then (if M < 46 then (if M < 41 then (if M < 39 then (if M < 38 then zm_37 else zm_38) else (if M < 40 then zm_39 else zm_40)) else (if M < 43 then (if M < 42 then zm_41 else zm_42) else (if M < 44 then zm_43 else (if M < 45 then zm_44 else zm_45)))) else (if M < 51 then (if M < 48 then (if M < 47 then zm_46 else zm_47) else (if M < 49 then zm_48 else (if M < 50 then zm_49 else zm_50))) else (if M < 53 then (if M < 52 then zm_51 else zm_52) else (if M < 54 then zm_53 else (if M < 55 then zm_54 else zm_55))))) else (if M < 65 then (if M < 60 then (if M < 58 then (if M < 57 then zm_56 else zm_57) else (if M < 59 then zm_58 else zm_59)) else (if M < 62 then (if M < 61 then zm_60 else zm_61) else (if M < 63 then zm_62 else (if M < 64 then zm_63 else zm_64)))) else (if M < 70 then (if M < 67 then (if M < 66 then zm_65 else zm_66) else (if M < 68 then zm_67 else (if M < 69 then zm_68 else zm_69))) else (if M < 72 then (if M < 71 then zm_70 else zm_71) else (if M < 73 then zm_72 else (if M < 74 then zm_73 else zm_74))))))) else (if M < 112 then (if M < 93 then (if M < 84 then (if M < 79 then (if M < 77 then (if M < 76 then zm_75 else zm_76) else (if M < 78 then zm_77 else zm_78)) else (if M < 81 then (if M < 80 then zm_79 else zm_80) else (if M < 82 then zm_81 else (if M < 83 then zm_82 else zm_83)))) else (if M < 88 then (if M < 86 then (if M < 85 then zm_84 else zm_85) else (if M < 87 then zm_86 else zm_87)) else (if M < 90 then (if M < 89 then zm_88 else zm_89) else (if M < 91 then zm_90 else (if M < 92 then zm_91 else zm_92))))) else (if M < 102 then (if M < 97 then (if M < 95 then (if M < 94 then zm_93 else zm_94) else (if M < 96 then zm_95 else zm_96)) else (if M < 99 then (if M < 98 then zm_97 else zm_98) else (if M < 100 then zm_99 else (if M < 101 then zm_100 else zm_101)))) else (if M < 107 then (if M < 104 then (if M < 103 then zm_102 else zm_103) else (if M < 105 then zm_104 else (if M < 106 then zm_105 else zm_106))) else (if M < 109 then (if M < 108 then zm_107 else zm_108) else (if M < 110 then zm_109 else (if M < 111 then zm_110 else zm_111)))))) else (if M < 131 then (if M < 121 then (if M < 116 then (if M < 114 then (if M < 113 then zm_112 else zm_113) else (if M < 115 then zm_114 else zm_115)) else (if M < 118 then (if M < 117 then zm_116 else zm_117) else (if M < 119 then zm_118 else (if M < 120 then zm_119 else zm_120)))) else (if M < 126 then (if M < 123 then (if M < 122 then zm_121 else zm_122) else (if M < 124 then zm_123 else (if M < 125 then zm_124 else zm_125))) else (if M < 128 then (if M < 127 then zm_126 else zm_127) else (if M < 129 then zm_128 else (if M < 130 then zm_129 else zm_130))))) else (if M < 140 then (if M < 135 then (if M < 133 then (if M < 132 then zm_131 else zm_132) else (if M < 134 then zm_133 else zm_134)) else (if M < 137 then (if M < 136 then zm_135 else zm_136) else (if M < 138 then zm_137 else (if M < 139 then zm_138 else zm_139)))) else (if M < 145 then (if M < 142 then (if M < 141 then zm_140 else zm_141) else (if M < 143 then zm_142 else (if M < 144 then zm_143 else zm_144))) else (if M < 147 then (if M < 146 then zm_145 else zm_146) else (if M < 148 then zm_147 else (if M < 149 then zm_148 else zm_149)))))))) else (if M < 225 then (if M < 187 then (if M < 168 then (if M < 159 then (if M < 154 then (if M < 152 then (if M < 151 then zm_150 else zm_151) else (if M < 153 then zm_152 else zm_153)) else (if M < 156 then (if M < 155 then zm_154 else zm_155) else (if M < 157 then zm_156 else (if M < 158 then zm_157 else zm_158)))) else (if M < 163 then (if M < 161 then (if M < 160 then zm_159 else zm_160) else (if M < 162 then zm_161 else zm_162)) else (if M < 165 then (if M < 164 then zm_163 else zm_164) else (if M < 166 then zm_165 else (if M < 167 then zm_166 else zm_167))))) else (if M < 177 then (if M < 172 then (if M < 170 then (if M < 169 then zm_168 else zm_169) else (if M < 171 then zm_170 else zm_171)) else (if M < 174 then (if M < 173 then zm_172 else zm_173) else (if M < 175 then zm_174 else (if M < 176 then zm_175 else zm_176)))) else (if M < 182 then (if M < 179 then (if M < 178 then zm_177 else zm_178) else (if M < 180 then zm_179 else (if M < 181 then zm_180 else zm_181))) else (if M < 184 then (if M < 183 then zm_182 else zm_183) else (if M < 185 then zm_184 else (if M < 186 then zm_185 else zm_186)))))) else (if M < 206 then (if M < 196 then (if M < 191 then (if M < 189 then (if M < 188 then zm_187 else zm_188) else (if M < 190 then zm_189 else zm_190)) else (if M < 193 then (if M < 192 then zm_191 else zm_192) else (if M < 194 then zm_193 else (if M < 195 then zm_194 else zm_195)))) else (if M < 201 then (if M < 198 then (if M < 197 then zm_196 else zm_197) else (if M < 199 then zm_198 else (if M < 200 then zm_199 else zm_200))) else (if M < 203 then (if M < 202 then zm_201 else zm_202) else (if M < 204 then zm_203 else (if M < 205 then zm_204 else zm_205))))) else (if M < 215 then (if M < 210 then (if M < 208 then (if M < 207 then zm_206 else zm_207) else (if M < 209 then zm_208 else zm_209)) else (if M < 212 then (if M < 211 then zm_210 else zm_211) else (if M < 213 then zm_212 else (if M < 214 then zm_213 else zm_214)))) else (if M < 220 then (if M < 217 then (if M < 216 then zm_215 else zm_216) else (if M < 218 then zm_217 else (if M < 219 then zm_218 else zm_219))) else (if M < 222 then (if M < 221 then zm_220 else zm_221) else (if M < 223 then zm_222 else (if M < 224 then zm_223 else zm_224))))))) else (if M < 263 then (if M < 244 then (if M < 234 then (if M < 229 then (if M < 227 then (if M < 226 then zm_225 else zm_226) else (if M < 228 then zm_227 else zm_228)) else (if M < 231 then (if M < 230 then zm_229 else zm_230) else (if M < 232 then zm_231 else (if M < 233 then zm_232 else zm_233)))) else (if M < 239 then (if M < 236 then (if M < 235 then zm_234 else zm_235) else (if M < 237 then zm_236 else (if M < 238 then zm_237 else zm_238))) else (if M < 241 then (if M < 240 then zm_239 else zm_240) else (if M < 242 then zm_241 else (if M < 243 then zm_242 else zm_243))))) else (if M < 253 then (if M < 248 then (if M < 246 then (if M < 245 then zm_244 else zm_245) else (if M < 247 then zm_246 else zm_247)) else (if M < 250 then (if M < 249 then zm_248 else zm_249) else (if M < 251 then zm_250 else (if M < 252 then zm_251 else zm_252)))) else (if M < 258 then (if M < 255 then (if M < 254 then zm_253 else zm_254) else (if M < 256 then zm_255 else (if M < 257 then zm_256 else zm_257))) else (if M < 260 then (if M < 259 then zm_258 else zm_259) else (if M < 261 then zm_260 else (if M < 262 then zm_261 else zm_262)))))) else (if M < 282 then (if M < 272 then (if M < 267 then (if M < 265 then (if M < 264 then zm_263 else zm_264) else (if M < 266 then zm_265 else zm_266)) else (if M < 269 then (if M < 268 then zm_267 else zm_268) else (if M < 270 then zm_269 else (if M < 271 then zm_270 else zm_271)))) else (if M < 277 then (if M < 274 then (if M < 273 then zm_272 else zm_273) else (if M < 275 then zm_274 else (if M < 276 then zm_275 else zm_276))) else (if M < 279 then (if M < 278 then zm_277 else zm_278) else (if M < 280 then zm_279 else (if M < 281 then zm_280 else zm_281))))) else (if M < 291 then (if M < 286 then (if M < 284 then (if M < 283 then zm_282 else zm_283) else (if M < 285 then zm_284 else zm_285)) else (if M < 288 then (if M < 287 then zm_286 else zm_287) else (if M < 289 then zm_288 else (if M < 290 then zm_289 else zm_290)))) else (if M < 296 then (if M < 293 then (if M < 292 then zm_291 else zm_292) else (if M < 294 then zm_293 else (if M < 295 then zm_294 else zm_295))) else (if M < 298 then (if M < 297 then zm_296 else zm_297) else (if M < 299 then zm_298 else (if M < 300 then zm_299 else zm_300)))))))))
def zmy (M : Nat) : MethodName := (zm M).1
def zmb (M : Nat) : ByteArray := (zm M).2.1
def zml (M : Nat) : Nat := (zm M).2.2.1
def zmr (M : Nat) : Option FieldType := (zm M).2.2.2.1
def zmf (M : Nat) : Nat := (zm M).2.2.2.2.1
def zmo (M : Nat) : Nat := (zm M).2.2.2.2.2.1
def zmp (M : Nat) : Nat := (zm M).2.2.2.2.2.2
/-- the private methods of the superclass that are called on a text under construction -/
def zsbM : List MethodName := [⟨"java/lang/AbstractStringBuilder", "ensureCapacityInternal", "(I)V"⟩, ⟨"java/lang/AbstractStringBuilder", "newCapacity", "(I)I"⟩, ⟨"java/lang/AbstractStringBuilder", "appendNull", "()Ljava/lang/AbstractStringBuilder;"⟩, ⟨"java/lang/AbstractStringBuilder", "putStringAt", "(ILjava/lang/String;)V"⟩, ⟨"java/lang/AbstractStringBuilder", "inflateIfNeededFor", "(Ljava/lang/String;)V"⟩, ⟨"java/lang/AbstractStringBuilder", "inflate", "()V"⟩]
def zsb : List Cond := zsbM.map fun y => Cond.selects "java/lang/StringBuilder" y y
def zW0 : List Cond := lw_tbl.filter goodWord ++ zsb
theorem zw1 (j : Nat) {c : Cond} (h : tables_1_1[j]? = some c) (g : goodWord c = true) : c ∈ zW0 := List.mem_append_left _ (List.mem_filter.mpr ⟨List.mem_append_right _ (List.mem_append_left _ (List.mem_of_getElem? h)), g⟩)
theorem zw2 (j : Nat) {c : Cond} (h : tables_1_2[j]? = some c) (g : goodWord c = true) : c ∈ zW0 := List.mem_append_left _ (List.mem_filter.mpr ⟨List.mem_append_right _ (List.mem_append_right _ (List.mem_append_left _ (List.mem_of_getElem? h))), g⟩)
theorem zw3 (j : Nat) {c : Cond} (h : tables_1_3[j]? = some c) (g : goodWord c = true) : c ∈ zW0 := List.mem_append_left _ (List.mem_filter.mpr ⟨List.mem_append_right _ (List.mem_append_right _ (List.mem_append_right _ (List.mem_append_left _ (List.mem_of_getElem? h)))), g⟩)
theorem zw4 (j : Nat) {c : Cond} (h : tables_1_4[j]? = some c) (g : goodWord c = true) : c ∈ zW0 := List.mem_append_left _ (List.mem_filter.mpr ⟨List.mem_append_right _ (List.mem_append_right _ (List.mem_append_right _ (List.mem_append_right _ (List.mem_append_left _ (List.mem_of_getElem? h))))), g⟩)
theorem zw5 (j : Nat) {c : Cond} (h : tables_1_5[j]? = some c) (g : goodWord c = true) : c ∈ zW0 := List.mem_append_left _ (List.mem_filter.mpr ⟨List.mem_append_right _ (List.mem_append_right _ (List.mem_append_right _ (List.mem_append_right _ (List.mem_append_right _ (List.mem_append_left _ (List.mem_of_getElem? h)))))), g⟩)
theorem zw6 (j : Nat) {c : Cond} (h : tables_1_6[j]? = some c) (g : goodWord c = true) : c ∈ zW0 := List.mem_append_left _ (List.mem_filter.mpr ⟨List.mem_append_right _ (List.mem_append_right _ (List.mem_append_right _ (List.mem_append_right _ (List.mem_append_right _ (List.mem_append_right _ (List.mem_append_left _ (List.mem_of_getElem? h))))))), g⟩)
theorem zw7 (j : Nat) {c : Cond} (h : tables_1_7[j]? = some c) (g : goodWord c = true) : c ∈ zW0 := List.mem_append_left _ (List.mem_filter.mpr ⟨List.mem_append_right _ (List.mem_append_right _ (List.mem_append_right _ (List.mem_append_right _ (List.mem_append_right _ (List.mem_append_right _ (List.mem_append_right _ ((List.mem_of_getElem? h)))))))), g⟩)
theorem zwp1 (j : Nat) {q : MethodName × Nat} (h : lw_privs_1[j]? = some q) : Cond.selects q.1.cls q.1 q.1 ∈ zW0 := List.mem_append_left _ (List.mem_filter.mpr ⟨List.mem_append_left _ (List.mem_map.mpr ⟨q, List.mem_append_left _ (List.mem_of_getElem? h), rfl⟩), rfl⟩)
theorem zwp2 (j : Nat) {q : MethodName × Nat} (h : lw_privs_2[j]? = some q) : Cond.selects q.1.cls q.1 q.1 ∈ zW0 := List.mem_append_left _ (List.mem_filter.mpr ⟨List.mem_append_left _ (List.mem_map.mpr ⟨q, List.mem_append_right _ (List.mem_append_left _ (List.mem_of_getElem? h)), rfl⟩), rfl⟩)
theorem zwp3 (j : Nat) {q : MethodName × Nat} (h : lw_privs_3[j]? = some q) : Cond.selects q.1.cls q.1 q.1 ∈ zW0 := List.mem_append_left _ (List.mem_filter.mpr ⟨List.mem_append_left _ (List.mem_map.mpr ⟨q, List.mem_append_right _ (List.mem_append_right _ (List.mem_append_left _ (List.mem_of_getElem? h))), rfl⟩), rfl⟩)
theorem zwp4 (j : Nat) {q : MethodName × Nat} (h : lw_privs_4[j]? = some q) : Cond.selects q.1.cls q.1 q.1 ∈ zW0 := List.mem_append_left _ (List.mem_filter.mpr ⟨List.mem_append_left _ (List.mem_map.mpr ⟨q, List.mem_append_right _ (List.mem_append_right _ (List.mem_append_right _ ((List.mem_of_getElem? h)))), rfl⟩), rfl⟩)
theorem zv1 (j : Nat) {c : Cond} (h : tables_1_1[j]? = some c) : c ∈ lw_tbl := List.mem_append_right _ (List.mem_append_left _ (List.mem_of_getElem? h))
theorem zv2 (j : Nat) {c : Cond} (h : tables_1_2[j]? = some c) : c ∈ lw_tbl := List.mem_append_right _ (List.mem_append_right _ (List.mem_append_left _ (List.mem_of_getElem? h)))
theorem zv3 (j : Nat) {c : Cond} (h : tables_1_3[j]? = some c) : c ∈ lw_tbl := List.mem_append_right _ (List.mem_append_right _ (List.mem_append_right _ (List.mem_append_left _ (List.mem_of_getElem? h))))
theorem zv4 (j : Nat) {c : Cond} (h : tables_1_4[j]? = some c) : c ∈ lw_tbl := List.mem_append_right _ (List.mem_append_right _ (List.mem_append_right _ (List.mem_append_right _ (List.mem_append_left _ (List.mem_of_getElem? h)))))
theorem zv5 (j : Nat) {c : Cond} (h : tables_1_5[j]? = some c) : c ∈ lw_tbl := List.mem_append_right _ (List.mem_append_right _ (List.mem_append_right _ (List.mem_append_right _ (List.mem_append_right _ (List.mem_append_left _ (List.mem_of_getElem? h))))))
theorem zv6 (j : Nat) {c : Cond} (h : tables_1_6[j]? = some c) : c ∈ lw_tbl := List.mem_append_right _ (List.mem_append_right _ (List.mem_append_right _ (List.mem_append_right _ (List.mem_append_right _ (List.mem_append_right _ (List.mem_append_left _ (List.mem_of_getElem? h)))))))
theorem zv7 (j : Nat) {c : Cond} (h : tables_1_7[j]? = some c) : c ∈ lw_tbl := List.mem_append_right _ (List.mem_append_right _ (List.mem_append_right _ (List.mem_append_right _ (List.mem_append_right _ (List.mem_append_right _ (List.mem_append_right _ ((List.mem_of_getElem? h))))))))
theorem zwb (j : Nat) {y : MethodName} (h : zsbM[j]? = some y) : Cond.selects "java/lang/StringBuilder" y y ∈ zW0 := List.mem_append_right _ (List.mem_map.mpr ⟨y, List.mem_of_getElem? h, rfl⟩)
theorem zW0_g : ∀ w ∈ zW0, goodWord w = true := by
  intro w hw
  rcases List.mem_append.mp hw with h | h
  · exact (List.mem_filter.mp h).2
  · obtain ⟨y, hy, rfl⟩ := List.mem_map.mp h
    rfl
theorem zW0_t {s : State} {args : Array Value} (hts : ∀ w ∈ lw_tbl, w.before args s = true) : ∀ w ∈ zW0, w.before args s = true := by
  intro w hw
  rcases List.mem_append.mp hw with h | h
  · exact hts w (List.mem_filter.mp h).1
  · obtain ⟨y, hy, rfl⟩ := List.mem_map.mp h
    have h2 : (Cond.selects "java/lang/StringBuilder" ⟨"java/lang/AbstractStringBuilder", "isLatin1", "()Z"⟩ ⟨"java/lang/AbstractStringBuilder", "isLatin1", "()Z"⟩).before args s = true := hts _ (zv4 8 rfl)
    have h3 : (Cond.instanceMethod ⟨"java/lang/AbstractStringBuilder", "isLatin1", "()Z"⟩).before args s = true := hts _ (zv4 6 rfl)
    simp only [zsbM, List.mem_cons, List.not_mem_nil, or_false] at hy
    rcases hy with rfl | rfl | rfl | rfl | rfl | rfl
    · exact zsb_sel (y2 := ⟨"java/lang/AbstractStringBuilder", "isLatin1", "()Z"⟩) ⟨by decide, by decide⟩ rfl h2 (hts _ (zv3 215 rfl)) (hts _ (zv3 216 rfl)) h3
    · exact zsb_sel (y2 := ⟨"java/lang/AbstractStringBuilder", "isLatin1", "()Z"⟩) ⟨by decide, by decide⟩ rfl h2 (hts _ (zv3 219 rfl)) (hts _ (zv3 220 rfl)) h3
    · exact zsb_sel (y2 := ⟨"java/lang/AbstractStringBuilder", "isLatin1", "()Z"⟩) ⟨by decide, by decide⟩ rfl h2 (hts _ (zv4 46 rfl)) (hts _ (zv4 47 rfl)) h3
    · exact zsb_sel (y2 := ⟨"java/lang/AbstractStringBuilder", "isLatin1", "()Z"⟩) ⟨by decide, by decide⟩ rfl h2 (hts _ (zv4 85 rfl)) (hts _ (zv4 86 rfl)) h3
    · exact zsb_sel (y2 := ⟨"java/lang/AbstractStringBuilder", "isLatin1", "()Z"⟩) ⟨by decide, by decide⟩ rfl h2 (hts _ (zv4 89 rfl)) (hts _ (zv4 90 rfl)) h3
    · exact zsb_sel (y2 := ⟨"java/lang/AbstractStringBuilder", "isLatin1", "()Z"⟩) ⟨by decide, by decide⟩ rfl h2 (hts _ (zv4 94 rfl)) (hts _ (zv4 95 rfl)) h3
-- 
def zT0 : u_T := fun k => match k with
  | 0 => ("java/lang/AbstractStringBuilder", "value", "[B", false)
  | 1 => ("java/lang/AbstractStringBuilder", "coder", "B", false)
  | 2 => ("java/lang/AbstractStringBuilder", "maybeLatin1", "Z", false)
  | _ => ("java/lang/AbstractStringBuilder", "count", "I", false)
def zty0 : Nat → FieldType := fun k => match k with
  | 0 => .array .byte
  | 1 => .byte
  | 2 => .boolean
  | _ => .int
theorem znm0 : ∀ a, a < 4 → ∀ b, b < 4 → a ≠ b → (zT0 a).2.1 ≠ (zT0 b).2.1 := by decide +kernel
theorem zty0_ok : ∀ k, k < 4 → parseFieldDescriptor (zT0 k).2.2.1 = some (zty0 k) := by decide +kernel
def zT1 : u_T := fun k => match k with
  | 0 => ("PayrollRun$Books", "workers", "[LPayrollRun$Worker;", true)
  | 1 => ("PayrollRun$Books", "rules", "LPayrollRun$Rules;", true)
  | 2 => ("PayrollRun$Books", "closedMonths", "I", false)
  | 3 => ("PayrollRun$Books", "years", "I", false)
  | _ => ("PayrollRun$Books", "ruleSetSinceClosing", "Z", false)
def zty1 : Nat → FieldType := fun k => match k with
  | 0 => .array (.object "PayrollRun$Worker")
  | 1 => .object "PayrollRun$Rules"
  | 2 => .int
  | 3 => .int
  | _ => .boolean
theorem znm1 : ∀ a, a < 5 → ∀ b, b < 5 → a ≠ b → (zT1 a).2.1 ≠ (zT1 b).2.1 := by decide +kernel
theorem zty1_ok : ∀ k, k < 5 → parseFieldDescriptor (zT1 k).2.2.1 = some (zty1 k) := by decide +kernel
def zT2 : u_T := fun k => match k with
  | _ => ("PayrollRun$Closing", "dues", "[J", true)
def zty2 : Nat → FieldType := fun k => match k with
  | _ => .array .long
theorem znm2 : ∀ a, a < 1 → ∀ b, b < 1 → a ≠ b → (zT2 a).2.1 ≠ (zT2 b).2.1 := by decide +kernel
theorem zty2_ok : ∀ k, k < 1 → parseFieldDescriptor (zT2 k).2.2.1 = some (zty2 k) := by decide +kernel
def zT3 : u_T := fun k => match k with
  | 0 => ("PayrollRun$CommandText", "signs", "[C", true)
  | 1 => ("PayrollRun$CommandText", "length", "I", false)
  | 2 => ("PayrollRun$CommandText", "count", "I", false)
  | 3 => ("PayrollRun$CommandText", "words", "[I", true)
  | 4 => ("PayrollRun$CommandText", "starts", "[I", true)
  | _ => ("PayrollRun$CommandText", "numbers", "[I", true)
def zty3 : Nat → FieldType := fun k => match k with
  | 0 => .array .char
  | 1 => .int
  | 2 => .int
  | 3 => .array .int
  | 4 => .array .int
  | _ => .array .int
theorem znm3 : ∀ a, a < 6 → ∀ b, b < 6 → a ≠ b → (zT3 a).2.1 ≠ (zT3 b).2.1 := by decide +kernel
theorem zty3_ok : ∀ k, k < 6 → parseFieldDescriptor (zT3 k).2.2.1 = some (zty3 k) := by decide +kernel
def zT4 : u_T := fun k => match k with
  | 0 => ("PayrollRun$Garnishments", "kinds", "[I", true)
  | 1 => ("PayrollRun$Garnishments", "sizes", "[I", true)
  | 2 => ("PayrollRun$Garnishments", "debts", "[I", true)
  | 3 => ("PayrollRun$Garnishments", "rests", "[J", true)
  | _ => ("PayrollRun$Garnishments", "count", "I", false)
def zty4 : Nat → FieldType := fun k => match k with
  | 0 => .array .int
  | 1 => .array .int
  | 2 => .array .int
  | 3 => .array .long
  | _ => .int
theorem znm4 : ∀ a, a < 5 → ∀ b, b < 5 → a ≠ b → (zT4 a).2.1 ≠ (zT4 b).2.1 := by decide +kernel
theorem zty4_ok : ∀ k, k < 5 → parseFieldDescriptor (zT4 k).2.2.1 = some (zty4 k) := by decide +kernel
def zT5 : u_T := fun k => match k with
  | 0 => ("PayrollRun$History", "places", "[LPayrollRun$Books;", true)
  | 1 => ("PayrollRun$History", "next", "I", false)
  | _ => ("PayrollRun$History", "count", "I", false)
def zty5 : Nat → FieldType := fun k => match k with
  | 0 => .array (.object "PayrollRun$Books")
  | 1 => .int
  | _ => .int
theorem znm5 : ∀ a, a < 3 → ∀ b, b < 3 → a ≠ b → (zT5 a).2.1 ≠ (zT5 b).2.1 := by decide +kernel
theorem zty5_ok : ∀ k, k < 3 → parseFieldDescriptor (zT5 k).2.2.1 = some (zty5 k) := by decide +kernel
def zT6 : u_T := fun k => match k with
  | 0 => ("PayrollRun$Rules", "rates", "[I", true)
  | 1 => ("PayrollRun$Rules", "caps", "[I", true)
  | 2 => ("PayrollRun$Rules", "thresholds", "[I", true)
  | 3 => ("PayrollRun$Rules", "bracketRates", "[I", true)
  | _ => ("PayrollRun$Rules", "brackets", "I", false)
def zty6 : Nat → FieldType := fun k => match k with
  | 0 => .array .int
  | 1 => .array .int
  | 2 => .array .int
  | 3 => .array .int
  | _ => .int
theorem znm6 : ∀ a, a < 5 → ∀ b, b < 5 → a ≠ b → (zT6 a).2.1 ≠ (zT6 b).2.1 := by decide +kernel
theorem zty6_ok : ∀ k, k < 5 → parseFieldDescriptor (zT6 k).2.2.1 = some (zty6 k) := by decide +kernel
def zT7 : u_T := fun k => match k with
  | 0 => ("PayrollRun$Slip", "parts", "[I", true)
  | 1 => ("PayrollRun$Slip", "amounts", "[J", true)
  | 2 => ("PayrollRun$Slip", "count", "I", false)
  | _ => ("PayrollRun$Slip", "sum", "J", false)
def zty7 : Nat → FieldType := fun k => match k with
  | 0 => .array .int
  | 1 => .array .long
  | 2 => .int
  | _ => .long
theorem znm7 : ∀ a, a < 4 → ∀ b, b < 4 → a ≠ b → (zT7 a).2.1 ≠ (zT7 b).2.1 := by decide +kernel
theorem zty7_ok : ∀ k, k < 4 → parseFieldDescriptor (zT7 k).2.2.1 = some (zty7 k) := by decide +kernel
def zT8 : u_T := fun k => match k with
  | 0 => ("PayrollRun$SlipText", "text", "Ljava/lang/StringBuilder;", true)
  | _ => ("PayrollRun$SlipText", "digits", "[C", true)
def zty8 : Nat → FieldType := fun k => match k with
  | 0 => .object "java/lang/StringBuilder"
  | _ => .array .char
theorem znm8 : ∀ a, a < 2 → ∀ b, b < 2 → a ≠ b → (zT8 a).2.1 ≠ (zT8 b).2.1 := by decide +kernel
theorem zty8_ok : ∀ k, k < 2 → parseFieldDescriptor (zT8 k).2.2.1 = some (zty8 k) := by decide +kernel
def zT9 : u_T := fun k => match k with
  | 0 => ("PayrollRun$Trial", "closing", "LPayrollRun$Closing;", true)
  | 1 => ("PayrollRun$Trial", "worker", "LPayrollRun$Worker;", true)
  | _ => ("PayrollRun$Trial", "slip", "LPayrollRun$Slip;", true)
def zty9 : Nat → FieldType := fun k => match k with
  | 0 => .object "PayrollRun$Closing"
  | 1 => .object "PayrollRun$Worker"
  | _ => .object "PayrollRun$Slip"
theorem znm9 : ∀ a, a < 3 → ∀ b, b < 3 → a ≠ b → (zT9 a).2.1 ≠ (zT9 b).2.1 := by decide +kernel
theorem zty9_ok : ∀ k, k < 3 → parseFieldDescriptor (zT9 k).2.2.1 = some (zty9 k) := by decide +kernel
def zT10 : u_T := fun k => match k with
  | 0 => ("PayrollRun$Worker", "entries", "[I", true)
  | 1 => ("PayrollRun$Worker", "settledEntries", "[I", true)
  | 2 => ("PayrollRun$Worker", "settledAmounts", "[J", true)
  | 3 => ("PayrollRun$Worker", "slips", "[LPayrollRun$Slip;", true)
  | 4 => ("PayrollRun$Worker", "garnishments", "LPayrollRun$Garnishments;", true)
  | 5 => ("PayrollRun$Worker", "floor", "I", false)
  | _ => ("PayrollRun$Worker", "owed", "J", false)
def zty10 : Nat → FieldType := fun k => match k with
  | 0 => .array .int
  | 1 => .array .int
  | 2 => .array .long
  | 3 => .array (.object "PayrollRun$Slip")
  | 4 => .object "PayrollRun$Garnishments"
  | 5 => .int
  | _ => .long
theorem znm10 : ∀ a, a < 7 → ∀ b, b < 7 → a ≠ b → (zT10 a).2.1 ≠ (zT10 b).2.1 := by decide +kernel
theorem zty10_ok : ∀ k, k < 7 → parseFieldDescriptor (zT10 k).2.2.1 = some (zty10 k) := by decide +kernel
def zT11 : u_T := fun k => match k with
  | 0 => ("PayrollRun", "now", "LPayrollRun$Books;", true)
  | 1 => ("PayrollRun", "history", "LPayrollRun$History;", true)
  | 2 => ("PayrollRun", "snapshot", "LPayrollRun$Books;", true)
  | 3 => ("PayrollRun", "saved", "Z", false)
  | 4 => ("PayrollRun", "commands", "LPayrollRun$CommandText;", true)
  | 5 => ("PayrollRun", "closing", "LPayrollRun$Closing;", true)
  | 6 => ("PayrollRun", "trial", "LPayrollRun$Trial;", true)
  | _ => ("PayrollRun", "text", "LPayrollRun$SlipText;", true)
def zty11 : Nat → FieldType := fun k => match k with
  | 0 => .object "PayrollRun$Books"
  | 1 => .object "PayrollRun$History"
  | 2 => .object "PayrollRun$Books"
  | 3 => .boolean
  | 4 => .object "PayrollRun$CommandText"
  | 5 => .object "PayrollRun$Closing"
  | 6 => .object "PayrollRun$Trial"
  | _ => .object "PayrollRun$SlipText"
theorem znm11 : ∀ a, a < 8 → ∀ b, b < 8 → a ≠ b → (zT11 a).2.1 ≠ (zT11 b).2.1 := by decide +kernel
theorem zty11_ok : ∀ k, k < 8 → parseFieldDescriptor (zT11 k).2.2.1 = some (zty11 k) := by decide +kernel
def zT12 : u_T := fun k => match k with
  | 0 => ("PayrollRunModel", "s", "[J", true)
  | 1 => ("PayrollRunModel", "saved", "[J", true)
  | 2 => ("PayrollRunModel", "isSaved", "Z", false)
  | 3 => ("PayrollRunModel", "past", "[J", true)
  | 4 => ("PayrollRunModel", "pastMany", "I", false)
  | 5 => ("PayrollRunModel", "kept", "[J", true)
  | 6 => ("PayrollRunModel", "before", "[J", true)
  | 7 => ("PayrollRunModel", "isQuiet", "Z", false)
  | 8 => ("PayrollRunModel", "written", "[C", true)
  | 9 => ("PayrollRunModel", "writtenMany", "I", false)
  | 10 => ("PayrollRunModel", "text", "[C", true)
  | 11 => ("PayrollRunModel", "length", "I", false)
  | 12 => ("PayrollRunModel", "place", "I", false)
  | 13 => ("PayrollRunModel", "isWrong", "Z", false)
  | _ => ("PayrollRunModel", "numbers", "[I", true)
def zty12 : Nat → FieldType := fun k => match k with
  | 0 => .array .long
  | 1 => .array .long
  | 2 => .boolean
  | 3 => .array .long
  | 4 => .int
  | 5 => .array .long
  | 6 => .array .long
  | 7 => .boolean
  | 8 => .array .char
  | 9 => .int
  | 10 => .array .char
  | 11 => .int
  | 12 => .int
  | 13 => .boolean
  | _ => .array .int
theorem znm12 : ∀ a, a < 15 → ∀ b, b < 15 → a ≠ b → (zT12 a).2.1 ≠ (zT12 b).2.1 := by decide +kernel
theorem zty12_ok : ∀ k, k < 15 → parseFieldDescriptor (zT12 k).2.2.1 = some (zty12 k) := by decide +kernel
def zcl : List vw_C := [("java/lang/StringBuilder", zT0, 4), ("PayrollRun$Books", zT1, 5), ("PayrollRun$Closing", zT2, 1), ("PayrollRun$CommandText", zT3, 6), ("PayrollRun$Garnishments", zT4, 5), ("PayrollRun$History", zT5, 3), ("PayrollRun$Rules", zT6, 5), ("PayrollRun$Slip", zT7, 4), ("PayrollRun$SlipText", zT8, 2), ("PayrollRun$Trial", zT9, 3), ("PayrollRun$Worker", zT10, 7), ("PayrollRun", zT11, 8), ("PayrollRunModel", zT12, 15)]
def ztl : List (Nat → FieldType) := [zty0, zty1, zty2, zty3, zty4, zty5, zty6, zty7, zty8, zty9, zty10, zty11, zty12]
/-- the arrays: a tag is a place here -/
def ztag : List FieldType := [.int, .long, .char, .byte, .object "PayrollRun$Worker", .object "PayrollRun$Slip", .object "PayrollRun$Books", .object "java/lang/String"]
def zKEY : Nat := 2000
def zst_0 : List (Nat × Nat × Nat × Nat × Nat) := [(1, 7, 1, 0, 0),
  (9, 2, 2, 0, 0),
  (18, 2, 6, 0, 0),
  (32, 4, 7, 0, 0),
  (39, 4, 8, 0, 0),
  (46, 4, 9, 0, 0),
  (53, 4, 11, 0, 0),
  (4003, 7, 1, 0, 0),
  (4019, 4, 3, 0, 0),
  (4035, 2, 4, 0, 0),
  (6003, 7, 1, 0, 0),
  (8003, 7, 1, 0, 0),
  (8030, 4, 5, 0, 0),
  (10003, 7, 1, 0, 0),
  (12003, 7, 1, 0, 0),
  (12024, 2, 2, 0, 0),
  (14003, 7, 1, 0, 0),
  (16003, 7, 1, 0, 0),
  (18003, 7, 1, 0, 0),
  (18011, 4, 8, 0, 0),
  (18020, 2, 4, 0, 0),
  (18027, 4, 10, 0, 0),
  (20003, 7, 1, 0, 0),
  (22003, 7, 1, 0, 0),
  (22011, 2, 12, 0, 0),
  (24001, 2, 13, 1, 0),
  (26003, 7, 1, 0, 0),
  (26026, 0, 14, 1, 0),
  (28011, 0, 15, 1, 0),
  (32058, 1, 17, 1, 5),
  (32062, 1, 22, 3, 1),
  (32066, 1, 26, 1, 11),
  (34025, 1, 18, 1, 1),
  (36036, 1, 19, 1, 10),
  (36040, 1, 21, 1, 6),
  (38043, 8, 0, 5, 0),
  (38049, 1, 20, 1, 4),
  (40029, 8, 0, 5, 0),
  (42029, 8, 0, 5, 0),
  (44043, 3, 23, 1, 0),
  (44047, 3, 25, 1, 0),
  (44050, 3, 24, 3, 0),
  (46123, 0, 24, 3, 0),
  (50123, 0, 24, 3, 0),
  (52291, 1, 27, 0, 5),
  (54029, 9, 28, 2, 1),
  (58058, 1, 17, 1, 5),
  (58066, 1, 26, 1, 11),
  (58070, 1, 30, 3, 1),
  (60043, 3, 23, 1, 0),
  (60047, 3, 25, 1, 0),
  (60050, 3, 24, 3, 0),
  (62058, 1, 17, 1, 5),
  (62066, 1, 26, 1, 11),
  (62073, 1, 32, 3, 1),
  (64043, 3, 23, 1, 0),
  (64047, 3, 25, 1, 0),
  (64050, 3, 24, 3, 0),
  (66058, 1, 17, 1, 5),
  (66066, 1, 26, 1, 11),
  (66076, 1, 34, 2, 1),
  (68043, 3, 23, 1, 0),
  (68050, 3, 24, 3, 0),
  (70058, 1, 17, 1, 5),
  (70066, 1, 26, 1, 11),
  (70080, 1, 36, 2, 1),
  (72050, 3, 24, 3, 0),
  (74058, 1, 17, 1, 5),
  (74066, 1, 26, 1, 11),
  (74083, 1, 38, 2, 1),
  (76050, 3, 24, 3, 0),
  (78058, 1, 17, 1, 5),
  (78066, 1, 26, 1, 11),
  (78086, 1, 40, 2, 1),
  (80050, 3, 24, 3, 0),
  (80068, 1, 41, 0, 6),
  (82035, 3, 24, 3, 0),
  (84058, 1, 17, 1, 5),
  (84066, 1, 26, 1, 11),
  (84089, 1, 43, 0, 1),
  (88058, 1, 17, 1, 5),
  (88066, 1, 26, 1, 11),
  (88093, 1, 45, 3, 1),
  (90043, 3, 23, 1, 0),
  (90050, 3, 24, 3, 0),
  (90087, 1, 46, 3, 4),
  (94058, 1, 17, 1, 5),
  (94066, 1, 26, 1, 11),
  (94096, 1, 48, 3, 1),
  (96043, 3, 23, 1, 0),
  (96050, 3, 24, 3, 0),
  (96087, 1, 46, 3, 4),
  (98058, 1, 17, 1, 5),
  (98066, 1, 26, 1, 11),
  (98099, 1, 50, 2, 1),
  (100043, 3, 23, 1, 0),
  (100091, 1, 51, 1, 4),
  (100094, 1, 52, 1, 4),
  (102035, 3, 24, 3, 0),
  (104041, 1, 53, 2, 4)]
def zst_1 : List (Nat × Nat × Nat × Nat × Nat) := [(106045, 1, 54, 2, 4),
  (108048, 1, 51, 1, 4),
  (110058, 1, 17, 1, 5),
  (110066, 1, 26, 1, 11),
  (110102, 1, 56, 3, 1),
  (112043, 3, 23, 1, 0),
  (112091, 1, 51, 1, 4),
  (112098, 1, 53, 2, 4),
  (114058, 1, 17, 1, 5),
  (114066, 1, 26, 1, 11),
  (114105, 1, 58, 1, 1),
  (116047, 3, 25, 1, 0),
  (116107, 4, 10, 0, 0),
  (116108, 1, 59, 5, 2),
  (118015, 3, 25, 1, 0),
  (118019, 1, 60, 2, 6),
  (118025, 1, 66, 2, 2),
  (118029, 1, 69, 4, 2),
  (118033, 1, 71, 2, 10),
  (118043, 1, 68, 4, 7),
  (118058, 9, 72, 2, 3),
  (118064, 9, 73, 2, 2),
  (118071, 1, 74, 3, 2),
  (120039, 1, 61, 1, 10),
  (120045, 1, 63, 2, 6),
  (122056, 3, 62, 3, 0),
  (126051, 1, 64, 2, 6),
  (126054, 1, 65, 1, 6),
  (132043, 1, 68, 4, 7),
  (132075, 0, 67, 2, 0),
  (138043, 1, 68, 4, 7),
  (138075, 0, 67, 2, 0),
  (138079, 1, 70, 2, 10),
  (148043, 1, 68, 4, 7),
  (148058, 9, 72, 2, 3),
  (148094, 1, 75, 2, 4),
  (148097, 0, 76, 3, 0),
  (150054, 9, 72, 2, 3),
  (154058, 1, 17, 1, 5),
  (154066, 1, 26, 1, 11),
  (154109, 1, 78, 0, 1),
  (156118, 1, 79, 0, 10),
  (158053, 1, 80, 0, 4),
  (160045, 1, 54, 2, 4),
  (164116, 0, 23, 1, 0),
  (164120, 0, 25, 1, 0),
  (164123, 0, 24, 3, 0),
  (166116, 0, 23, 1, 0),
  (166144, 1, 84, 2, 6),
  (168035, 3, 24, 3, 0),
  (170116, 0, 23, 1, 0),
  (170158, 1, 51, 1, 4),
  (172116, 0, 23, 1, 0),
  (172158, 1, 51, 1, 4),
  (174116, 0, 23, 1, 0),
  (174120, 0, 25, 1, 0),
  (174123, 0, 24, 3, 0),
  (174179, 1, 60, 2, 6),
  (176116, 0, 23, 1, 0),
  (176120, 0, 25, 1, 0),
  (176123, 0, 24, 3, 0),
  (178116, 0, 23, 1, 0),
  (178179, 1, 60, 2, 6),
  (180116, 0, 23, 1, 0),
  (182116, 0, 23, 1, 0),
  (182120, 0, 25, 1, 0),
  (184116, 0, 23, 1, 0),
  (184120, 0, 25, 1, 0),
  (184123, 0, 24, 3, 0),
  (184201, 1, 93, 1, 7),
  (186027, 3, 24, 3, 0),
  (188116, 0, 23, 1, 0),
  (188120, 0, 25, 1, 0),
  (188201, 1, 93, 1, 7),
  (190116, 0, 23, 1, 0),
  (190120, 0, 25, 1, 0),
  (190208, 1, 96, 1, 8),
  (190212, 1, 148, 1, 8),
  (192026, 1, 97, 0, 8),
  (192043, 1, 111, 4, 8),
  (194022, 1, 98, 1, 0),
  (196333, 6, 99, 1, 0),
  (198083, 5, 106, 0, 0),
  (198100, 5, 100, 1, 0),
  (198133, 0, 107, 3, 0),
  (198137, 0, 110, 3, 0),
  (200104, 5, 101, 1, 0),
  (200108, 0, 105, 2, 0),
  (202114, 0, 102, 3, 0),
  (204194, 9, 103, 2, 0),
  (204201, 0, 104, 2, 0),
  (210150, 8, 0, 5, 0),
  (210304, 9, 28, 2, 1),
  (214236, 0, 108, 4, 0),
  (216013, 0, 109, 3, 0),
  (220380, 0, 108, 4, 0),
  (222047, 0, 112, 1, 0),
  (222051, 1, 113, 1, 0),
  (222055, 1, 133, 1, 0),
  (222058, 1, 140, 1, 0)]
def zst_2 : List (Nat × Nat × Nat × Nat × Nat) := [(222061, 1, 146, 1, 8),
  (226029, 6, 114, 1, 0),
  (228032, 1, 122, 0, 13),
  (228100, 5, 100, 1, 0),
  (228204, 5, 115, 0, 0),
  (228208, 5, 124, 2, 0),
  (230083, 5, 106, 0, 0),
  (230100, 5, 100, 1, 0),
  (230226, 0, 116, 6, 0),
  (232096, 0, 117, 3, 0),
  (232111, 0, 121, 3, 0),
  (234048, 0, 118, 1, 0),
  (234241, 0, 119, 3, 0),
  (239062, 0, 120, 4, 0),
  (242048, 0, 118, 1, 0),
  (244335, 1, 123, 0, 13),
  (248397, 5, 125, 1, 0),
  (248399, 1, 132, 3, 13),
  (250040, 1, 123, 0, 13),
  (250195, 5, 126, 0, 0),
  (252026, 0, 14, 1, 0),
  (252083, 5, 106, 0, 0),
  (252125, 0, 127, 5, 0),
  (254240, 0, 128, 5, 0),
  (256111, 0, 121, 3, 0),
  (256173, 0, 129, 3, 0),
  (258048, 0, 118, 1, 0),
  (258419, 0, 130, 3, 0),
  (261065, 0, 131, 4, 0),
  (264106, 0, 127, 5, 0),
  (264212, 8, 0, 5, 0),
  (264335, 1, 123, 0, 13),
  (266050, 6, 134, 1, 0),
  (268083, 5, 106, 0, 0),
  (268100, 5, 100, 1, 0),
  (268191, 0, 135, 1, 0),
  (268195, 5, 126, 0, 0),
  (268197, 0, 136, 3, 0),
  (272067, 0, 137, 2, 0),
  (272111, 0, 121, 3, 0),
  (274048, 0, 118, 1, 0),
  (274414, 0, 138, 2, 0),
  (277059, 0, 139, 3, 0),
  (280053, 6, 141, 1, 0),
  (282083, 5, 106, 0, 0),
  (282100, 5, 100, 1, 0),
  (282245, 0, 142, 1, 0),
  (282248, 0, 143, 3, 0),
  (282251, 0, 144, 4, 0),
  (288096, 0, 117, 3, 0),
  (288393, 0, 145, 3, 0),
  (290111, 0, 121, 3, 0),
  (292055, 1, 133, 1, 0),
  (292077, 9, 147, 1, 4),
  (296065, 1, 149, 0, 0),
  (296069, 3, 24, 3, 0),
  (296073, 1, 151, 1, 0),
  (298343, 6, 150, 0, 0),
  (302329, 6, 152, 1, 0),
  (304138, 9, 28, 2, 1),
  (304144, 0, 138, 2, 0),
  (304148, 0, 153, 2, 0),
  (306048, 0, 118, 1, 0),
  (308116, 0, 23, 1, 0),
  (308120, 0, 25, 1, 0),
  (308215, 1, 155, 0, 7),
  (310031, 1, 93, 1, 7),
  (312116, 0, 23, 1, 0),
  (312219, 1, 157, 3, 9),
  (314038, 3, 25, 1, 0),
  (314048, 1, 19, 1, 10),
  (314056, 1, 158, 2, 9),
  (316060, 1, 159, 0, 7),
  (316071, 1, 59, 5, 2),
  (316075, 1, 155, 0, 7),
  (320116, 0, 23, 1, 0),
  (320219, 1, 157, 3, 9),
  (322116, 0, 23, 1, 0),
  (322123, 0, 24, 3, 0),
  (322226, 1, 162, 3, 9),
  (324038, 3, 25, 1, 0),
  (324079, 1, 163, 1, 10),
  (324083, 1, 63, 2, 6),
  (324089, 3, 62, 3, 0),
  (326060, 1, 61, 1, 10),
  (328116, 0, 23, 1, 0),
  (328230, 1, 165, 1, 10),
  (328234, 1, 168, 2, 9),
  (330064, 1, 166, 1, 10),
  (332067, 1, 167, 1, 7),
  (336048, 1, 19, 1, 10),
  (336056, 1, 158, 2, 9),
  (338116, 0, 23, 1, 0),
  (338123, 0, 24, 3, 0),
  (338230, 1, 165, 1, 10),
  (340116, 0, 23, 1, 0),
  (340123, 0, 24, 3, 0),
  (340238, 1, 171, 2, 1),
  (342121, 1, 163, 1, 10),
  (342125, 1, 63, 2, 6)]
def zst_3 : List (Nat × Nat × Nat × Nat × Nat) := [(344120, 0, 25, 1, 0),
  (344123, 0, 24, 3, 0),
  (344245, 1, 173, 2, 1),
  (346129, 1, 167, 1, 7),
  (348116, 0, 23, 1, 0),
  (348212, 1, 148, 1, 8),
  (348230, 1, 165, 1, 10),
  (348238, 1, 171, 2, 1),
  (348248, 1, 97, 0, 8),
  (348257, 1, 111, 4, 8),
  (350116, 0, 23, 1, 0),
  (350261, 1, 176, 0, 10),
  (352068, 1, 155, 0, 7),
  (354116, 0, 23, 1, 0),
  (354120, 0, 25, 1, 0),
  (354264, 1, 178, 1, 7),
  (358267, 1, 180, 1, 3),
  (360032, 3, 24, 3, 0),
  (362058, 1, 17, 1, 5),
  (362066, 1, 26, 1, 11),
  (362270, 1, 182, 0, 3),
  (362273, 1, 197, 0, 3),
  (362275, 1, 198, 1, 11),
  (362278, 1, 201, 1, 5),
  (362281, 1, 202, 1, 3),
  (364036, 1, 183, 1, 3),
  (364040, 0, 195, 1, 0),
  (364044, 0, 196, 1, 0),
  (366040, 0, 195, 1, 0),
  (366047, 1, 184, 1, 3),
  (366050, 1, 186, 2, 3),
  (366054, 0, 193, 1, 0),
  (366060, 1, 194, 2, 3),
  (368063, 1, 185, 3, 3),
  (370032, 3, 24, 3, 0),
  (372067, 0, 187, 1, 0),
  (372071, 1, 188, 3, 3),
  (376075, 1, 122, 0, 13),
  (376080, 1, 189, 1, 13),
  (378492, 1, 190, 0, 13),
  (378495, 0, 191, 2, 0),
  (378498, 0, 192, 2, 0),
  (382009, 0, 138, 2, 0),
  (384067, 0, 137, 2, 0),
  (384071, 0, 153, 2, 0),
  (388054, 0, 193, 1, 0),
  (388063, 1, 185, 3, 3),
  (396062, 1, 22, 3, 1),
  (396070, 1, 30, 3, 1),
  (396073, 1, 32, 3, 1),
  (396076, 1, 34, 2, 1),
  (396080, 1, 36, 2, 1),
  (396083, 1, 38, 2, 1),
  (396086, 1, 40, 2, 1),
  (396093, 1, 45, 3, 1),
  (396096, 1, 48, 3, 1),
  (396099, 1, 50, 2, 1),
  (396102, 1, 56, 3, 1),
  (396105, 1, 58, 1, 1),
  (396294, 1, 199, 2, 3),
  (396297, 1, 200, 1, 3),
  (398032, 3, 24, 3, 0),
  (400032, 3, 24, 3, 0),
  (402025, 1, 18, 1, 1),
  (404032, 3, 24, 3, 0),
  (406284, 1, 18, 1, 1),
  (408058, 1, 17, 1, 5),
  (408066, 1, 26, 1, 11),
  (408284, 1, 18, 1, 1),
  (410287, 1, 206, 1, 5),
  (412025, 1, 18, 1, 1),
  (414003, 7, 1, 0, 0),
  (414039, 0, 208, 2, 0),
  (418039, 0, 208, 2, 0),
  (418045, 0, 211, 3, 0),
  (418071, 0, 210, 1, 0),
  (418075, 0, 212, 1, 0),
  (418078, 1, 213, 2, 12),
  (420045, 0, 211, 3, 0),
  (424045, 0, 211, 3, 0),
  (426068, 1, 214, 0, 12),
  (428053, 1, 215, 1, 12),
  (430062, 8, 0, 5, 0),
  (432039, 0, 208, 2, 0),
  (432045, 0, 211, 3, 0),
  (432071, 0, 210, 1, 0),
  (432075, 0, 212, 1, 0),
  (432078, 1, 213, 2, 12),
  (434039, 0, 208, 2, 0),
  (434045, 0, 211, 3, 0),
  (434071, 0, 210, 1, 0),
  (434075, 0, 212, 1, 0),
  (434078, 1, 213, 2, 12),
  (436039, 0, 208, 2, 0),
  (436045, 0, 211, 3, 0),
  (436071, 0, 210, 1, 0),
  (436078, 1, 213, 2, 12),
  (438045, 0, 211, 3, 0),
  (438081, 1, 220, 2, 12),
  (440078, 1, 213, 2, 12)]
def zst_4 : List (Nat × Nat × Nat × Nat × Nat) := [(442045, 0, 211, 3, 0),
  (442081, 1, 220, 2, 12),
  (444045, 0, 211, 3, 0),
  (444081, 1, 220, 2, 12),
  (446081, 1, 220, 2, 12),
  (448045, 0, 211, 3, 0),
  (448071, 0, 210, 1, 0),
  (448091, 1, 225, 4, 12),
  (450039, 0, 208, 2, 0),
  (450078, 1, 213, 2, 12),
  (450085, 1, 226, 2, 12),
  (452039, 0, 208, 2, 0),
  (454045, 0, 211, 3, 0),
  (454071, 0, 210, 1, 0),
  (454091, 1, 225, 4, 12),
  (456039, 0, 208, 2, 0),
  (456078, 1, 213, 2, 12),
  (456085, 1, 226, 2, 12),
  (456095, 1, 229, 2, 12),
  (456099, 1, 230, 3, 12),
  (458071, 0, 210, 1, 0),
  (458085, 1, 226, 2, 12),
  (460039, 0, 208, 2, 0),
  (462068, 1, 214, 0, 12),
  (462085, 1, 226, 2, 12),
  (462095, 1, 229, 2, 12),
  (462099, 1, 230, 3, 12),
  (464068, 1, 214, 0, 12),
  (464164, 1, 233, 0, 12),
  (464171, 1, 234, 0, 12),
  (468164, 1, 233, 0, 12),
  (468168, 1, 235, 2, 12),
  (470039, 0, 208, 2, 0),
  (470085, 1, 226, 2, 12),
  (470106, 9, 72, 2, 3),
  (470118, 9, 73, 2, 2),
  (470136, 1, 237, 3, 12),
  (470140, 1, 243, 6, 12),
  (470154, 1, 236, 2, 12),
  (470157, 1, 248, 2, 12),
  (470160, 1, 249, 3, 12),
  (472136, 1, 237, 3, 12),
  (472140, 1, 243, 6, 12),
  (472144, 1, 245, 3, 12),
  (472147, 1, 246, 2, 12),
  (472150, 1, 247, 2, 12),
  (474125, 1, 238, 2, 12),
  (474128, 1, 240, 2, 12),
  (476103, 1, 239, 2, 12),
  (478085, 1, 226, 2, 12),
  (480114, 1, 241, 2, 12),
  (480121, 1, 242, 1, 12),
  (482106, 9, 72, 2, 3),
  (484106, 9, 72, 2, 3),
  (484114, 1, 241, 2, 12),
  (484118, 9, 73, 2, 2),
  (486039, 0, 208, 2, 0),
  (486085, 1, 226, 2, 12),
  (486132, 0, 244, 3, 0),
  (488039, 0, 208, 2, 0),
  (490039, 0, 208, 2, 0),
  (492085, 1, 226, 2, 12),
  (494039, 0, 208, 2, 0),
  (494085, 1, 226, 2, 12),
  (494136, 1, 237, 3, 12),
  (496085, 1, 226, 2, 12),
  (496132, 0, 244, 3, 0),
  (498039, 0, 208, 2, 0),
  (498085, 1, 226, 2, 12),
  (498106, 9, 72, 2, 3),
  (498140, 1, 243, 6, 12),
  (500039, 0, 208, 2, 0),
  (500068, 1, 214, 0, 12),
  (500085, 1, 226, 2, 12),
  (500099, 1, 230, 3, 12),
  (500164, 1, 233, 0, 12),
  (502164, 1, 233, 0, 12),
  (504045, 0, 211, 3, 0),
  (504071, 0, 210, 1, 0),
  (504075, 0, 212, 1, 0),
  (504085, 1, 226, 2, 12),
  (506045, 0, 211, 3, 0),
  (506085, 1, 226, 2, 12),
  (508045, 0, 211, 3, 0),
  (508071, 0, 210, 1, 0),
  (508085, 1, 226, 2, 12),
  (508095, 1, 229, 2, 12),
  (510085, 1, 226, 2, 12),
  (510095, 1, 229, 2, 12),
  (512045, 0, 211, 3, 0),
  (512071, 0, 210, 1, 0),
  (512075, 0, 212, 1, 0),
  (512136, 1, 237, 3, 12),
  (514045, 0, 211, 3, 0),
  (514144, 1, 245, 3, 12),
  (514176, 1, 258, 2, 12),
  (516071, 0, 210, 1, 0),
  (516075, 0, 212, 1, 0),
  (516164, 1, 233, 0, 12),
  (518071, 0, 210, 1, 0)]
def zst_5 : List (Nat × Nat × Nat × Nat × Nat) := [(518136, 1, 237, 3, 12),
  (518144, 1, 245, 3, 12),
  (518164, 1, 233, 0, 12),
  (520071, 0, 210, 1, 0),
  (520085, 1, 226, 2, 12),
  (522085, 1, 226, 2, 12),
  (522176, 1, 258, 2, 12),
  (524045, 0, 211, 3, 0),
  (524132, 0, 244, 3, 0),
  (524176, 1, 258, 2, 12),
  (524183, 1, 263, 3, 12),
  (526085, 1, 226, 2, 12),
  (528132, 0, 244, 3, 0),
  (528176, 1, 258, 2, 12),
  (528183, 1, 263, 3, 12),
  (530085, 1, 226, 2, 12),
  (530132, 0, 244, 3, 0),
  (530176, 1, 258, 2, 12),
  (530230, 1, 266, 4, 12),
  (530234, 1, 270, 1, 12),
  (532212, 1, 268, 1, 12),
  (532222, 1, 267, 1, 12),
  (532226, 1, 269, 1, 12),
  (534203, 1, 122, 0, 13),
  (534208, 1, 189, 1, 13),
  (534212, 1, 268, 1, 12),
  (538212, 1, 268, 1, 12),
  (540045, 0, 211, 3, 0),
  (542176, 1, 258, 2, 12),
  (542238, 1, 272, 2, 12),
  (544085, 1, 226, 2, 12),
  (544132, 0, 244, 3, 0),
  (546071, 0, 210, 1, 0),
  (546164, 1, 233, 0, 12),
  (546249, 1, 274, 2, 12),
  (548039, 0, 208, 2, 0),
  (548164, 1, 233, 0, 12),
  (548171, 1, 234, 0, 12),
  (548238, 1, 272, 2, 12),
  (548241, 1, 275, 0, 12),
  (548244, 1, 276, 0, 12),
  (550062, 8, 0, 5, 0),
  (552062, 8, 0, 5, 0),
  (554071, 0, 210, 1, 0),
  (554164, 1, 233, 0, 12),
  (554249, 1, 274, 2, 12),
  (556045, 0, 211, 3, 0),
  (556071, 0, 210, 1, 0),
  (556085, 1, 226, 2, 12),
  (556125, 1, 238, 2, 12),
  (556128, 1, 240, 2, 12),
  (556164, 1, 233, 0, 12),
  (558071, 0, 210, 1, 0),
  (558164, 1, 233, 0, 12),
  (558171, 1, 234, 0, 12),
  (558241, 1, 275, 0, 12),
  (558244, 1, 276, 0, 12),
  (558252, 1, 280, 1, 12),
  (560164, 1, 233, 0, 12),
  (560238, 1, 272, 2, 12),
  (562045, 0, 211, 3, 0),
  (562071, 0, 210, 1, 0),
  (562259, 1, 282, 2, 12),
  (564045, 0, 211, 3, 0),
  (564164, 1, 233, 0, 12),
  (564256, 1, 283, 3, 12),
  (566085, 1, 226, 2, 12),
  (566132, 0, 244, 3, 0),
  (568045, 0, 211, 3, 0),
  (568071, 0, 210, 1, 0),
  (568125, 1, 238, 2, 12),
  (568128, 1, 240, 2, 12),
  (568164, 1, 233, 0, 12),
  (570045, 0, 211, 3, 0),
  (570075, 0, 212, 1, 0),
  (570164, 1, 233, 0, 12),
  (570256, 1, 283, 3, 12),
  (572071, 0, 210, 1, 0),
  (572125, 1, 238, 2, 12),
  (572128, 1, 240, 2, 12),
  (572164, 1, 233, 0, 12),
  (572230, 1, 266, 4, 12),
  (572234, 1, 270, 1, 12),
  (572259, 1, 282, 2, 12),
  (574071, 0, 210, 1, 0),
  (574164, 1, 233, 0, 12),
  (574238, 1, 272, 2, 12),
  (576085, 1, 226, 2, 12),
  (576132, 0, 244, 3, 0),
  (576176, 1, 258, 2, 12),
  (578045, 0, 211, 3, 0),
  (580053, 1, 215, 1, 12),
  (580062, 8, 0, 5, 0),
  (580296, 1, 292, 0, 12),
  (580341, 1, 291, 1, 12),
  (582045, 0, 211, 3, 0),
  (582296, 1, 292, 0, 12),
  (582332, 1, 293, 1, 12),
  (582335, 1, 295, 1, 12),
  (582338, 1, 296, 1, 12)]
def zst_6 : List (Nat × Nat × Nat × Nat × Nat) := [(586292, 1, 294, 2, 12),
  (588203, 1, 122, 0, 13),
  (588208, 1, 189, 1, 13),
  (590045, 0, 211, 3, 0),
  (590296, 1, 292, 0, 12),
  (592302, 1, 209, 3, 12),
  (592304, 1, 216, 3, 12),
  (592306, 1, 217, 3, 12),
  (592308, 1, 224, 3, 12),
  (592310, 1, 227, 3, 12),
  (592312, 1, 231, 3, 12),
  (592315, 1, 218, 2, 12),
  (592318, 1, 219, 2, 12),
  (592321, 1, 221, 2, 12),
  (592324, 1, 222, 2, 12),
  (592326, 1, 228, 2, 12),
  (592329, 1, 232, 0, 12),
  (594062, 8, 0, 5, 0),
  (594164, 1, 233, 0, 12),
  (596062, 8, 0, 5, 0),
  (596068, 1, 214, 0, 12),
  (596164, 1, 233, 0, 12),
  (598062, 8, 0, 5, 0),
  (600009, 2, 0, 0, 0),
  (600012, 2, 207, 0, 0),
  (600013, 1, 16, 3, 11),
  (600017, 1, 209, 3, 12),
  (600018, 1, 29, 3, 11),
  (600021, 1, 216, 3, 12),
  (600022, 1, 31, 3, 11),
  (600025, 1, 217, 3, 12),
  (600026, 1, 33, 2, 11),
  (600030, 1, 218, 2, 12),
  (600031, 1, 35, 2, 11),
  (600034, 1, 219, 2, 12),
  (600035, 1, 37, 2, 11),
  (600038, 1, 221, 2, 12),
  (600039, 1, 39, 2, 11),
  (600042, 1, 222, 2, 12),
  (600043, 1, 42, 0, 11),
  (600047, 1, 223, 0, 12),
  (600048, 1, 44, 3, 11),
  (600051, 1, 224, 3, 12),
  (600052, 1, 47, 3, 11),
  (600055, 1, 227, 3, 12),
  (600056, 1, 49, 2, 11),
  (600059, 1, 228, 2, 12),
  (600060, 1, 55, 3, 11),
  (600063, 1, 231, 3, 12),
  (600064, 1, 57, 0, 11),
  (600067, 1, 232, 0, 12),
  (600068, 1, 77, 0, 11),
  (600071, 1, 250, 0, 12),
  (600072, 1, 81, 0, 11),
  (600075, 1, 251, 0, 12),
  (600076, 1, 82, 3, 11),
  (600079, 1, 252, 3, 12),
  (600080, 1, 83, 2, 11),
  (600083, 1, 253, 2, 12),
  (600084, 1, 85, 3, 11),
  (600087, 1, 254, 3, 12),
  (600088, 1, 86, 2, 11),
  (600092, 1, 255, 2, 12),
  (600093, 1, 87, 3, 11),
  (600097, 1, 256, 3, 12),
  (600098, 1, 88, 3, 11),
  (600101, 1, 257, 3, 12),
  (600102, 1, 89, 1, 11),
  (600106, 1, 259, 1, 12),
  (600107, 1, 90, 1, 11),
  (600110, 1, 260, 1, 12),
  (600111, 1, 91, 2, 11),
  (600114, 1, 261, 2, 12),
  (600115, 1, 92, 4, 11),
  (600119, 1, 262, 4, 12),
  (600120, 1, 94, 3, 11),
  (600123, 1, 264, 3, 12),
  (600124, 1, 95, 3, 11),
  (600127, 1, 265, 3, 12),
  (600128, 1, 154, 2, 11),
  (600131, 1, 271, 2, 12),
  (600132, 1, 156, 1, 11),
  (600135, 1, 273, 1, 12),
  (600136, 1, 160, 1, 11),
  (600139, 1, 277, 1, 12),
  (600140, 1, 161, 2, 11),
  (600143, 1, 278, 2, 12),
  (600144, 1, 164, 1, 11),
  (600147, 1, 279, 1, 12),
  (600148, 1, 169, 2, 11),
  (600151, 1, 281, 2, 12),
  (600152, 1, 170, 2, 11),
  (600155, 1, 284, 2, 12),
  (600156, 1, 172, 2, 11),
  (600159, 1, 285, 2, 12),
  (600160, 1, 174, 2, 11),
  (600163, 1, 286, 2, 12),
  (600164, 1, 175, 1, 11),
  (600168, 1, 287, 1, 12),
  (600169, 1, 177, 2, 11)]
def zst_7 : List (Nat × Nat × Nat × Nat × Nat) := [(600172, 1, 288, 2, 12),
  (600173, 1, 179, 1, 11),
  (600176, 1, 289, 1, 12),
  (600177, 1, 181, 0, 11),
  (600180, 1, 290, 0, 12),
  (600181, 1, 203, 0, 11),
  (600184, 1, 297, 0, 12),
  (600185, 1, 204, 0, 11),
  (600188, 1, 298, 0, 12),
  (600189, 1, 205, 0, 11),
  (600192, 1, 299, 0, 12)]
def zst : List (Nat × Nat × Nat × Nat × Nat) := zst_0 ++ (zst_1 ++ (zst_2 ++ (zst_3 ++ (zst_4 ++ (zst_5 ++ (zst_6 ++ (zst_7)))))))
def zft_0 : List (Nat × Nat × Nat) := [(10, 11, 0),
  (19, 11, 1),
  (23, 11, 2),
  (26, 11, 3),
  (33, 11, 4),
  (40, 11, 5),
  (47, 11, 6),
  (54, 11, 7),
  (4011, 1, 0),
  (4020, 1, 1),
  (4024, 1, 2),
  (4028, 1, 3),
  (4031, 1, 4),
  (6009, 6, 0),
  (6016, 6, 1),
  (6019, 6, 2),
  (6022, 6, 3),
  (6025, 6, 4),
  (8009, 10, 0),
  (8015, 10, 1),
  (8018, 10, 2),
  (8024, 10, 3),
  (8031, 10, 4),
  (8035, 10, 5),
  (8039, 10, 6),
  (10009, 4, 0),
  (10015, 4, 1),
  (10018, 4, 2),
  (10021, 4, 3),
  (10025, 4, 4),
  (12013, 5, 0),
  (12017, 5, 1),
  (12021, 5, 2),
  (14011, 3, 0),
  (14015, 3, 1),
  (14019, 3, 2),
  (14022, 3, 3),
  (14026, 3, 4),
  (14029, 3, 5),
  (16009, 2, 0),
  (18012, 9, 0),
  (18021, 9, 1),
  (18028, 9, 2),
  (20011, 7, 0),
  (20015, 7, 1),
  (20019, 7, 2),
  (20023, 7, 3),
  (22012, 8, 0),
  (22018, 8, 1),
  (26015, 0, 0),
  (26022, 0, 1),
  (32010, 11, 0),
  (32019, 11, 1),
  (34013, 5, 0),
  (34017, 5, 1),
  (36011, 1, 0),
  (36020, 1, 1),
  (36024, 1, 2),
  (36028, 1, 3),
  (36031, 1, 4),
  (38009, 10, 0),
  (38015, 10, 1),
  (38018, 10, 2),
  (38024, 10, 3),
  (38031, 10, 4),
  (38035, 10, 5),
  (38039, 10, 6),
  (40009, 4, 0),
  (40015, 4, 1),
  (40018, 4, 2),
  (40021, 4, 3),
  (40025, 4, 4),
  (42009, 6, 0),
  (42016, 6, 1),
  (42019, 6, 2),
  (42022, 6, 3),
  (42025, 6, 4),
  (44011, 1, 0),
  (44054, 10, 0),
  (52019, 11, 1),
  (54017, 5, 1),
  (54021, 5, 2),
  (58010, 11, 0),
  (58019, 11, 1),
  (60011, 1, 0),
  (60054, 10, 0),
  (62010, 11, 0),
  (62019, 11, 1),
  (64011, 1, 0),
  (64054, 10, 0),
  (66010, 11, 0),
  (66019, 11, 1),
  (68011, 1, 0),
  (68058, 10, 5),
  (70010, 11, 0),
  (70019, 11, 1),
  (72020, 1, 1),
  (72031, 1, 4),
  (72061, 6, 0),
  (74010, 11, 0)]
def zft_1 : List (Nat × Nat × Nat) := [(74019, 11, 1),
  (76020, 1, 1),
  (76031, 1, 4),
  (76065, 6, 1),
  (78010, 11, 0),
  (78019, 11, 1),
  (80020, 1, 1),
  (80031, 1, 4),
  (80072, 6, 4),
  (80075, 6, 2),
  (80078, 6, 3),
  (82019, 6, 2),
  (82025, 6, 4),
  (84010, 11, 0),
  (84019, 11, 1),
  (86020, 1, 1),
  (86031, 1, 4),
  (86072, 6, 4),
  (88010, 11, 0),
  (88019, 11, 1),
  (90011, 1, 0),
  (90081, 10, 4),
  (92009, 4, 0),
  (92015, 4, 1),
  (92018, 4, 2),
  (92021, 4, 3),
  (92025, 4, 4),
  (94010, 11, 0),
  (94019, 11, 1),
  (96011, 1, 0),
  (96081, 10, 4),
  (98010, 11, 0),
  (98019, 11, 1),
  (100011, 1, 0),
  (100081, 10, 4),
  (102025, 4, 4),
  (104025, 4, 4),
  (108009, 4, 0),
  (108015, 4, 1),
  (108018, 4, 2),
  (108021, 4, 3),
  (110010, 11, 0),
  (110019, 11, 1),
  (112011, 1, 0),
  (112081, 10, 4),
  (112102, 4, 0),
  (114010, 11, 0),
  (114019, 11, 1),
  (114040, 11, 5),
  (116011, 1, 0),
  (116020, 1, 1),
  (116024, 1, 2),
  (116031, 1, 4),
  (116114, 10, 3),
  (118009, 2, 0),
  (118039, 10, 6),
  (118049, 7, 3),
  (118052, 10, 5),
  (118067, 10, 4),
  (122009, 10, 0),
  (128009, 6, 0),
  (128016, 6, 1),
  (130019, 6, 2),
  (130022, 6, 3),
  (130025, 6, 4),
  (132009, 2, 0),
  (136011, 7, 0),
  (136015, 7, 1),
  (136019, 7, 2),
  (136023, 7, 3),
  (138009, 2, 0),
  (138083, 10, 2),
  (140009, 10, 0),
  (140015, 10, 1),
  (142009, 10, 0),
  (142015, 10, 1),
  (142018, 10, 2),
  (148086, 4, 4),
  (148091, 4, 3),
  (150009, 4, 0),
  (150015, 4, 1),
  (150021, 4, 3),
  (154010, 11, 0),
  (154019, 11, 1),
  (156011, 1, 0),
  (156024, 1, 2),
  (156028, 1, 3),
  (158009, 10, 0),
  (158024, 10, 3),
  (158031, 10, 4),
  (160021, 4, 3),
  (160025, 4, 4),
  (162010, 11, 0),
  (162112, 1, 2),
  (164010, 11, 0),
  (164127, 1, 0),
  (164131, 10, 0),
  (166010, 11, 0),
  (166127, 1, 0),
  (166137, 10, 5)]
def zft_2 : List (Nat × Nat × Nat) := [(166140, 1, 1),
  (168009, 6, 0),
  (168016, 6, 1),
  (168019, 6, 2),
  (168022, 6, 3),
  (168025, 6, 4),
  (170010, 11, 0),
  (170127, 1, 0),
  (170149, 10, 4),
  (170153, 4, 4),
  (170161, 4, 0),
  (170164, 4, 1),
  (170167, 4, 2),
  (172010, 11, 0),
  (172127, 1, 0),
  (172149, 10, 4),
  (172172, 4, 3),
  (174010, 11, 0),
  (174040, 11, 5),
  (174127, 1, 0),
  (174140, 1, 1),
  (174176, 2, 0),
  (176010, 11, 0),
  (176112, 1, 2),
  (176127, 1, 0),
  (176185, 10, 2),
  (178010, 11, 0),
  (178040, 11, 5),
  (178112, 1, 2),
  (178127, 1, 0),
  (178140, 1, 1),
  (178176, 2, 0),
  (178185, 10, 2),
  (180010, 11, 0),
  (180127, 1, 0),
  (180190, 10, 6),
  (182010, 11, 0),
  (182127, 1, 0),
  (182194, 10, 3),
  (182198, 7, 2),
  (184010, 11, 0),
  (184127, 1, 0),
  (184194, 10, 3),
  (184202, 7, 0),
  (186019, 7, 2),
  (188010, 11, 0),
  (188127, 1, 0),
  (188194, 10, 3),
  (188205, 7, 1),
  (190010, 11, 0),
  (190054, 11, 7),
  (190127, 1, 0),
  (190194, 10, 3),
  (192029, 7, 2),
  (192035, 7, 0),
  (192039, 7, 1),
  (194012, 8, 0),
  (198015, 0, 0),
  (198073, 0, 2),
  (198079, 0, 3),
  (200015, 0, 0),
  (200022, 0, 1),
  (202015, 0, 0),
  (202022, 0, 1),
  (212022, 0, 1),
  (222012, 8, 0),
  (228079, 0, 3),
  (230015, 0, 0),
  (230079, 0, 3),
  (244009, 13, 0),
  (246015, 13, 1),
  (248015, 0, 0),
  (248022, 0, 1),
  (250022, 0, 1),
  (252015, 0, 0),
  (252022, 0, 1),
  (252079, 0, 3),
  (264009, 13, 0),
  (268015, 0, 0),
  (268079, 0, 3),
  (282015, 0, 0),
  (282079, 0, 3),
  (292012, 8, 0),
  (292018, 8, 1),
  (296012, 8, 0),
  (300079, 0, 3),
  (304015, 0, 0),
  (304022, 0, 1),
  (304079, 0, 3),
  (308010, 11, 0),
  (308127, 1, 0),
  (308194, 10, 3),
  (310015, 7, 1),
  (310019, 7, 2),
  (312010, 11, 0),
  (312047, 11, 6),
  (312112, 1, 2),
  (314021, 9, 1),
  (314032, 1, 2),
  (314044, 1, 0)]
def zft_3 : List (Nat × Nat × Nat) := [(314052, 10, 0),
  (316012, 9, 0),
  (316021, 9, 1),
  (316028, 9, 2),
  (316063, 1, 1),
  (316067, 1, 4),
  (318019, 7, 2),
  (318023, 7, 3),
  (320010, 11, 0),
  (320047, 11, 6),
  (320112, 1, 2),
  (322010, 11, 0),
  (322047, 11, 6),
  (322112, 1, 2),
  (324032, 1, 2),
  (324044, 1, 0),
  (324052, 10, 0),
  (324063, 1, 1),
  (328010, 11, 0),
  (328047, 11, 6),
  (328127, 1, 0),
  (332024, 10, 3),
  (334011, 7, 0),
  (334015, 7, 1),
  (334019, 7, 2),
  (336021, 9, 1),
  (336032, 1, 2),
  (336044, 1, 0),
  (338010, 11, 0),
  (338127, 1, 0),
  (340010, 11, 0),
  (342011, 1, 0),
  (342020, 1, 1),
  (342024, 1, 2),
  (344010, 11, 0),
  (344112, 1, 2),
  (346011, 1, 0),
  (346114, 10, 3),
  (348010, 11, 0),
  (348054, 11, 7),
  (348112, 1, 2),
  (348127, 1, 0),
  (350010, 11, 0),
  (350127, 1, 0),
  (352024, 10, 3),
  (354010, 11, 0),
  (354127, 1, 0),
  (354194, 10, 3),
  (356011, 7, 0),
  (356019, 7, 2),
  (358033, 11, 4),
  (360011, 3, 0),
  (360015, 3, 1),
  (362010, 11, 0),
  (362019, 11, 1),
  (362033, 11, 4),
  (362274, 3, 2),
  (364015, 3, 1),
  (364019, 3, 2),
  (366011, 3, 0),
  (366015, 3, 1),
  (366019, 3, 2),
  (366022, 3, 3),
  (366026, 3, 4),
  (368015, 3, 1),
  (370011, 3, 0),
  (370015, 3, 1),
  (376011, 3, 0),
  (378009, 13, 0),
  (380015, 13, 1),
  (388011, 3, 0),
  (388019, 3, 2),
  (388029, 3, 5),
  (394015, 3, 1),
  (396010, 11, 0),
  (396033, 11, 4),
  (396040, 11, 5),
  (398019, 3, 2),
  (398029, 3, 5),
  (400019, 3, 2),
  (400022, 3, 3),
  (402013, 5, 0),
  (402017, 5, 1),
  (404019, 3, 2),
  (404026, 3, 4),
  (406010, 11, 0),
  (406023, 11, 2),
  (406026, 11, 3),
  (406112, 1, 2),
  (408010, 11, 0),
  (408019, 11, 1),
  (408023, 11, 2),
  (408026, 11, 3),
  (408112, 1, 2),
  (410010, 11, 0),
  (410019, 11, 1),
  (412013, 5, 0),
  (412017, 5, 1),
  (412021, 5, 2),
  (414009, 12, 0)]
def zft_4 : List (Nat × Nat × Nat) := [(414013, 12, 1),
  (414017, 12, 3),
  (414020, 12, 5),
  (414023, 12, 6),
  (414026, 12, 8),
  (414030, 12, 10),
  (414033, 12, 14),
  (418009, 12, 0),
  (426009, 12, 0),
  (428009, 12, 0),
  (428049, 12, 7),
  (430017, 12, 3),
  (430057, 12, 4),
  (440009, 12, 0),
  (444009, 12, 0),
  (446009, 12, 0),
  (450009, 12, 0),
  (452009, 12, 0),
  (460009, 12, 0),
  (466009, 12, 0),
  (468009, 12, 0),
  (470009, 12, 0),
  (482009, 12, 0),
  (484009, 12, 0),
  (486009, 12, 0),
  (490009, 12, 0),
  (492009, 12, 0),
  (494009, 12, 0),
  (496009, 12, 0),
  (498009, 12, 0),
  (500009, 12, 0),
  (506009, 12, 0),
  (524009, 12, 0),
  (528009, 12, 0),
  (530009, 12, 0),
  (530186, 12, 9),
  (536026, 12, 8),
  (536186, 12, 9),
  (540026, 12, 8),
  (540186, 12, 9),
  (544009, 12, 0),
  (548009, 12, 0),
  (550009, 12, 0),
  (550020, 12, 5),
  (552009, 12, 0),
  (552020, 12, 5),
  (566009, 12, 0),
  (572009, 12, 0),
  (572186, 12, 9),
  (576009, 12, 0),
  (578030, 12, 10),
  (578264, 12, 11),
  (580009, 12, 0),
  (580023, 12, 6),
  (580049, 12, 7),
  (580264, 12, 11),
  (580266, 12, 12),
  (580299, 12, 13),
  (582266, 12, 12),
  (582299, 12, 13),
  (584030, 12, 10),
  (584264, 12, 11),
  (584266, 12, 12),
  (588030, 12, 10),
  (588266, 12, 12),
  (590033, 12, 14),
  (590266, 12, 12),
  (590299, 12, 13),
  (592033, 12, 14),
  (594009, 12, 0),
  (594013, 12, 1),
  (594345, 12, 2),
  (596009, 12, 0),
  (596013, 12, 1),
  (596345, 12, 2),
  (598009, 12, 0),
  (598017, 12, 3),
  (598057, 12, 4)]
def zft : List (Nat × Nat × Nat) := zft_0 ++ (zft_1 ++ (zft_2 ++ (zft_3 ++ (zft_4))))
def znt_0 : List (Nat × Nat) := [(7, 1),
  (16, 5),
  (30, 3),
  (37, 2),
  (44, 9),
  (51, 8),
  (4009, 10),
  (4017, 6),
  (8028, 4),
  (12011, 1),
  (18009, 2),
  (18018, 10),
  (18025, 7),
  (22009, 0),
  (116105, 7),
  (600007, 11),
  (600010, 12)]
def znt : List (Nat × Nat) := znt_0
def zat_0 : List (Nat × Nat) := [(4009, 4),
  (8022, 5),
  (12011, 6),
  (586204, 7)]
def zat : List (Nat × Nat) := zat_0
def zkt_0 : List (Nat × Int32) := [(6015, 99999),
  (30020, 1073741823),
  (76064, 99999),
  (80064, 99999),
  (90064, 99999),
  (96064, 99999),
  (202039, 2147483647),
  (204200, 2147483639),
  (208200, 2147483639),
  (322223, 99999),
  (414016, 49626),
  (430061, 41355),
  (442084, 99999),
  (444084, 99999),
  (448084, 99999),
  (454084, 99999),
  (556084, 99999)]
def zkt : List (Nat × Int32) := zkt_0
def zlt_0 : List (Nat × Int64) := [(92039, 1000000),
  (118056, 1000000),
  (126049, 1000000),
  (128058, 1000),
  (130049, 1000000),
  (130058, 1000),
  (150039, 1000000),
  (150052, 1000),
  (172170, -1),
  (174170, -1),
  (176170, -1),
  (176183, -2),
  (178188, -9223372036854775808),
  (180170, -1),
  (188188, -9223372036854775808),
  (292083, 48),
  (292085, 10),
  (308170, -1),
  (308183, -2),
  (312170, -1),
  (312183, -2),
  (314042, -2),
  (320170, -1),
  (320183, -2),
  (322224, 1000000),
  (328170, -1),
  (338170, -1),
  (340170, -1),
  (344170, -1),
  (344183, -2),
  (414037, 99999),
  (414043, 30),
  (450089, 1000000),
  (470089, 1000000),
  (478043, 30),
  (480089, 1000000),
  (482112, 1000),
  (484112, 1000),
  (498089, 1000000),
  (498112, 1000),
  (500043, 30),
  (510174, -1),
  (512174, -1),
  (518181, -9223372036854775808),
  (520174, -1),
  (528181, -9223372036854775808),
  (538216, 9),
  (538218, 10),
  (538220, 48),
  (546174, -1),
  (546247, -2),
  (554174, -1),
  (554247, -2),
  (556043, 30),
  (556089, 1000000),
  (558174, -1),
  (562174, -1),
  (568174, -1),
  (570174, -1),
  (570247, -2),
  (576262, 4)]
def zlt : List (Nat × Int64) := zlt_0
def zut_0 : List (Nat × Nat) := [(224087, 12),
  (224089, 13),
  (224091, 14),
  (224093, 15),
  (224095, 16),
  (224097, 17),
  (224099, 18),
  (224101, 19),
  (374084, 0),
  (374086, 1),
  (374088, 2),
  (374090, 3),
  (374092, 4),
  (374094, 5),
  (374096, 6),
  (374098, 7),
  (374100, 8),
  (374102, 9),
  (374104, 10),
  (374106, 11),
  (534189, 20),
  (534191, 21),
  (534193, 22),
  (534195, 23),
  (534196, 24),
  (534198, 25),
  (534199, 26),
  (534201, 27),
  (586269, 28),
  (586271, 29),
  (586273, 30),
  (586275, 31),
  (586277, 32),
  (586279, 33),
  (586281, 34),
  (586283, 35),
  (586285, 36),
  (586287, 37),
  (586289, 38),
  (586291, 39)]
def zut : List (Nat × Nat) := zut_0
def zgt_0 : List (Nat × Nat) := [(26018, 6),
  (212018, 6),
  (232044, 7),
  (239053, 10),
  (242044, 7),
  (242059, 8),
  (242063, 9),
  (246038, 6),
  (250018, 6),
  (261053, 10),
  (277053, 10),
  (286083, 5),
  (286087, 4),
  (288044, 7),
  (290403, 5),
  (290407, 4),
  (306044, 7),
  (306059, 8),
  (306063, 9),
  (344242, 2),
  (348251, 0),
  (348254, 1),
  (366057, 3),
  (380038, 6)]
def zgt : List (Nat × Nat) := zgt_0
/-- the statics: class, name, descriptor, what it holds -/
def zsl : List (String × String × String × Value) := [("PayrollRun", "STATEMENT_KINDS", "[I", .ref 1), ("PayrollRun", "STATEMENT_TOTALS", "[I", .ref 2), ("PayrollRun", "ACCOUNT_KINDS", "[I", .ref 3), ("PayrollRun$CommandText", "NUMBERS_AFTER", "[I", .ref 4), ("java/lang/Integer", "DigitTens", "[B", .ref 5), ("java/lang/Integer", "DigitOnes", "[B", .ref 6), ("java/lang/String", "COMPACT_STRINGS", "Z", .int 1), ("java/lang/StringUTF16", "$assertionsDisabled", "Z", .int 1), ("java/lang/StringUTF16", "HI_BYTE_SHIFT", "I", .int 0), ("java/lang/StringUTF16", "LO_BYTE_SHIFT", "I", .int 8), ("jdk/internal/util/Preconditions", "SIOOBE_FORMATTER", "Ljava/util/function/BiFunction;", .retAddr 0)]
/-- the static arrays: what they hold; the first stands at 1 -/
def zsa : List (FieldType × List Int32) := [(.int, [0, 1, 2, 3, 5, 6, 7]), (.int, [0, 1, 2, 3, 5, 8, 7]), (.int, [3, 1, 2, 5, 7]), (.int, [3, 3, 3, 2, 2, 2, 2, 3, 3, 2, 3, 0]), (.byte, [48, 48, 48, 48, 48, 48, 48, 48, 48, 48, 49, 49, 49, 49, 49, 49, 49, 49, 49, 49, 50, 50, 50, 50, 50, 50, 50, 50, 50, 50, 51, 51, 51, 51, 51, 51, 51, 51, 51, 51, 52, 52, 52, 52, 52, 52, 52, 52, 52, 52, 53, 53, 53, 53, 53, 53, 53, 53, 53, 53, 54, 54, 54, 54, 54, 54, 54, 54, 54, 54, 55, 55, 55, 55, 55, 55, 55, 55, 55, 55, 56, 56, 56, 56, 56, 56, 56, 56, 56, 56, 57, 57, 57, 57, 57, 57, 57, 57, 57, 57]), (.byte, [48, 49, 50, 51, 52, 53, 54, 55, 56, 57, 48, 49, 50, 51, 52, 53, 54, 55, 56, 57, 48, 49, 50, 51, 52, 53, 54, 55, 56, 57, 48, 49, 50, 51, 52, 53, 54, 55, 56, 57, 48, 49, 50, 51, 52, 53, 54, 55, 56, 57, 48, 49, 50, 51, 52, 53, 54, 55, 56, 57, 48, 49, 50, 51, 52, 53, 54, 55, 56, 57, 48, 49, 50, 51, 52, 53, 54, 55, 56, 57, 48, 49, 50, 51, 52, 53, 54, 55, 56, 57, 48, 49, 50, 51, 52, 53, 54, 55, 56, 57])]
/-- the texts of the constants: class, entry, text, its bytes; the object of the j-th stands at 10 + 2 j, its bytes behind it -/
def zsx : List (String × Nat × String × List Int32) := [("PayrollRun$CommandText", 84, "salary", [115, 97, 108, 97, 114, 121]), ("PayrollRun$CommandText", 86, "days", [100, 97, 121, 115]), ("PayrollRun$CommandText", 88, "bonus", [98, 111, 110, 117, 115]), ("PayrollRun$CommandText", 90, "floor", [102, 108, 111, 111, 114]), ("PayrollRun$CommandText", 92, "rate", [114, 97, 116, 101]), ("PayrollRun$CommandText", 94, "cap", [99, 97, 112]), ("PayrollRun$CommandText", 96, "bracket", [98, 114, 97, 99, 107, 101, 116]), ("PayrollRun$CommandText", 98, "fixed", [102, 105, 120, 101, 100]), ("PayrollRun$CommandText", 100, "share", [115, 104, 97, 114, 101]), ("PayrollRun$CommandText", 102, "drop", [100, 114, 111, 112]), ("PayrollRun$CommandText", 104, "move", [109, 111, 118, 101]), ("PayrollRun$CommandText", 106, "close", [99, 108, 111, 115, 101]), ("PayrollRun$SlipText", 87, "gross", [103, 114, 111, 115, 115]), ("PayrollRun$SlipText", 89, "social", [115, 111, 99, 105, 97, 108]), ("PayrollRun$SlipText", 91, "health", [104, 101, 97, 108, 116, 104]), ("PayrollRun$SlipText", 93, "tax", [116, 97, 120]), ("PayrollRun$SlipText", 95, "owed", [111, 119, 101, 100]), ("PayrollRun$SlipText", 97, "garnish", [103, 97, 114, 110, 105, 115, 104]), ("PayrollRun$SlipText", 99, "carry", [99, 97, 114, 114, 121]), ("PayrollRun$SlipText", 101, "pay", [112, 97, 121]), ("PayrollRunModel", 189, "gross", [103, 114, 111, 115, 115]), ("PayrollRunModel", 191, "social", [115, 111, 99, 105, 97, 108]), ("PayrollRunModel", 193, "health", [104, 101, 97, 108, 116, 104]), ("PayrollRunModel", 195, "tax", [116, 97, 120]), ("PayrollRunModel", 196, "owed", [111, 119, 101, 100]), ("PayrollRunModel", 198, "garnish", [103, 97, 114, 110, 105, 115, 104]), ("PayrollRunModel", 199, "carry", [99, 97, 114, 114, 121]), ("PayrollRunModel", 201, "pay", [112, 97, 121]), ("PayrollRunModel", 269, "salary", [115, 97, 108, 97, 114, 121]), ("PayrollRunModel", 271, "days", [100, 97, 121, 115]), ("PayrollRunModel", 273, "bonus", [98, 111, 110, 117, 115]), ("PayrollRunModel", 275, "fixed", [102, 105, 120, 101, 100]), ("PayrollRunModel", 277, "share", [115, 104, 97, 114, 101]), ("PayrollRunModel", 279, "move", [109, 111, 118, 101]), ("PayrollRunModel", 281, "floor", [102, 108, 111, 111, 114]), ("PayrollRunModel", 283, "rate", [114, 97, 116, 101]), ("PayrollRunModel", 285, "cap", [99, 97, 112]), ("PayrollRunModel", 287, "bracket", [98, 114, 97, 99, 107, 101, 116]), ("PayrollRunModel", 289, "drop", [100, 114, 111, 112]), ("PayrollRunModel", 291, "close", [99, 108, 111, 115, 101])]
def znl : List (String × Nat × MethodName × String) := [("PayrollRun", 32, ⟨"PayrollRun$CommandText", "<init>", "()V"⟩, "PayrollRun"), ("PayrollRun", 39, ⟨"PayrollRun$Closing", "<init>", "()V"⟩, "PayrollRun"), ("PayrollRun", 46, ⟨"PayrollRun$Trial", "<init>", "()V"⟩, "PayrollRun"), ("PayrollRun", 53, ⟨"PayrollRun$SlipText", "<init>", "()V"⟩, "PayrollRun"), ("PayrollRun$Books", 19, ⟨"PayrollRun$Rules", "<init>", "()V"⟩, "PayrollRun"), ("PayrollRun$Books", 43, ⟨"PayrollRun", "isEmployee", "(I)Z"⟩, "PayrollRun"), ("PayrollRun$Books", 47, ⟨"PayrollRun", "isMonth", "(I)Z"⟩, "PayrollRun"), ("PayrollRun$Books", 50, ⟨"PayrollRun", "within", "(III)Z"⟩, "PayrollRun"), ("PayrollRun$Books", 107, ⟨"PayrollRun$Slip", "<init>", "()V"⟩, "PayrollRun"), ("PayrollRun$Closing", 15, ⟨"PayrollRun", "isMonth", "(I)Z"⟩, "PayrollRun"), ("PayrollRun$CommandText", 32, ⟨"PayrollRun", "within", "(III)Z"⟩, "PayrollRun"), ("PayrollRun$Garnishments", 35, ⟨"PayrollRun", "within", "(III)Z"⟩, "PayrollRun"), ("PayrollRun$Rules", 35, ⟨"PayrollRun", "within", "(III)Z"⟩, "PayrollRun"), ("PayrollRun$Slip", 27, ⟨"PayrollRun", "within", "(III)Z"⟩, "PayrollRun"), ("PayrollRun$SlipText", 69, ⟨"PayrollRun", "within", "(III)Z"⟩, "PayrollRun"), ("PayrollRun$Trial", 11, ⟨"PayrollRun$Closing", "<init>", "()V"⟩, "PayrollRun"), ("PayrollRun$Trial", 27, ⟨"PayrollRun$Slip", "<init>", "()V"⟩, "PayrollRun"), ("PayrollRun$Trial", 38, ⟨"PayrollRun", "isMonth", "(I)Z"⟩, "PayrollRun"), ("PayrollRun$Trial", 89, ⟨"PayrollRun", "grossPay", "(III)J"⟩, "PayrollRun"), ("PayrollRun$Worker", 30, ⟨"PayrollRun$Garnishments", "<init>", "()V"⟩, "PayrollRun"), ("PayrollRun$Worker", 56, ⟨"PayrollRun", "grossPay", "(III)J"⟩, "PayrollRun")]
def zao : List String := ["PayrollRun$Worker", "PayrollRun$Slip", "PayrollRun$Books", "java/lang/String"]

/-! THE KINDS OF BLOCKS, printed by gen_kind.py: K has the state tyK, getters gK_x, setters sK_x, cells cK a s; rdK: what reads of it come to; wrK: what writes do; gsK: getters of setters -/
abbrev tyW : Type := (Nat → Int32) × (Nat → Int32) × (Nat → Int64) × (Nat → Option Nat) × (Nat → Int32) × (Nat → Int32) × (Nat → Int32) × (Nat → Int64) × Int32 × Int32 × Int64
def gW_en (s : tyW) : Nat → Int32 := s.1
def gW_se (s : tyW) : Nat → Int32 := s.2.1
def gW_am (s : tyW) : Nat → Int64 := s.2.2.1
def gW_sl (s : tyW) : Nat → Option Nat := s.2.2.2.1
def gW_gk (s : tyW) : Nat → Int32 := s.2.2.2.2.1
def gW_gs (s : tyW) : Nat → Int32 := s.2.2.2.2.2.1
def gW_gd (s : tyW) : Nat → Int32 := s.2.2.2.2.2.2.1
def gW_gr (s : tyW) : Nat → Int64 := s.2.2.2.2.2.2.2.1
def gW_gc (s : tyW) : Int32 := s.2.2.2.2.2.2.2.2.1
def gW_fl (s : tyW) : Int32 := s.2.2.2.2.2.2.2.2.2.1
def gW_ow (s : tyW) : Int64 := s.2.2.2.2.2.2.2.2.2.2
def sW_en (s : tyW) (v : Nat → Int32) : tyW := (v, s.2.1, s.2.2.1, s.2.2.2.1, s.2.2.2.2.1, s.2.2.2.2.2.1, s.2.2.2.2.2.2.1, s.2.2.2.2.2.2.2.1, s.2.2.2.2.2.2.2.2.1, s.2.2.2.2.2.2.2.2.2.1, s.2.2.2.2.2.2.2.2.2.2)
def sW_se (s : tyW) (v : Nat → Int32) : tyW := (s.1, v, s.2.2.1, s.2.2.2.1, s.2.2.2.2.1, s.2.2.2.2.2.1, s.2.2.2.2.2.2.1, s.2.2.2.2.2.2.2.1, s.2.2.2.2.2.2.2.2.1, s.2.2.2.2.2.2.2.2.2.1, s.2.2.2.2.2.2.2.2.2.2)
def sW_am (s : tyW) (v : Nat → Int64) : tyW := (s.1, s.2.1, v, s.2.2.2.1, s.2.2.2.2.1, s.2.2.2.2.2.1, s.2.2.2.2.2.2.1, s.2.2.2.2.2.2.2.1, s.2.2.2.2.2.2.2.2.1, s.2.2.2.2.2.2.2.2.2.1, s.2.2.2.2.2.2.2.2.2.2)
def sW_sl (s : tyW) (v : Nat → Option Nat) : tyW := (s.1, s.2.1, s.2.2.1, v, s.2.2.2.2.1, s.2.2.2.2.2.1, s.2.2.2.2.2.2.1, s.2.2.2.2.2.2.2.1, s.2.2.2.2.2.2.2.2.1, s.2.2.2.2.2.2.2.2.2.1, s.2.2.2.2.2.2.2.2.2.2)
def sW_gk (s : tyW) (v : Nat → Int32) : tyW := (s.1, s.2.1, s.2.2.1, s.2.2.2.1, v, s.2.2.2.2.2.1, s.2.2.2.2.2.2.1, s.2.2.2.2.2.2.2.1, s.2.2.2.2.2.2.2.2.1, s.2.2.2.2.2.2.2.2.2.1, s.2.2.2.2.2.2.2.2.2.2)
def sW_gs (s : tyW) (v : Nat → Int32) : tyW := (s.1, s.2.1, s.2.2.1, s.2.2.2.1, s.2.2.2.2.1, v, s.2.2.2.2.2.2.1, s.2.2.2.2.2.2.2.1, s.2.2.2.2.2.2.2.2.1, s.2.2.2.2.2.2.2.2.2.1, s.2.2.2.2.2.2.2.2.2.2)
def sW_gd (s : tyW) (v : Nat → Int32) : tyW := (s.1, s.2.1, s.2.2.1, s.2.2.2.1, s.2.2.2.2.1, s.2.2.2.2.2.1, v, s.2.2.2.2.2.2.2.1, s.2.2.2.2.2.2.2.2.1, s.2.2.2.2.2.2.2.2.2.1, s.2.2.2.2.2.2.2.2.2.2)
def sW_gr (s : tyW) (v : Nat → Int64) : tyW := (s.1, s.2.1, s.2.2.1, s.2.2.2.1, s.2.2.2.2.1, s.2.2.2.2.2.1, s.2.2.2.2.2.2.1, v, s.2.2.2.2.2.2.2.2.1, s.2.2.2.2.2.2.2.2.2.1, s.2.2.2.2.2.2.2.2.2.2)
def sW_gc (s : tyW) (v : Int32) : tyW := (s.1, s.2.1, s.2.2.1, s.2.2.2.1, s.2.2.2.2.1, s.2.2.2.2.2.1, s.2.2.2.2.2.2.1, s.2.2.2.2.2.2.2.1, v, s.2.2.2.2.2.2.2.2.2.1, s.2.2.2.2.2.2.2.2.2.2)
def sW_fl (s : tyW) (v : Int32) : tyW := (s.1, s.2.1, s.2.2.1, s.2.2.2.1, s.2.2.2.2.1, s.2.2.2.2.2.1, s.2.2.2.2.2.2.1, s.2.2.2.2.2.2.2.1, s.2.2.2.2.2.2.2.2.1, v, s.2.2.2.2.2.2.2.2.2.2)
def sW_ow (s : tyW) (v : Int64) : tyW := (s.1, s.2.1, s.2.2.1, s.2.2.2.1, s.2.2.2.2.1, s.2.2.2.2.2.1, s.2.2.2.2.2.2.1, s.2.2.2.2.2.2.2.1, s.2.2.2.2.2.2.2.2.1, s.2.2.2.2.2.2.2.2.2.1, v)
theorem gsW_0 : ∀ (s : tyW) (v : Nat → Int32), gW_en (sW_en s v) = v := fun _ _ => rfl
theorem gsW_1 : ∀ (s : tyW) (v : Nat → Int32), gW_en (sW_se s v) = gW_en s := fun _ _ => rfl
theorem gsW_2 : ∀ (s : tyW) (v : Nat → Int64), gW_en (sW_am s v) = gW_en s := fun _ _ => rfl
theorem gsW_3 : ∀ (s : tyW) (v : Nat → Option Nat), gW_en (sW_sl s v) = gW_en s := fun _ _ => rfl
theorem gsW_4 : ∀ (s : tyW) (v : Nat → Int32), gW_en (sW_gk s v) = gW_en s := fun _ _ => rfl
theorem gsW_5 : ∀ (s : tyW) (v : Nat → Int32), gW_en (sW_gs s v) = gW_en s := fun _ _ => rfl
theorem gsW_6 : ∀ (s : tyW) (v : Nat → Int32), gW_en (sW_gd s v) = gW_en s := fun _ _ => rfl
theorem gsW_7 : ∀ (s : tyW) (v : Nat → Int64), gW_en (sW_gr s v) = gW_en s := fun _ _ => rfl
theorem gsW_8 : ∀ (s : tyW) (v : Int32), gW_en (sW_gc s v) = gW_en s := fun _ _ => rfl
theorem gsW_9 : ∀ (s : tyW) (v : Int32), gW_en (sW_fl s v) = gW_en s := fun _ _ => rfl
theorem gsW_10 : ∀ (s : tyW) (v : Int64), gW_en (sW_ow s v) = gW_en s := fun _ _ => rfl
theorem gsW_11 : ∀ (s : tyW) (v : Nat → Int32), gW_se (sW_en s v) = gW_se s := fun _ _ => rfl
theorem gsW_12 : ∀ (s : tyW) (v : Nat → Int32), gW_se (sW_se s v) = v := fun _ _ => rfl
theorem gsW_13 : ∀ (s : tyW) (v : Nat → Int64), gW_se (sW_am s v) = gW_se s := fun _ _ => rfl
theorem gsW_14 : ∀ (s : tyW) (v : Nat → Option Nat), gW_se (sW_sl s v) = gW_se s := fun _ _ => rfl
theorem gsW_15 : ∀ (s : tyW) (v : Nat → Int32), gW_se (sW_gk s v) = gW_se s := fun _ _ => rfl
theorem gsW_16 : ∀ (s : tyW) (v : Nat → Int32), gW_se (sW_gs s v) = gW_se s := fun _ _ => rfl
theorem gsW_17 : ∀ (s : tyW) (v : Nat → Int32), gW_se (sW_gd s v) = gW_se s := fun _ _ => rfl
theorem gsW_18 : ∀ (s : tyW) (v : Nat → Int64), gW_se (sW_gr s v) = gW_se s := fun _ _ => rfl
theorem gsW_19 : ∀ (s : tyW) (v : Int32), gW_se (sW_gc s v) = gW_se s := fun _ _ => rfl
theorem gsW_20 : ∀ (s : tyW) (v : Int32), gW_se (sW_fl s v) = gW_se s := fun _ _ => rfl
theorem gsW_21 : ∀ (s : tyW) (v : Int64), gW_se (sW_ow s v) = gW_se s := fun _ _ => rfl
theorem gsW_22 : ∀ (s : tyW) (v : Nat → Int32), gW_am (sW_en s v) = gW_am s := fun _ _ => rfl
theorem gsW_23 : ∀ (s : tyW) (v : Nat → Int32), gW_am (sW_se s v) = gW_am s := fun _ _ => rfl
theorem gsW_24 : ∀ (s : tyW) (v : Nat → Int64), gW_am (sW_am s v) = v := fun _ _ => rfl
theorem gsW_25 : ∀ (s : tyW) (v : Nat → Option Nat), gW_am (sW_sl s v) = gW_am s := fun _ _ => rfl
theorem gsW_26 : ∀ (s : tyW) (v : Nat → Int32), gW_am (sW_gk s v) = gW_am s := fun _ _ => rfl
theorem gsW_27 : ∀ (s : tyW) (v : Nat → Int32), gW_am (sW_gs s v) = gW_am s := fun _ _ => rfl
theorem gsW_28 : ∀ (s : tyW) (v : Nat → Int32), gW_am (sW_gd s v) = gW_am s := fun _ _ => rfl
theorem gsW_29 : ∀ (s : tyW) (v : Nat → Int64), gW_am (sW_gr s v) = gW_am s := fun _ _ => rfl
theorem gsW_30 : ∀ (s : tyW) (v : Int32), gW_am (sW_gc s v) = gW_am s := fun _ _ => rfl
theorem gsW_31 : ∀ (s : tyW) (v : Int32), gW_am (sW_fl s v) = gW_am s := fun _ _ => rfl
theorem gsW_32 : ∀ (s : tyW) (v : Int64), gW_am (sW_ow s v) = gW_am s := fun _ _ => rfl
theorem gsW_33 : ∀ (s : tyW) (v : Nat → Int32), gW_sl (sW_en s v) = gW_sl s := fun _ _ => rfl
theorem gsW_34 : ∀ (s : tyW) (v : Nat → Int32), gW_sl (sW_se s v) = gW_sl s := fun _ _ => rfl
theorem gsW_35 : ∀ (s : tyW) (v : Nat → Int64), gW_sl (sW_am s v) = gW_sl s := fun _ _ => rfl
theorem gsW_36 : ∀ (s : tyW) (v : Nat → Option Nat), gW_sl (sW_sl s v) = v := fun _ _ => rfl
theorem gsW_37 : ∀ (s : tyW) (v : Nat → Int32), gW_sl (sW_gk s v) = gW_sl s := fun _ _ => rfl
theorem gsW_38 : ∀ (s : tyW) (v : Nat → Int32), gW_sl (sW_gs s v) = gW_sl s := fun _ _ => rfl
theorem gsW_39 : ∀ (s : tyW) (v : Nat → Int32), gW_sl (sW_gd s v) = gW_sl s := fun _ _ => rfl
theorem gsW_40 : ∀ (s : tyW) (v : Nat → Int64), gW_sl (sW_gr s v) = gW_sl s := fun _ _ => rfl
theorem gsW_41 : ∀ (s : tyW) (v : Int32), gW_sl (sW_gc s v) = gW_sl s := fun _ _ => rfl
theorem gsW_42 : ∀ (s : tyW) (v : Int32), gW_sl (sW_fl s v) = gW_sl s := fun _ _ => rfl
theorem gsW_43 : ∀ (s : tyW) (v : Int64), gW_sl (sW_ow s v) = gW_sl s := fun _ _ => rfl
theorem gsW_44 : ∀ (s : tyW) (v : Nat → Int32), gW_gk (sW_en s v) = gW_gk s := fun _ _ => rfl
theorem gsW_45 : ∀ (s : tyW) (v : Nat → Int32), gW_gk (sW_se s v) = gW_gk s := fun _ _ => rfl
theorem gsW_46 : ∀ (s : tyW) (v : Nat → Int64), gW_gk (sW_am s v) = gW_gk s := fun _ _ => rfl
theorem gsW_47 : ∀ (s : tyW) (v : Nat → Option Nat), gW_gk (sW_sl s v) = gW_gk s := fun _ _ => rfl
theorem gsW_48 : ∀ (s : tyW) (v : Nat → Int32), gW_gk (sW_gk s v) = v := fun _ _ => rfl
theorem gsW_49 : ∀ (s : tyW) (v : Nat → Int32), gW_gk (sW_gs s v) = gW_gk s := fun _ _ => rfl
theorem gsW_50 : ∀ (s : tyW) (v : Nat → Int32), gW_gk (sW_gd s v) = gW_gk s := fun _ _ => rfl
theorem gsW_51 : ∀ (s : tyW) (v : Nat → Int64), gW_gk (sW_gr s v) = gW_gk s := fun _ _ => rfl
theorem gsW_52 : ∀ (s : tyW) (v : Int32), gW_gk (sW_gc s v) = gW_gk s := fun _ _ => rfl
theorem gsW_53 : ∀ (s : tyW) (v : Int32), gW_gk (sW_fl s v) = gW_gk s := fun _ _ => rfl
theorem gsW_54 : ∀ (s : tyW) (v : Int64), gW_gk (sW_ow s v) = gW_gk s := fun _ _ => rfl
theorem gsW_55 : ∀ (s : tyW) (v : Nat → Int32), gW_gs (sW_en s v) = gW_gs s := fun _ _ => rfl
theorem gsW_56 : ∀ (s : tyW) (v : Nat → Int32), gW_gs (sW_se s v) = gW_gs s := fun _ _ => rfl
theorem gsW_57 : ∀ (s : tyW) (v : Nat → Int64), gW_gs (sW_am s v) = gW_gs s := fun _ _ => rfl
theorem gsW_58 : ∀ (s : tyW) (v : Nat → Option Nat), gW_gs (sW_sl s v) = gW_gs s := fun _ _ => rfl
theorem gsW_59 : ∀ (s : tyW) (v : Nat → Int32), gW_gs (sW_gk s v) = gW_gs s := fun _ _ => rfl
theorem gsW_60 : ∀ (s : tyW) (v : Nat → Int32), gW_gs (sW_gs s v) = v := fun _ _ => rfl
theorem gsW_61 : ∀ (s : tyW) (v : Nat → Int32), gW_gs (sW_gd s v) = gW_gs s := fun _ _ => rfl
theorem gsW_62 : ∀ (s : tyW) (v : Nat → Int64), gW_gs (sW_gr s v) = gW_gs s := fun _ _ => rfl
theorem gsW_63 : ∀ (s : tyW) (v : Int32), gW_gs (sW_gc s v) = gW_gs s := fun _ _ => rfl
theorem gsW_64 : ∀ (s : tyW) (v : Int32), gW_gs (sW_fl s v) = gW_gs s := fun _ _ => rfl
theorem gsW_65 : ∀ (s : tyW) (v : Int64), gW_gs (sW_ow s v) = gW_gs s := fun _ _ => rfl
theorem gsW_66 : ∀ (s : tyW) (v : Nat → Int32), gW_gd (sW_en s v) = gW_gd s := fun _ _ => rfl
theorem gsW_67 : ∀ (s : tyW) (v : Nat → Int32), gW_gd (sW_se s v) = gW_gd s := fun _ _ => rfl
theorem gsW_68 : ∀ (s : tyW) (v : Nat → Int64), gW_gd (sW_am s v) = gW_gd s := fun _ _ => rfl
theorem gsW_69 : ∀ (s : tyW) (v : Nat → Option Nat), gW_gd (sW_sl s v) = gW_gd s := fun _ _ => rfl
theorem gsW_70 : ∀ (s : tyW) (v : Nat → Int32), gW_gd (sW_gk s v) = gW_gd s := fun _ _ => rfl
theorem gsW_71 : ∀ (s : tyW) (v : Nat → Int32), gW_gd (sW_gs s v) = gW_gd s := fun _ _ => rfl
theorem gsW_72 : ∀ (s : tyW) (v : Nat → Int32), gW_gd (sW_gd s v) = v := fun _ _ => rfl
theorem gsW_73 : ∀ (s : tyW) (v : Nat → Int64), gW_gd (sW_gr s v) = gW_gd s := fun _ _ => rfl
theorem gsW_74 : ∀ (s : tyW) (v : Int32), gW_gd (sW_gc s v) = gW_gd s := fun _ _ => rfl
theorem gsW_75 : ∀ (s : tyW) (v : Int32), gW_gd (sW_fl s v) = gW_gd s := fun _ _ => rfl
theorem gsW_76 : ∀ (s : tyW) (v : Int64), gW_gd (sW_ow s v) = gW_gd s := fun _ _ => rfl
theorem gsW_77 : ∀ (s : tyW) (v : Nat → Int32), gW_gr (sW_en s v) = gW_gr s := fun _ _ => rfl
theorem gsW_78 : ∀ (s : tyW) (v : Nat → Int32), gW_gr (sW_se s v) = gW_gr s := fun _ _ => rfl
theorem gsW_79 : ∀ (s : tyW) (v : Nat → Int64), gW_gr (sW_am s v) = gW_gr s := fun _ _ => rfl
theorem gsW_80 : ∀ (s : tyW) (v : Nat → Option Nat), gW_gr (sW_sl s v) = gW_gr s := fun _ _ => rfl
theorem gsW_81 : ∀ (s : tyW) (v : Nat → Int32), gW_gr (sW_gk s v) = gW_gr s := fun _ _ => rfl
theorem gsW_82 : ∀ (s : tyW) (v : Nat → Int32), gW_gr (sW_gs s v) = gW_gr s := fun _ _ => rfl
theorem gsW_83 : ∀ (s : tyW) (v : Nat → Int32), gW_gr (sW_gd s v) = gW_gr s := fun _ _ => rfl
theorem gsW_84 : ∀ (s : tyW) (v : Nat → Int64), gW_gr (sW_gr s v) = v := fun _ _ => rfl
theorem gsW_85 : ∀ (s : tyW) (v : Int32), gW_gr (sW_gc s v) = gW_gr s := fun _ _ => rfl
theorem gsW_86 : ∀ (s : tyW) (v : Int32), gW_gr (sW_fl s v) = gW_gr s := fun _ _ => rfl
theorem gsW_87 : ∀ (s : tyW) (v : Int64), gW_gr (sW_ow s v) = gW_gr s := fun _ _ => rfl
theorem gsW_88 : ∀ (s : tyW) (v : Nat → Int32), gW_gc (sW_en s v) = gW_gc s := fun _ _ => rfl
theorem gsW_89 : ∀ (s : tyW) (v : Nat → Int32), gW_gc (sW_se s v) = gW_gc s := fun _ _ => rfl
theorem gsW_90 : ∀ (s : tyW) (v : Nat → Int64), gW_gc (sW_am s v) = gW_gc s := fun _ _ => rfl
theorem gsW_91 : ∀ (s : tyW) (v : Nat → Option Nat), gW_gc (sW_sl s v) = gW_gc s := fun _ _ => rfl
theorem gsW_92 : ∀ (s : tyW) (v : Nat → Int32), gW_gc (sW_gk s v) = gW_gc s := fun _ _ => rfl
theorem gsW_93 : ∀ (s : tyW) (v : Nat → Int32), gW_gc (sW_gs s v) = gW_gc s := fun _ _ => rfl
theorem gsW_94 : ∀ (s : tyW) (v : Nat → Int32), gW_gc (sW_gd s v) = gW_gc s := fun _ _ => rfl
theorem gsW_95 : ∀ (s : tyW) (v : Nat → Int64), gW_gc (sW_gr s v) = gW_gc s := fun _ _ => rfl
theorem gsW_96 : ∀ (s : tyW) (v : Int32), gW_gc (sW_gc s v) = v := fun _ _ => rfl
theorem gsW_97 : ∀ (s : tyW) (v : Int32), gW_gc (sW_fl s v) = gW_gc s := fun _ _ => rfl
theorem gsW_98 : ∀ (s : tyW) (v : Int64), gW_gc (sW_ow s v) = gW_gc s := fun _ _ => rfl
theorem gsW_99 : ∀ (s : tyW) (v : Nat → Int32), gW_fl (sW_en s v) = gW_fl s := fun _ _ => rfl
theorem gsW_100 : ∀ (s : tyW) (v : Nat → Int32), gW_fl (sW_se s v) = gW_fl s := fun _ _ => rfl
theorem gsW_101 : ∀ (s : tyW) (v : Nat → Int64), gW_fl (sW_am s v) = gW_fl s := fun _ _ => rfl
theorem gsW_102 : ∀ (s : tyW) (v : Nat → Option Nat), gW_fl (sW_sl s v) = gW_fl s := fun _ _ => rfl
theorem gsW_103 : ∀ (s : tyW) (v : Nat → Int32), gW_fl (sW_gk s v) = gW_fl s := fun _ _ => rfl
theorem gsW_104 : ∀ (s : tyW) (v : Nat → Int32), gW_fl (sW_gs s v) = gW_fl s := fun _ _ => rfl
theorem gsW_105 : ∀ (s : tyW) (v : Nat → Int32), gW_fl (sW_gd s v) = gW_fl s := fun _ _ => rfl
theorem gsW_106 : ∀ (s : tyW) (v : Nat → Int64), gW_fl (sW_gr s v) = gW_fl s := fun _ _ => rfl
theorem gsW_107 : ∀ (s : tyW) (v : Int32), gW_fl (sW_gc s v) = gW_fl s := fun _ _ => rfl
theorem gsW_108 : ∀ (s : tyW) (v : Int32), gW_fl (sW_fl s v) = v := fun _ _ => rfl
theorem gsW_109 : ∀ (s : tyW) (v : Int64), gW_fl (sW_ow s v) = gW_fl s := fun _ _ => rfl
theorem gsW_110 : ∀ (s : tyW) (v : Nat → Int32), gW_ow (sW_en s v) = gW_ow s := fun _ _ => rfl
theorem gsW_111 : ∀ (s : tyW) (v : Nat → Int32), gW_ow (sW_se s v) = gW_ow s := fun _ _ => rfl
theorem gsW_112 : ∀ (s : tyW) (v : Nat → Int64), gW_ow (sW_am s v) = gW_ow s := fun _ _ => rfl
theorem gsW_113 : ∀ (s : tyW) (v : Nat → Option Nat), gW_ow (sW_sl s v) = gW_ow s := fun _ _ => rfl
theorem gsW_114 : ∀ (s : tyW) (v : Nat → Int32), gW_ow (sW_gk s v) = gW_ow s := fun _ _ => rfl
theorem gsW_115 : ∀ (s : tyW) (v : Nat → Int32), gW_ow (sW_gs s v) = gW_ow s := fun _ _ => rfl
theorem gsW_116 : ∀ (s : tyW) (v : Nat → Int32), gW_ow (sW_gd s v) = gW_ow s := fun _ _ => rfl
theorem gsW_117 : ∀ (s : tyW) (v : Nat → Int64), gW_ow (sW_gr s v) = gW_ow s := fun _ _ => rfl
theorem gsW_118 : ∀ (s : tyW) (v : Int32), gW_ow (sW_gc s v) = gW_ow s := fun _ _ => rfl
theorem gsW_119 : ∀ (s : tyW) (v : Int32), gW_ow (sW_fl s v) = gW_ow s := fun _ _ => rfl
theorem gsW_120 : ∀ (s : tyW) (v : Int64), gW_ow (sW_ow s v) = v := fun _ _ => rfl
def cW (a : Nat) (s : tyW) (k : Nat) : zC := match k with
  | 0 => .inr (10, [.ref (a + 1), .ref (a + 2), .ref (a + 3), .ref (a + 4), .ref (a + 5), .int (gW_fl s), .long (gW_ow s)])
  | 1 => .inl (0, 36, .inl (gW_en s))
  | 2 => .inl (0, 36, .inl (gW_se s))
  | 3 => .inl (1, 60, .inr (.inl (gW_am s)))
  | 4 => .inl (5, 12, .inr (.inr (.inr (.inr (gW_sl s)))))
  | 5 => .inr (4, [.ref (a + 6), .ref (a + 7), .ref (a + 8), .ref (a + 9), .int (gW_gc s)])
  | 6 => .inl (0, 3, .inl (gW_gk s))
  | 7 => .inl (0, 3, .inl (gW_gs s))
  | 8 => .inl (0, 3, .inl (gW_gd s))
  | _ => .inl (1, 3, .inr (.inl (gW_gr s)))
theorem rdW_0 {H : zH} {a : Nat} {s : tyW} (hK : isB H a 10 (cW a s)) : zkd H a = 10 := kd_c (hK 0 (Nat.le_of_ble_eq_true rfl))
theorem rdW_1 {H : zH} {a : Nat} {s : tyW} (hK : isB H a 10 (cW a s)) : ∀ (β : Type) (f : Value → Option β), zgf H a 10 0 f = f (.ref (a + 1)) := fun _ f => gf_c (hK 0 (Nat.le_of_ble_eq_true rfl)) rfl f
theorem rdW_2 {H : zH} {a : Nat} {s : tyW} (hK : isB H a 10 (cW a s)) : ∀ (β : Type) (f : Value → Option β), zgf H a 10 1 f = f (.ref (a + 2)) := fun _ f => gf_c (hK 0 (Nat.le_of_ble_eq_true rfl)) rfl f
theorem rdW_3 {H : zH} {a : Nat} {s : tyW} (hK : isB H a 10 (cW a s)) : ∀ (β : Type) (f : Value → Option β), zgf H a 10 2 f = f (.ref (a + 3)) := fun _ f => gf_c (hK 0 (Nat.le_of_ble_eq_true rfl)) rfl f
theorem rdW_4 {H : zH} {a : Nat} {s : tyW} (hK : isB H a 10 (cW a s)) : ∀ (β : Type) (f : Value → Option β), zgf H a 10 3 f = f (.ref (a + 4)) := fun _ f => gf_c (hK 0 (Nat.le_of_ble_eq_true rfl)) rfl f
theorem rdW_5 {H : zH} {a : Nat} {s : tyW} (hK : isB H a 10 (cW a s)) : ∀ (β : Type) (f : Value → Option β), zgf H a 10 4 f = f (.ref (a + 5)) := fun _ f => gf_c (hK 0 (Nat.le_of_ble_eq_true rfl)) rfl f
theorem rdW_6 {H : zH} {a : Nat} {s : tyW} (hK : isB H a 10 (cW a s)) : ∀ (β : Type) (f : Value → Option β), zgf H a 10 5 f = f (.int (gW_fl s)) := fun _ f => gf_c (hK 0 (Nat.le_of_ble_eq_true rfl)) rfl f
theorem rdW_7 {H : zH} {a : Nat} {s : tyW} (hK : isB H a 10 (cW a s)) : ∀ (β : Type) (f : Value → Option β), zgf H a 10 6 f = f (.long (gW_ow s)) := fun _ f => gf_c (hK 0 (Nat.le_of_ble_eq_true rfl)) rfl f
theorem rdW_8 {H : zH} {a : Nat} {s : tyW} (hK : isB H a 10 (cW a s)) : ∀ (β : Type) (f : Int32 → Option β), zal H (a + 1) f = f (nI 36) := fun _ f => al_c (hK 1 (Nat.le_of_ble_eq_true rfl)) (by decide) f
theorem rdW_9 {H : zH} {a : Nat} {s : tyW} (hK : isB H a 10 (cW a s)) : ∀ (β : Type) (f : Int32 → Option β) (k : Nat), k < 36 → zli H (a + 1) 0 (nI k) f = f (gW_en s k) := fun _ f k hk => li_c (hK 1 (Nat.le_of_ble_eq_true rfl)) hk (by omega) f
theorem rdW_10 {H : zH} {a : Nat} {s : tyW} (hK : isB H a 10 (cW a s)) : ∀ (β : Type) (f : Int32 → Option β), zal H (a + 2) f = f (nI 36) := fun _ f => al_c (hK 2 (Nat.le_of_ble_eq_true rfl)) (by decide) f
theorem rdW_11 {H : zH} {a : Nat} {s : tyW} (hK : isB H a 10 (cW a s)) : ∀ (β : Type) (f : Int32 → Option β) (k : Nat), k < 36 → zli H (a + 2) 0 (nI k) f = f (gW_se s k) := fun _ f k hk => li_c (hK 2 (Nat.le_of_ble_eq_true rfl)) hk (by omega) f
theorem rdW_12 {H : zH} {a : Nat} {s : tyW} (hK : isB H a 10 (cW a s)) : ∀ (β : Type) (f : Int32 → Option β), zal H (a + 3) f = f (nI 60) := fun _ f => al_c (hK 3 (Nat.le_of_ble_eq_true rfl)) (by decide) f
theorem rdW_13 {H : zH} {a : Nat} {s : tyW} (hK : isB H a 10 (cW a s)) : ∀ (β : Type) (f : Int64 → Option β) (k : Nat), k < 60 → zlj H (a + 3) (nI k) f = f (gW_am s k) := fun _ f k hk => lj_c (hK 3 (Nat.le_of_ble_eq_true rfl)) hk (by omega) f
theorem rdW_14 {H : zH} {a : Nat} {s : tyW} (hK : isB H a 10 (cW a s)) : ∀ (β : Type) (f : Int32 → Option β), zal H (a + 4) f = f (nI 12) := fun _ f => al_c (hK 4 (Nat.le_of_ble_eq_true rfl)) (by decide) f
theorem rdW_15 {H : zH} {a : Nat} {s : tyW} (hK : isB H a 10 (cW a s)) : ∀ (β : Type) (f : Option Nat → Option β) (k : Nat), k < 12 → zlq H (a + 4) (nI k) f = f (gW_sl s k) := fun _ f k hk => lq_c (hK 4 (Nat.le_of_ble_eq_true rfl)) (by decide) hk (by omega) f
theorem rdW_16 {H : zH} {a : Nat} {s : tyW} (hK : isB H a 10 (cW a s)) : zkd H (a + 5) = 4 := kd_c (hK 5 (Nat.le_of_ble_eq_true rfl))
theorem rdW_17 {H : zH} {a : Nat} {s : tyW} (hK : isB H a 10 (cW a s)) : ∀ (β : Type) (f : Value → Option β), zgf H (a + 5) 4 0 f = f (.ref (a + 6)) := fun _ f => gf_c (hK 5 (Nat.le_of_ble_eq_true rfl)) rfl f
theorem rdW_18 {H : zH} {a : Nat} {s : tyW} (hK : isB H a 10 (cW a s)) : ∀ (β : Type) (f : Value → Option β), zgf H (a + 5) 4 1 f = f (.ref (a + 7)) := fun _ f => gf_c (hK 5 (Nat.le_of_ble_eq_true rfl)) rfl f
theorem rdW_19 {H : zH} {a : Nat} {s : tyW} (hK : isB H a 10 (cW a s)) : ∀ (β : Type) (f : Value → Option β), zgf H (a + 5) 4 2 f = f (.ref (a + 8)) := fun _ f => gf_c (hK 5 (Nat.le_of_ble_eq_true rfl)) rfl f
theorem rdW_20 {H : zH} {a : Nat} {s : tyW} (hK : isB H a 10 (cW a s)) : ∀ (β : Type) (f : Value → Option β), zgf H (a + 5) 4 3 f = f (.ref (a + 9)) := fun _ f => gf_c (hK 5 (Nat.le_of_ble_eq_true rfl)) rfl f
theorem rdW_21 {H : zH} {a : Nat} {s : tyW} (hK : isB H a 10 (cW a s)) : ∀ (β : Type) (f : Value → Option β), zgf H (a + 5) 4 4 f = f (.int (gW_gc s)) := fun _ f => gf_c (hK 5 (Nat.le_of_ble_eq_true rfl)) rfl f
theorem rdW_22 {H : zH} {a : Nat} {s : tyW} (hK : isB H a 10 (cW a s)) : ∀ (β : Type) (f : Int32 → Option β), zal H (a + 6) f = f (nI 3) := fun _ f => al_c (hK 6 (Nat.le_of_ble_eq_true rfl)) (by decide) f
theorem rdW_23 {H : zH} {a : Nat} {s : tyW} (hK : isB H a 10 (cW a s)) : ∀ (β : Type) (f : Int32 → Option β) (k : Nat), k < 3 → zli H (a + 6) 0 (nI k) f = f (gW_gk s k) := fun _ f k hk => li_c (hK 6 (Nat.le_of_ble_eq_true rfl)) hk (by omega) f
theorem rdW_24 {H : zH} {a : Nat} {s : tyW} (hK : isB H a 10 (cW a s)) : ∀ (β : Type) (f : Int32 → Option β), zal H (a + 7) f = f (nI 3) := fun _ f => al_c (hK 7 (Nat.le_of_ble_eq_true rfl)) (by decide) f
theorem rdW_25 {H : zH} {a : Nat} {s : tyW} (hK : isB H a 10 (cW a s)) : ∀ (β : Type) (f : Int32 → Option β) (k : Nat), k < 3 → zli H (a + 7) 0 (nI k) f = f (gW_gs s k) := fun _ f k hk => li_c (hK 7 (Nat.le_of_ble_eq_true rfl)) hk (by omega) f
theorem rdW_26 {H : zH} {a : Nat} {s : tyW} (hK : isB H a 10 (cW a s)) : ∀ (β : Type) (f : Int32 → Option β), zal H (a + 8) f = f (nI 3) := fun _ f => al_c (hK 8 (Nat.le_of_ble_eq_true rfl)) (by decide) f
theorem rdW_27 {H : zH} {a : Nat} {s : tyW} (hK : isB H a 10 (cW a s)) : ∀ (β : Type) (f : Int32 → Option β) (k : Nat), k < 3 → zli H (a + 8) 0 (nI k) f = f (gW_gd s k) := fun _ f k hk => li_c (hK 8 (Nat.le_of_ble_eq_true rfl)) hk (by omega) f
theorem rdW_28 {H : zH} {a : Nat} {s : tyW} (hK : isB H a 10 (cW a s)) : ∀ (β : Type) (f : Int32 → Option β), zal H (a + 9) f = f (nI 3) := fun _ f => al_c (hK 9 (Nat.le_of_ble_eq_true rfl)) (by decide) f
theorem rdW_29 {H : zH} {a : Nat} {s : tyW} (hK : isB H a 10 (cW a s)) : ∀ (β : Type) (f : Int64 → Option β) (k : Nat), k < 3 → zlj H (a + 9) (nI k) f = f (gW_gr s k) := fun _ f k hk => lj_c (hK 9 (Nat.le_of_ble_eq_true rfl)) hk (by omega) f
theorem stW_fl {h : zH} {a : Nat} {s : tyW} (x : Int32) : zset (blk a 10 (cW a s) h) (a + 0) (cW a (sW_fl s x) 0) = blk a 10 (cW a (sW_fl s x)) h :=
  blk_zset (by omega) rfl (fun j hj hn => by
    match j, hj, hn with
    | 0, _, hn => exact absurd rfl hn
    | 1, _, hn => exact rfl
    | 2, _, hn => exact rfl
    | 3, _, hn => exact rfl
    | 4, _, hn => exact rfl
    | 5, _, hn => exact rfl
    | 6, _, hn => exact rfl
    | 7, _, hn => exact rfl
    | 8, _, hn => exact rfl
    | 9, _, hn => exact rfl
    | j + 10, hj, _ => exact absurd hj (by omega))
theorem stW_ow {h : zH} {a : Nat} {s : tyW} (x : Int64) : zset (blk a 10 (cW a s) h) (a + 0) (cW a (sW_ow s x) 0) = blk a 10 (cW a (sW_ow s x)) h :=
  blk_zset (by omega) rfl (fun j hj hn => by
    match j, hj, hn with
    | 0, _, hn => exact absurd rfl hn
    | 1, _, hn => exact rfl
    | 2, _, hn => exact rfl
    | 3, _, hn => exact rfl
    | 4, _, hn => exact rfl
    | 5, _, hn => exact rfl
    | 6, _, hn => exact rfl
    | 7, _, hn => exact rfl
    | 8, _, hn => exact rfl
    | 9, _, hn => exact rfl
    | j + 10, hj, _ => exact absurd hj (by omega))
theorem stW_en {h : zH} {a : Nat} {s : tyW} (g : Nat → Int32) : zset (blk a 10 (cW a s) h) (a + 1) (.inl (0, 36, .inl g)) = blk a 10 (cW a (sW_en s g)) h :=
  blk_zset (by omega) rfl (fun j hj hn => by
    match j, hj, hn with
    | 0, _, hn => exact rfl
    | 1, _, hn => exact absurd rfl hn
    | 2, _, hn => exact rfl
    | 3, _, hn => exact rfl
    | 4, _, hn => exact rfl
    | 5, _, hn => exact rfl
    | 6, _, hn => exact rfl
    | 7, _, hn => exact rfl
    | 8, _, hn => exact rfl
    | 9, _, hn => exact rfl
    | j + 10, hj, _ => exact absurd hj (by omega))
theorem stW_se {h : zH} {a : Nat} {s : tyW} (g : Nat → Int32) : zset (blk a 10 (cW a s) h) (a + 2) (.inl (0, 36, .inl g)) = blk a 10 (cW a (sW_se s g)) h :=
  blk_zset (by omega) rfl (fun j hj hn => by
    match j, hj, hn with
    | 0, _, hn => exact rfl
    | 1, _, hn => exact rfl
    | 2, _, hn => exact absurd rfl hn
    | 3, _, hn => exact rfl
    | 4, _, hn => exact rfl
    | 5, _, hn => exact rfl
    | 6, _, hn => exact rfl
    | 7, _, hn => exact rfl
    | 8, _, hn => exact rfl
    | 9, _, hn => exact rfl
    | j + 10, hj, _ => exact absurd hj (by omega))
theorem stW_am {h : zH} {a : Nat} {s : tyW} (g : Nat → Int64) : zset (blk a 10 (cW a s) h) (a + 3) (.inl (1, 60, .inr (.inl g))) = blk a 10 (cW a (sW_am s g)) h :=
  blk_zset (by omega) rfl (fun j hj hn => by
    match j, hj, hn with
    | 0, _, hn => exact rfl
    | 1, _, hn => exact rfl
    | 2, _, hn => exact rfl
    | 3, _, hn => exact absurd rfl hn
    | 4, _, hn => exact rfl
    | 5, _, hn => exact rfl
    | 6, _, hn => exact rfl
    | 7, _, hn => exact rfl
    | 8, _, hn => exact rfl
    | 9, _, hn => exact rfl
    | j + 10, hj, _ => exact absurd hj (by omega))
theorem stW_sl {h : zH} {a : Nat} {s : tyW} (g : Nat → Option Nat) : zset (blk a 10 (cW a s) h) (a + 4) (.inl (5, 12, .inr (.inr (.inr (.inr g))))) = blk a 10 (cW a (sW_sl s g)) h :=
  blk_zset (by omega) rfl (fun j hj hn => by
    match j, hj, hn with
    | 0, _, hn => exact rfl
    | 1, _, hn => exact rfl
    | 2, _, hn => exact rfl
    | 3, _, hn => exact rfl
    | 4, _, hn => exact absurd rfl hn
    | 5, _, hn => exact rfl
    | 6, _, hn => exact rfl
    | 7, _, hn => exact rfl
    | 8, _, hn => exact rfl
    | 9, _, hn => exact rfl
    | j + 10, hj, _ => exact absurd hj (by omega))
theorem stW_gc {h : zH} {a : Nat} {s : tyW} (x : Int32) : zset (blk a 10 (cW a s) h) (a + 5) (cW a (sW_gc s x) 5) = blk a 10 (cW a (sW_gc s x)) h :=
  blk_zset (by omega) rfl (fun j hj hn => by
    match j, hj, hn with
    | 0, _, hn => exact rfl
    | 1, _, hn => exact rfl
    | 2, _, hn => exact rfl
    | 3, _, hn => exact rfl
    | 4, _, hn => exact rfl
    | 5, _, hn => exact absurd rfl hn
    | 6, _, hn => exact rfl
    | 7, _, hn => exact rfl
    | 8, _, hn => exact rfl
    | 9, _, hn => exact rfl
    | j + 10, hj, _ => exact absurd hj (by omega))
theorem stW_gk {h : zH} {a : Nat} {s : tyW} (g : Nat → Int32) : zset (blk a 10 (cW a s) h) (a + 6) (.inl (0, 3, .inl g)) = blk a 10 (cW a (sW_gk s g)) h :=
  blk_zset (by omega) rfl (fun j hj hn => by
    match j, hj, hn with
    | 0, _, hn => exact rfl
    | 1, _, hn => exact rfl
    | 2, _, hn => exact rfl
    | 3, _, hn => exact rfl
    | 4, _, hn => exact rfl
    | 5, _, hn => exact rfl
    | 6, _, hn => exact absurd rfl hn
    | 7, _, hn => exact rfl
    | 8, _, hn => exact rfl
    | 9, _, hn => exact rfl
    | j + 10, hj, _ => exact absurd hj (by omega))
theorem stW_gs {h : zH} {a : Nat} {s : tyW} (g : Nat → Int32) : zset (blk a 10 (cW a s) h) (a + 7) (.inl (0, 3, .inl g)) = blk a 10 (cW a (sW_gs s g)) h :=
  blk_zset (by omega) rfl (fun j hj hn => by
    match j, hj, hn with
    | 0, _, hn => exact rfl
    | 1, _, hn => exact rfl
    | 2, _, hn => exact rfl
    | 3, _, hn => exact rfl
    | 4, _, hn => exact rfl
    | 5, _, hn => exact rfl
    | 6, _, hn => exact rfl
    | 7, _, hn => exact absurd rfl hn
    | 8, _, hn => exact rfl
    | 9, _, hn => exact rfl
    | j + 10, hj, _ => exact absurd hj (by omega))
theorem stW_gd {h : zH} {a : Nat} {s : tyW} (g : Nat → Int32) : zset (blk a 10 (cW a s) h) (a + 8) (.inl (0, 3, .inl g)) = blk a 10 (cW a (sW_gd s g)) h :=
  blk_zset (by omega) rfl (fun j hj hn => by
    match j, hj, hn with
    | 0, _, hn => exact rfl
    | 1, _, hn => exact rfl
    | 2, _, hn => exact rfl
    | 3, _, hn => exact rfl
    | 4, _, hn => exact rfl
    | 5, _, hn => exact rfl
    | 6, _, hn => exact rfl
    | 7, _, hn => exact rfl
    | 8, _, hn => exact absurd rfl hn
    | 9, _, hn => exact rfl
    | j + 10, hj, _ => exact absurd hj (by omega))
theorem stW_gr {h : zH} {a : Nat} {s : tyW} (g : Nat → Int64) : zset (blk a 10 (cW a s) h) (a + 9) (.inl (1, 3, .inr (.inl g))) = blk a 10 (cW a (sW_gr s g)) h :=
  blk_zset (by omega) rfl (fun j hj hn => by
    match j, hj, hn with
    | 0, _, hn => exact rfl
    | 1, _, hn => exact rfl
    | 2, _, hn => exact rfl
    | 3, _, hn => exact rfl
    | 4, _, hn => exact rfl
    | 5, _, hn => exact rfl
    | 6, _, hn => exact rfl
    | 7, _, hn => exact rfl
    | 8, _, hn => exact rfl
    | 9, _, hn => exact absurd rfl hn
    | j + 10, hj, _ => exact absurd hj (by omega))
theorem wrW_0 {h : zH} {a : Nat} {s : tyW} (ha : 100 ≤ a) : ∀ (β : Type) (x : Int32) (f : zH → Option β), zpf (blk a 10 (cW a s) h) a 10 5 (.int x) f = f (blk a 10 (cW a (sW_fl s x)) h) := fun _ x f => (pf_c (blk_isB 0 (Nat.le_of_ble_eq_true rfl)) (Nat.le_of_ble_eq_true rfl) (by omega) rfl f).trans (congrArg f (stW_fl x))
theorem wrW_1 {h : zH} {a : Nat} {s : tyW} (ha : 100 ≤ a) : ∀ (β : Type) (x : Int64) (f : zH → Option β), zpf (blk a 10 (cW a s) h) a 10 6 (.long x) f = f (blk a 10 (cW a (sW_ow s x)) h) := fun _ x f => (pf_c (blk_isB 0 (Nat.le_of_ble_eq_true rfl)) (Nat.le_of_ble_eq_true rfl) (by omega) rfl f).trans (congrArg f (stW_ow x))
theorem wrW_2 {h : zH} {a : Nat} {s : tyW} (ha : 100 ≤ a) : ∀ (β : Type) (x : Int32) (f : zH → Option β) (k : Nat), k < 36 → zsi (blk a 10 (cW a s) h) (a + 1) 0 (nI k) x f = f (blk a 10 (cW a (sW_en s (upd (gW_en s) k x))) h) := fun _ x f k hk => (si_c (blk_isB 1 (Nat.le_of_ble_eq_true rfl)) hk (by omega) (by omega) x f).trans (congrArg f (stW_en _))
theorem wrW_3 {h : zH} {a : Nat} {s : tyW} (ha : 100 ≤ a) : ∀ (β : Type) (x : Int32) (f : zH → Option β) (k : Nat), k < 36 → zsi (blk a 10 (cW a s) h) (a + 2) 0 (nI k) x f = f (blk a 10 (cW a (sW_se s (upd (gW_se s) k x))) h) := fun _ x f k hk => (si_c (blk_isB 2 (Nat.le_of_ble_eq_true rfl)) hk (by omega) (by omega) x f).trans (congrArg f (stW_se _))
theorem wrW_4 {h : zH} {a : Nat} {s : tyW} (ha : 100 ≤ a) : ∀ (β : Type) (x : Int64) (f : zH → Option β) (k : Nat), k < 60 → zsj (blk a 10 (cW a s) h) (a + 3) (nI k) x f = f (blk a 10 (cW a (sW_am s (vp_updL (gW_am s) k x))) h) := fun _ x f k hk => (sj_c (blk_isB 3 (Nat.le_of_ble_eq_true rfl)) hk (by omega) (by omega) x f).trans (congrArg f (stW_am _))
theorem wrW_5 {h : zH} {a : Nat} {s : tyW} (ha : 100 ≤ a) : ∀ (β : Type) (b : Nat) (f : zH → Option β) (k : Nat), k < 12 → zotg (zkd (blk a 10 (cW a s) h) b) = 5 → zsq (blk a 10 (cW a s) h) (a + 4) (nI k) (.ref b) f = f (blk a 10 (cW a (sW_sl s (va_up (gW_sl s) k (some b)))) h) := fun _ b f k hk hb => (sq_c (blk_isB 4 (Nat.le_of_ble_eq_true rfl)) (by decide) hk (by omega) (by omega) hb f).trans (congrArg f (stW_sl _))
theorem wrW_6 {h : zH} {a : Nat} {s : tyW} (ha : 100 ≤ a) : ∀ (β : Type) (f : zH → Option β) (k : Nat), k < 12 → zsq (blk a 10 (cW a s) h) (a + 4) (nI k) .null f = f (blk a 10 (cW a (sW_sl s (va_up (gW_sl s) k none))) h) := fun _ f k hk => (sn_c (blk_isB 4 (Nat.le_of_ble_eq_true rfl)) (by decide) hk (by omega) (by omega) f).trans (congrArg f (stW_sl _))
theorem wrW_7 {h : zH} {a : Nat} {s : tyW} (ha : 100 ≤ a) : ∀ (β : Type) (x : Int32) (f : zH → Option β), zpf (blk a 10 (cW a s) h) (a + 5) 4 4 (.int x) f = f (blk a 10 (cW a (sW_gc s x)) h) := fun _ x f => (pf_c (blk_isB 5 (Nat.le_of_ble_eq_true rfl)) (Nat.le_of_ble_eq_true rfl) (by omega) rfl f).trans (congrArg f (stW_gc x))
theorem wrW_8 {h : zH} {a : Nat} {s : tyW} (ha : 100 ≤ a) : ∀ (β : Type) (x : Int32) (f : zH → Option β) (k : Nat), k < 3 → zsi (blk a 10 (cW a s) h) (a + 6) 0 (nI k) x f = f (blk a 10 (cW a (sW_gk s (upd (gW_gk s) k x))) h) := fun _ x f k hk => (si_c (blk_isB 6 (Nat.le_of_ble_eq_true rfl)) hk (by omega) (by omega) x f).trans (congrArg f (stW_gk _))
theorem wrW_9 {h : zH} {a : Nat} {s : tyW} (ha : 100 ≤ a) : ∀ (β : Type) (x : Int32) (f : zH → Option β) (k : Nat), k < 3 → zsi (blk a 10 (cW a s) h) (a + 7) 0 (nI k) x f = f (blk a 10 (cW a (sW_gs s (upd (gW_gs s) k x))) h) := fun _ x f k hk => (si_c (blk_isB 7 (Nat.le_of_ble_eq_true rfl)) hk (by omega) (by omega) x f).trans (congrArg f (stW_gs _))
theorem wrW_10 {h : zH} {a : Nat} {s : tyW} (ha : 100 ≤ a) : ∀ (β : Type) (x : Int32) (f : zH → Option β) (k : Nat), k < 3 → zsi (blk a 10 (cW a s) h) (a + 8) 0 (nI k) x f = f (blk a 10 (cW a (sW_gd s (upd (gW_gd s) k x))) h) := fun _ x f k hk => (si_c (blk_isB 8 (Nat.le_of_ble_eq_true rfl)) hk (by omega) (by omega) x f).trans (congrArg f (stW_gd _))
theorem wrW_11 {h : zH} {a : Nat} {s : tyW} (ha : 100 ≤ a) : ∀ (β : Type) (x : Int64) (f : zH → Option β) (k : Nat), k < 3 → zsj (blk a 10 (cW a s) h) (a + 9) (nI k) x f = f (blk a 10 (cW a (sW_gr s (vp_updL (gW_gr s) k x))) h) := fun _ x f k hk => (sj_c (blk_isB 9 (Nat.le_of_ble_eq_true rfl)) hk (by omega) (by omega) x f).trans (congrArg f (stW_gr _))
abbrev tyR : Type := (Nat → Int32) × (Nat → Int32) × (Nat → Int32) × (Nat → Int32) × Int32
def gR_ra (s : tyR) : Nat → Int32 := s.1
def gR_ca (s : tyR) : Nat → Int32 := s.2.1
def gR_th (s : tyR) : Nat → Int32 := s.2.2.1
def gR_br (s : tyR) : Nat → Int32 := s.2.2.2.1
def gR_bn (s : tyR) : Int32 := s.2.2.2.2
def sR_ra (s : tyR) (v : Nat → Int32) : tyR := (v, s.2.1, s.2.2.1, s.2.2.2.1, s.2.2.2.2)
def sR_ca (s : tyR) (v : Nat → Int32) : tyR := (s.1, v, s.2.2.1, s.2.2.2.1, s.2.2.2.2)
def sR_th (s : tyR) (v : Nat → Int32) : tyR := (s.1, s.2.1, v, s.2.2.2.1, s.2.2.2.2)
def sR_br (s : tyR) (v : Nat → Int32) : tyR := (s.1, s.2.1, s.2.2.1, v, s.2.2.2.2)
def sR_bn (s : tyR) (v : Int32) : tyR := (s.1, s.2.1, s.2.2.1, s.2.2.2.1, v)
theorem gsR_0 : ∀ (s : tyR) (v : Nat → Int32), gR_ra (sR_ra s v) = v := fun _ _ => rfl
theorem gsR_1 : ∀ (s : tyR) (v : Nat → Int32), gR_ra (sR_ca s v) = gR_ra s := fun _ _ => rfl
theorem gsR_2 : ∀ (s : tyR) (v : Nat → Int32), gR_ra (sR_th s v) = gR_ra s := fun _ _ => rfl
theorem gsR_3 : ∀ (s : tyR) (v : Nat → Int32), gR_ra (sR_br s v) = gR_ra s := fun _ _ => rfl
theorem gsR_4 : ∀ (s : tyR) (v : Int32), gR_ra (sR_bn s v) = gR_ra s := fun _ _ => rfl
theorem gsR_5 : ∀ (s : tyR) (v : Nat → Int32), gR_ca (sR_ra s v) = gR_ca s := fun _ _ => rfl
theorem gsR_6 : ∀ (s : tyR) (v : Nat → Int32), gR_ca (sR_ca s v) = v := fun _ _ => rfl
theorem gsR_7 : ∀ (s : tyR) (v : Nat → Int32), gR_ca (sR_th s v) = gR_ca s := fun _ _ => rfl
theorem gsR_8 : ∀ (s : tyR) (v : Nat → Int32), gR_ca (sR_br s v) = gR_ca s := fun _ _ => rfl
theorem gsR_9 : ∀ (s : tyR) (v : Int32), gR_ca (sR_bn s v) = gR_ca s := fun _ _ => rfl
theorem gsR_10 : ∀ (s : tyR) (v : Nat → Int32), gR_th (sR_ra s v) = gR_th s := fun _ _ => rfl
theorem gsR_11 : ∀ (s : tyR) (v : Nat → Int32), gR_th (sR_ca s v) = gR_th s := fun _ _ => rfl
theorem gsR_12 : ∀ (s : tyR) (v : Nat → Int32), gR_th (sR_th s v) = v := fun _ _ => rfl
theorem gsR_13 : ∀ (s : tyR) (v : Nat → Int32), gR_th (sR_br s v) = gR_th s := fun _ _ => rfl
theorem gsR_14 : ∀ (s : tyR) (v : Int32), gR_th (sR_bn s v) = gR_th s := fun _ _ => rfl
theorem gsR_15 : ∀ (s : tyR) (v : Nat → Int32), gR_br (sR_ra s v) = gR_br s := fun _ _ => rfl
theorem gsR_16 : ∀ (s : tyR) (v : Nat → Int32), gR_br (sR_ca s v) = gR_br s := fun _ _ => rfl
theorem gsR_17 : ∀ (s : tyR) (v : Nat → Int32), gR_br (sR_th s v) = gR_br s := fun _ _ => rfl
theorem gsR_18 : ∀ (s : tyR) (v : Nat → Int32), gR_br (sR_br s v) = v := fun _ _ => rfl
theorem gsR_19 : ∀ (s : tyR) (v : Int32), gR_br (sR_bn s v) = gR_br s := fun _ _ => rfl
theorem gsR_20 : ∀ (s : tyR) (v : Nat → Int32), gR_bn (sR_ra s v) = gR_bn s := fun _ _ => rfl
theorem gsR_21 : ∀ (s : tyR) (v : Nat → Int32), gR_bn (sR_ca s v) = gR_bn s := fun _ _ => rfl
theorem gsR_22 : ∀ (s : tyR) (v : Nat → Int32), gR_bn (sR_th s v) = gR_bn s := fun _ _ => rfl
theorem gsR_23 : ∀ (s : tyR) (v : Nat → Int32), gR_bn (sR_br s v) = gR_bn s := fun _ _ => rfl
theorem gsR_24 : ∀ (s : tyR) (v : Int32), gR_bn (sR_bn s v) = v := fun _ _ => rfl
def cR (a : Nat) (s : tyR) (k : Nat) : zC := match k with
  | 0 => .inr (6, [.ref (a + 1), .ref (a + 2), .ref (a + 3), .ref (a + 4), .int (gR_bn s)])
  | 1 => .inl (0, 2, .inl (gR_ra s))
  | 2 => .inl (0, 2, .inl (gR_ca s))
  | 3 => .inl (0, 5, .inl (gR_th s))
  | _ => .inl (0, 5, .inl (gR_br s))
theorem rdR_0 {H : zH} {a : Nat} {s : tyR} (hK : isB H a 5 (cR a s)) : zkd H a = 6 := kd_c (hK 0 (Nat.le_of_ble_eq_true rfl))
theorem rdR_1 {H : zH} {a : Nat} {s : tyR} (hK : isB H a 5 (cR a s)) : ∀ (β : Type) (f : Value → Option β), zgf H a 6 0 f = f (.ref (a + 1)) := fun _ f => gf_c (hK 0 (Nat.le_of_ble_eq_true rfl)) rfl f
theorem rdR_2 {H : zH} {a : Nat} {s : tyR} (hK : isB H a 5 (cR a s)) : ∀ (β : Type) (f : Value → Option β), zgf H a 6 1 f = f (.ref (a + 2)) := fun _ f => gf_c (hK 0 (Nat.le_of_ble_eq_true rfl)) rfl f
theorem rdR_3 {H : zH} {a : Nat} {s : tyR} (hK : isB H a 5 (cR a s)) : ∀ (β : Type) (f : Value → Option β), zgf H a 6 2 f = f (.ref (a + 3)) := fun _ f => gf_c (hK 0 (Nat.le_of_ble_eq_true rfl)) rfl f
theorem rdR_4 {H : zH} {a : Nat} {s : tyR} (hK : isB H a 5 (cR a s)) : ∀ (β : Type) (f : Value → Option β), zgf H a 6 3 f = f (.ref (a + 4)) := fun _ f => gf_c (hK 0 (Nat.le_of_ble_eq_true rfl)) rfl f
theorem rdR_5 {H : zH} {a : Nat} {s : tyR} (hK : isB H a 5 (cR a s)) : ∀ (β : Type) (f : Value → Option β), zgf H a 6 4 f = f (.int (gR_bn s)) := fun _ f => gf_c (hK 0 (Nat.le_of_ble_eq_true rfl)) rfl f
theorem rdR_6 {H : zH} {a : Nat} {s : tyR} (hK : isB H a 5 (cR a s)) : ∀ (β : Type) (f : Int32 → Option β), zal H (a + 1) f = f (nI 2) := fun _ f => al_c (hK 1 (Nat.le_of_ble_eq_true rfl)) (by decide) f
theorem rdR_7 {H : zH} {a : Nat} {s : tyR} (hK : isB H a 5 (cR a s)) : ∀ (β : Type) (f : Int32 → Option β) (k : Nat), k < 2 → zli H (a + 1) 0 (nI k) f = f (gR_ra s k) := fun _ f k hk => li_c (hK 1 (Nat.le_of_ble_eq_true rfl)) hk (by omega) f
theorem rdR_8 {H : zH} {a : Nat} {s : tyR} (hK : isB H a 5 (cR a s)) : ∀ (β : Type) (f : Int32 → Option β), zal H (a + 2) f = f (nI 2) := fun _ f => al_c (hK 2 (Nat.le_of_ble_eq_true rfl)) (by decide) f
theorem rdR_9 {H : zH} {a : Nat} {s : tyR} (hK : isB H a 5 (cR a s)) : ∀ (β : Type) (f : Int32 → Option β) (k : Nat), k < 2 → zli H (a + 2) 0 (nI k) f = f (gR_ca s k) := fun _ f k hk => li_c (hK 2 (Nat.le_of_ble_eq_true rfl)) hk (by omega) f
theorem rdR_10 {H : zH} {a : Nat} {s : tyR} (hK : isB H a 5 (cR a s)) : ∀ (β : Type) (f : Int32 → Option β), zal H (a + 3) f = f (nI 5) := fun _ f => al_c (hK 3 (Nat.le_of_ble_eq_true rfl)) (by decide) f
theorem rdR_11 {H : zH} {a : Nat} {s : tyR} (hK : isB H a 5 (cR a s)) : ∀ (β : Type) (f : Int32 → Option β) (k : Nat), k < 5 → zli H (a + 3) 0 (nI k) f = f (gR_th s k) := fun _ f k hk => li_c (hK 3 (Nat.le_of_ble_eq_true rfl)) hk (by omega) f
theorem rdR_12 {H : zH} {a : Nat} {s : tyR} (hK : isB H a 5 (cR a s)) : ∀ (β : Type) (f : Int32 → Option β), zal H (a + 4) f = f (nI 5) := fun _ f => al_c (hK 4 (Nat.le_of_ble_eq_true rfl)) (by decide) f
theorem rdR_13 {H : zH} {a : Nat} {s : tyR} (hK : isB H a 5 (cR a s)) : ∀ (β : Type) (f : Int32 → Option β) (k : Nat), k < 5 → zli H (a + 4) 0 (nI k) f = f (gR_br s k) := fun _ f k hk => li_c (hK 4 (Nat.le_of_ble_eq_true rfl)) hk (by omega) f
theorem stR_bn {h : zH} {a : Nat} {s : tyR} (x : Int32) : zset (blk a 5 (cR a s) h) (a + 0) (cR a (sR_bn s x) 0) = blk a 5 (cR a (sR_bn s x)) h :=
  blk_zset (by omega) rfl (fun j hj hn => by
    match j, hj, hn with
    | 0, _, hn => exact absurd rfl hn
    | 1, _, hn => exact rfl
    | 2, _, hn => exact rfl
    | 3, _, hn => exact rfl
    | 4, _, hn => exact rfl
    | j + 5, hj, _ => exact absurd hj (by omega))
theorem stR_ra {h : zH} {a : Nat} {s : tyR} (g : Nat → Int32) : zset (blk a 5 (cR a s) h) (a + 1) (.inl (0, 2, .inl g)) = blk a 5 (cR a (sR_ra s g)) h :=
  blk_zset (by omega) rfl (fun j hj hn => by
    match j, hj, hn with
    | 0, _, hn => exact rfl
    | 1, _, hn => exact absurd rfl hn
    | 2, _, hn => exact rfl
    | 3, _, hn => exact rfl
    | 4, _, hn => exact rfl
    | j + 5, hj, _ => exact absurd hj (by omega))
theorem stR_ca {h : zH} {a : Nat} {s : tyR} (g : Nat → Int32) : zset (blk a 5 (cR a s) h) (a + 2) (.inl (0, 2, .inl g)) = blk a 5 (cR a (sR_ca s g)) h :=
  blk_zset (by omega) rfl (fun j hj hn => by
    match j, hj, hn with
    | 0, _, hn => exact rfl
    | 1, _, hn => exact rfl
    | 2, _, hn => exact absurd rfl hn
    | 3, _, hn => exact rfl
    | 4, _, hn => exact rfl
    | j + 5, hj, _ => exact absurd hj (by omega))
theorem stR_th {h : zH} {a : Nat} {s : tyR} (g : Nat → Int32) : zset (blk a 5 (cR a s) h) (a + 3) (.inl (0, 5, .inl g)) = blk a 5 (cR a (sR_th s g)) h :=
  blk_zset (by omega) rfl (fun j hj hn => by
    match j, hj, hn with
    | 0, _, hn => exact rfl
    | 1, _, hn => exact rfl
    | 2, _, hn => exact rfl
    | 3, _, hn => exact absurd rfl hn
    | 4, _, hn => exact rfl
    | j + 5, hj, _ => exact absurd hj (by omega))
theorem stR_br {h : zH} {a : Nat} {s : tyR} (g : Nat → Int32) : zset (blk a 5 (cR a s) h) (a + 4) (.inl (0, 5, .inl g)) = blk a 5 (cR a (sR_br s g)) h :=
  blk_zset (by omega) rfl (fun j hj hn => by
    match j, hj, hn with
    | 0, _, hn => exact rfl
    | 1, _, hn => exact rfl
    | 2, _, hn => exact rfl
    | 3, _, hn => exact rfl
    | 4, _, hn => exact absurd rfl hn
    | j + 5, hj, _ => exact absurd hj (by omega))
theorem wrR_0 {h : zH} {a : Nat} {s : tyR} (ha : 100 ≤ a) : ∀ (β : Type) (x : Int32) (f : zH → Option β), zpf (blk a 5 (cR a s) h) a 6 4 (.int x) f = f (blk a 5 (cR a (sR_bn s x)) h) := fun _ x f => (pf_c (blk_isB 0 (Nat.le_of_ble_eq_true rfl)) (Nat.le_of_ble_eq_true rfl) (by omega) rfl f).trans (congrArg f (stR_bn x))
theorem wrR_1 {h : zH} {a : Nat} {s : tyR} (ha : 100 ≤ a) : ∀ (β : Type) (x : Int32) (f : zH → Option β) (k : Nat), k < 2 → zsi (blk a 5 (cR a s) h) (a + 1) 0 (nI k) x f = f (blk a 5 (cR a (sR_ra s (upd (gR_ra s) k x))) h) := fun _ x f k hk => (si_c (blk_isB 1 (Nat.le_of_ble_eq_true rfl)) hk (by omega) (by omega) x f).trans (congrArg f (stR_ra _))
theorem wrR_2 {h : zH} {a : Nat} {s : tyR} (ha : 100 ≤ a) : ∀ (β : Type) (x : Int32) (f : zH → Option β) (k : Nat), k < 2 → zsi (blk a 5 (cR a s) h) (a + 2) 0 (nI k) x f = f (blk a 5 (cR a (sR_ca s (upd (gR_ca s) k x))) h) := fun _ x f k hk => (si_c (blk_isB 2 (Nat.le_of_ble_eq_true rfl)) hk (by omega) (by omega) x f).trans (congrArg f (stR_ca _))
theorem wrR_3 {h : zH} {a : Nat} {s : tyR} (ha : 100 ≤ a) : ∀ (β : Type) (x : Int32) (f : zH → Option β) (k : Nat), k < 5 → zsi (blk a 5 (cR a s) h) (a + 3) 0 (nI k) x f = f (blk a 5 (cR a (sR_th s (upd (gR_th s) k x))) h) := fun _ x f k hk => (si_c (blk_isB 3 (Nat.le_of_ble_eq_true rfl)) hk (by omega) (by omega) x f).trans (congrArg f (stR_th _))
theorem wrR_4 {h : zH} {a : Nat} {s : tyR} (ha : 100 ≤ a) : ∀ (β : Type) (x : Int32) (f : zH → Option β) (k : Nat), k < 5 → zsi (blk a 5 (cR a s) h) (a + 4) 0 (nI k) x f = f (blk a 5 (cR a (sR_br s (upd (gR_br s) k x))) h) := fun _ x f k hk => (si_c (blk_isB 4 (Nat.le_of_ble_eq_true rfl)) hk (by omega) (by omega) x f).trans (congrArg f (stR_br _))
abbrev tyS : Type := (Nat → Int32) × (Nat → Int64) × Int32 × Int64
def gS_pt (s : tyS) : Nat → Int32 := s.1
def gS_at (s : tyS) : Nat → Int64 := s.2.1
def gS_ct (s : tyS) : Int32 := s.2.2.1
def gS_sm (s : tyS) : Int64 := s.2.2.2
def sS_pt (s : tyS) (v : Nat → Int32) : tyS := (v, s.2.1, s.2.2.1, s.2.2.2)
def sS_at (s : tyS) (v : Nat → Int64) : tyS := (s.1, v, s.2.2.1, s.2.2.2)
def sS_ct (s : tyS) (v : Int32) : tyS := (s.1, s.2.1, v, s.2.2.2)
def sS_sm (s : tyS) (v : Int64) : tyS := (s.1, s.2.1, s.2.2.1, v)
theorem gsS_0 : ∀ (s : tyS) (v : Nat → Int32), gS_pt (sS_pt s v) = v := fun _ _ => rfl
theorem gsS_1 : ∀ (s : tyS) (v : Nat → Int64), gS_pt (sS_at s v) = gS_pt s := fun _ _ => rfl
theorem gsS_2 : ∀ (s : tyS) (v : Int32), gS_pt (sS_ct s v) = gS_pt s := fun _ _ => rfl
theorem gsS_3 : ∀ (s : tyS) (v : Int64), gS_pt (sS_sm s v) = gS_pt s := fun _ _ => rfl
theorem gsS_4 : ∀ (s : tyS) (v : Nat → Int32), gS_at (sS_pt s v) = gS_at s := fun _ _ => rfl
theorem gsS_5 : ∀ (s : tyS) (v : Nat → Int64), gS_at (sS_at s v) = v := fun _ _ => rfl
theorem gsS_6 : ∀ (s : tyS) (v : Int32), gS_at (sS_ct s v) = gS_at s := fun _ _ => rfl
theorem gsS_7 : ∀ (s : tyS) (v : Int64), gS_at (sS_sm s v) = gS_at s := fun _ _ => rfl
theorem gsS_8 : ∀ (s : tyS) (v : Nat → Int32), gS_ct (sS_pt s v) = gS_ct s := fun _ _ => rfl
theorem gsS_9 : ∀ (s : tyS) (v : Nat → Int64), gS_ct (sS_at s v) = gS_ct s := fun _ _ => rfl
theorem gsS_10 : ∀ (s : tyS) (v : Int32), gS_ct (sS_ct s v) = v := fun _ _ => rfl
theorem gsS_11 : ∀ (s : tyS) (v : Int64), gS_ct (sS_sm s v) = gS_ct s := fun _ _ => rfl
theorem gsS_12 : ∀ (s : tyS) (v : Nat → Int32), gS_sm (sS_pt s v) = gS_sm s := fun _ _ => rfl
theorem gsS_13 : ∀ (s : tyS) (v : Nat → Int64), gS_sm (sS_at s v) = gS_sm s := fun _ _ => rfl
theorem gsS_14 : ∀ (s : tyS) (v : Int32), gS_sm (sS_ct s v) = gS_sm s := fun _ _ => rfl
theorem gsS_15 : ∀ (s : tyS) (v : Int64), gS_sm (sS_sm s v) = v := fun _ _ => rfl
def cS (a : Nat) (s : tyS) (k : Nat) : zC := match k with
  | 0 => .inr (7, [.ref (a + 1), .ref (a + 2), .int (gS_ct s), .long (gS_sm s)])
  | 1 => .inl (0, 162, .inl (gS_pt s))
  | _ => .inl (1, 54, .inr (.inl (gS_at s)))
theorem rdS_0 {H : zH} {a : Nat} {s : tyS} (hK : isB H a 3 (cS a s)) : zkd H a = 7 := kd_c (hK 0 (Nat.le_of_ble_eq_true rfl))
theorem rdS_1 {H : zH} {a : Nat} {s : tyS} (hK : isB H a 3 (cS a s)) : ∀ (β : Type) (f : Value → Option β), zgf H a 7 0 f = f (.ref (a + 1)) := fun _ f => gf_c (hK 0 (Nat.le_of_ble_eq_true rfl)) rfl f
theorem rdS_2 {H : zH} {a : Nat} {s : tyS} (hK : isB H a 3 (cS a s)) : ∀ (β : Type) (f : Value → Option β), zgf H a 7 1 f = f (.ref (a + 2)) := fun _ f => gf_c (hK 0 (Nat.le_of_ble_eq_true rfl)) rfl f
theorem rdS_3 {H : zH} {a : Nat} {s : tyS} (hK : isB H a 3 (cS a s)) : ∀ (β : Type) (f : Value → Option β), zgf H a 7 2 f = f (.int (gS_ct s)) := fun _ f => gf_c (hK 0 (Nat.le_of_ble_eq_true rfl)) rfl f
theorem rdS_4 {H : zH} {a : Nat} {s : tyS} (hK : isB H a 3 (cS a s)) : ∀ (β : Type) (f : Value → Option β), zgf H a 7 3 f = f (.long (gS_sm s)) := fun _ f => gf_c (hK 0 (Nat.le_of_ble_eq_true rfl)) rfl f
theorem rdS_5 {H : zH} {a : Nat} {s : tyS} (hK : isB H a 3 (cS a s)) : ∀ (β : Type) (f : Int32 → Option β), zal H (a + 1) f = f (nI 162) := fun _ f => al_c (hK 1 (Nat.le_of_ble_eq_true rfl)) (by decide) f
theorem rdS_6 {H : zH} {a : Nat} {s : tyS} (hK : isB H a 3 (cS a s)) : ∀ (β : Type) (f : Int32 → Option β) (k : Nat), k < 162 → zli H (a + 1) 0 (nI k) f = f (gS_pt s k) := fun _ f k hk => li_c (hK 1 (Nat.le_of_ble_eq_true rfl)) hk (by omega) f
theorem rdS_7 {H : zH} {a : Nat} {s : tyS} (hK : isB H a 3 (cS a s)) : ∀ (β : Type) (f : Int32 → Option β), zal H (a + 2) f = f (nI 54) := fun _ f => al_c (hK 2 (Nat.le_of_ble_eq_true rfl)) (by decide) f
theorem rdS_8 {H : zH} {a : Nat} {s : tyS} (hK : isB H a 3 (cS a s)) : ∀ (β : Type) (f : Int64 → Option β) (k : Nat), k < 54 → zlj H (a + 2) (nI k) f = f (gS_at s k) := fun _ f k hk => lj_c (hK 2 (Nat.le_of_ble_eq_true rfl)) hk (by omega) f
theorem stS_ct {h : zH} {a : Nat} {s : tyS} (x : Int32) : zset (blk a 3 (cS a s) h) (a + 0) (cS a (sS_ct s x) 0) = blk a 3 (cS a (sS_ct s x)) h :=
  blk_zset (by omega) rfl (fun j hj hn => by
    match j, hj, hn with
    | 0, _, hn => exact absurd rfl hn
    | 1, _, hn => exact rfl
    | 2, _, hn => exact rfl
    | j + 3, hj, _ => exact absurd hj (by omega))
theorem stS_sm {h : zH} {a : Nat} {s : tyS} (x : Int64) : zset (blk a 3 (cS a s) h) (a + 0) (cS a (sS_sm s x) 0) = blk a 3 (cS a (sS_sm s x)) h :=
  blk_zset (by omega) rfl (fun j hj hn => by
    match j, hj, hn with
    | 0, _, hn => exact absurd rfl hn
    | 1, _, hn => exact rfl
    | 2, _, hn => exact rfl
    | j + 3, hj, _ => exact absurd hj (by omega))
theorem stS_pt {h : zH} {a : Nat} {s : tyS} (g : Nat → Int32) : zset (blk a 3 (cS a s) h) (a + 1) (.inl (0, 162, .inl g)) = blk a 3 (cS a (sS_pt s g)) h :=
  blk_zset (by omega) rfl (fun j hj hn => by
    match j, hj, hn with
    | 0, _, hn => exact rfl
    | 1, _, hn => exact absurd rfl hn
    | 2, _, hn => exact rfl
    | j + 3, hj, _ => exact absurd hj (by omega))
theorem stS_at {h : zH} {a : Nat} {s : tyS} (g : Nat → Int64) : zset (blk a 3 (cS a s) h) (a + 2) (.inl (1, 54, .inr (.inl g))) = blk a 3 (cS a (sS_at s g)) h :=
  blk_zset (by omega) rfl (fun j hj hn => by
    match j, hj, hn with
    | 0, _, hn => exact rfl
    | 1, _, hn => exact rfl
    | 2, _, hn => exact absurd rfl hn
    | j + 3, hj, _ => exact absurd hj (by omega))
theorem wrS_0 {h : zH} {a : Nat} {s : tyS} (ha : 100 ≤ a) : ∀ (β : Type) (x : Int32) (f : zH → Option β), zpf (blk a 3 (cS a s) h) a 7 2 (.int x) f = f (blk a 3 (cS a (sS_ct s x)) h) := fun _ x f => (pf_c (blk_isB 0 (Nat.le_of_ble_eq_true rfl)) (Nat.le_of_ble_eq_true rfl) (by omega) rfl f).trans (congrArg f (stS_ct x))
theorem wrS_1 {h : zH} {a : Nat} {s : tyS} (ha : 100 ≤ a) : ∀ (β : Type) (x : Int64) (f : zH → Option β), zpf (blk a 3 (cS a s) h) a 7 3 (.long x) f = f (blk a 3 (cS a (sS_sm s x)) h) := fun _ x f => (pf_c (blk_isB 0 (Nat.le_of_ble_eq_true rfl)) (Nat.le_of_ble_eq_true rfl) (by omega) rfl f).trans (congrArg f (stS_sm x))
theorem wrS_2 {h : zH} {a : Nat} {s : tyS} (ha : 100 ≤ a) : ∀ (β : Type) (x : Int32) (f : zH → Option β) (k : Nat), k < 162 → zsi (blk a 3 (cS a s) h) (a + 1) 0 (nI k) x f = f (blk a 3 (cS a (sS_pt s (upd (gS_pt s) k x))) h) := fun _ x f k hk => (si_c (blk_isB 1 (Nat.le_of_ble_eq_true rfl)) hk (by omega) (by omega) x f).trans (congrArg f (stS_pt _))
theorem wrS_3 {h : zH} {a : Nat} {s : tyS} (ha : 100 ≤ a) : ∀ (β : Type) (x : Int64) (f : zH → Option β) (k : Nat), k < 54 → zsj (blk a 3 (cS a s) h) (a + 2) (nI k) x f = f (blk a 3 (cS a (sS_at s (vp_updL (gS_at s) k x))) h) := fun _ x f k hk => (sj_c (blk_isB 2 (Nat.le_of_ble_eq_true rfl)) hk (by omega) (by omega) x f).trans (congrArg f (stS_at _))
abbrev tyD : Type := (Nat → Int64)
def gD_du (s : tyD) : Nat → Int64 := s
def sD_du (s : tyD) (v : Nat → Int64) : tyD := (v)
theorem gsD_0 : ∀ (s : tyD) (v : Nat → Int64), gD_du (sD_du s v) = v := fun _ _ => rfl
def cD (a : Nat) (s : tyD) (k : Nat) : zC := match k with
  | 0 => .inr (2, [.ref (a + 1)])
  | _ => .inl (1, 60, .inr (.inl (gD_du s)))
theorem rdD_0 {H : zH} {a : Nat} {s : tyD} (hK : isB H a 2 (cD a s)) : zkd H a = 2 := kd_c (hK 0 (Nat.le_of_ble_eq_true rfl))
theorem rdD_1 {H : zH} {a : Nat} {s : tyD} (hK : isB H a 2 (cD a s)) : ∀ (β : Type) (f : Value → Option β), zgf H a 2 0 f = f (.ref (a + 1)) := fun _ f => gf_c (hK 0 (Nat.le_of_ble_eq_true rfl)) rfl f
theorem rdD_2 {H : zH} {a : Nat} {s : tyD} (hK : isB H a 2 (cD a s)) : ∀ (β : Type) (f : Int32 → Option β), zal H (a + 1) f = f (nI 60) := fun _ f => al_c (hK 1 (Nat.le_of_ble_eq_true rfl)) (by decide) f
theorem rdD_3 {H : zH} {a : Nat} {s : tyD} (hK : isB H a 2 (cD a s)) : ∀ (β : Type) (f : Int64 → Option β) (k : Nat), k < 60 → zlj H (a + 1) (nI k) f = f (gD_du s k) := fun _ f k hk => lj_c (hK 1 (Nat.le_of_ble_eq_true rfl)) hk (by omega) f
theorem stD_du {h : zH} {a : Nat} {s : tyD} (g : Nat → Int64) : zset (blk a 2 (cD a s) h) (a + 1) (.inl (1, 60, .inr (.inl g))) = blk a 2 (cD a (sD_du s g)) h :=
  blk_zset (by omega) rfl (fun j hj hn => by
    match j, hj, hn with
    | 0, _, hn => exact rfl
    | 1, _, hn => exact absurd rfl hn
    | j + 2, hj, _ => exact absurd hj (by omega))
theorem wrD_0 {h : zH} {a : Nat} {s : tyD} (ha : 100 ≤ a) : ∀ (β : Type) (x : Int64) (f : zH → Option β) (k : Nat), k < 60 → zsj (blk a 2 (cD a s) h) (a + 1) (nI k) x f = f (blk a 2 (cD a (sD_du s (vp_updL (gD_du s) k x))) h) := fun _ x f k hk => (sj_c (blk_isB 1 (Nat.le_of_ble_eq_true rfl)) hk (by omega) (by omega) x f).trans (congrArg f (stD_du _))
abbrev tyT : Type := (Nat → Int32) × (Nat → Int32) × (Nat → Int32) × (Nat → Int32) × Int32 × Int32
def gT_sg (s : tyT) : Nat → Int32 := s.1
def gT_wd (s : tyT) : Nat → Int32 := s.2.1
def gT_st (s : tyT) : Nat → Int32 := s.2.2.1
def gT_nu (s : tyT) : Nat → Int32 := s.2.2.2.1
def gT_ln (s : tyT) : Int32 := s.2.2.2.2.1
def gT_ct (s : tyT) : Int32 := s.2.2.2.2.2
def sT_sg (s : tyT) (v : Nat → Int32) : tyT := (v, s.2.1, s.2.2.1, s.2.2.2.1, s.2.2.2.2.1, s.2.2.2.2.2)
def sT_wd (s : tyT) (v : Nat → Int32) : tyT := (s.1, v, s.2.2.1, s.2.2.2.1, s.2.2.2.2.1, s.2.2.2.2.2)
def sT_st (s : tyT) (v : Nat → Int32) : tyT := (s.1, s.2.1, v, s.2.2.2.1, s.2.2.2.2.1, s.2.2.2.2.2)
def sT_nu (s : tyT) (v : Nat → Int32) : tyT := (s.1, s.2.1, s.2.2.1, v, s.2.2.2.2.1, s.2.2.2.2.2)
def sT_ln (s : tyT) (v : Int32) : tyT := (s.1, s.2.1, s.2.2.1, s.2.2.2.1, v, s.2.2.2.2.2)
def sT_ct (s : tyT) (v : Int32) : tyT := (s.1, s.2.1, s.2.2.1, s.2.2.2.1, s.2.2.2.2.1, v)
theorem gsT_0 : ∀ (s : tyT) (v : Nat → Int32), gT_sg (sT_sg s v) = v := fun _ _ => rfl
theorem gsT_1 : ∀ (s : tyT) (v : Nat → Int32), gT_sg (sT_wd s v) = gT_sg s := fun _ _ => rfl
theorem gsT_2 : ∀ (s : tyT) (v : Nat → Int32), gT_sg (sT_st s v) = gT_sg s := fun _ _ => rfl
theorem gsT_3 : ∀ (s : tyT) (v : Nat → Int32), gT_sg (sT_nu s v) = gT_sg s := fun _ _ => rfl
theorem gsT_4 : ∀ (s : tyT) (v : Int32), gT_sg (sT_ln s v) = gT_sg s := fun _ _ => rfl
theorem gsT_5 : ∀ (s : tyT) (v : Int32), gT_sg (sT_ct s v) = gT_sg s := fun _ _ => rfl
theorem gsT_6 : ∀ (s : tyT) (v : Nat → Int32), gT_wd (sT_sg s v) = gT_wd s := fun _ _ => rfl
theorem gsT_7 : ∀ (s : tyT) (v : Nat → Int32), gT_wd (sT_wd s v) = v := fun _ _ => rfl
theorem gsT_8 : ∀ (s : tyT) (v : Nat → Int32), gT_wd (sT_st s v) = gT_wd s := fun _ _ => rfl
theorem gsT_9 : ∀ (s : tyT) (v : Nat → Int32), gT_wd (sT_nu s v) = gT_wd s := fun _ _ => rfl
theorem gsT_10 : ∀ (s : tyT) (v : Int32), gT_wd (sT_ln s v) = gT_wd s := fun _ _ => rfl
theorem gsT_11 : ∀ (s : tyT) (v : Int32), gT_wd (sT_ct s v) = gT_wd s := fun _ _ => rfl
theorem gsT_12 : ∀ (s : tyT) (v : Nat → Int32), gT_st (sT_sg s v) = gT_st s := fun _ _ => rfl
theorem gsT_13 : ∀ (s : tyT) (v : Nat → Int32), gT_st (sT_wd s v) = gT_st s := fun _ _ => rfl
theorem gsT_14 : ∀ (s : tyT) (v : Nat → Int32), gT_st (sT_st s v) = v := fun _ _ => rfl
theorem gsT_15 : ∀ (s : tyT) (v : Nat → Int32), gT_st (sT_nu s v) = gT_st s := fun _ _ => rfl
theorem gsT_16 : ∀ (s : tyT) (v : Int32), gT_st (sT_ln s v) = gT_st s := fun _ _ => rfl
theorem gsT_17 : ∀ (s : tyT) (v : Int32), gT_st (sT_ct s v) = gT_st s := fun _ _ => rfl
theorem gsT_18 : ∀ (s : tyT) (v : Nat → Int32), gT_nu (sT_sg s v) = gT_nu s := fun _ _ => rfl
theorem gsT_19 : ∀ (s : tyT) (v : Nat → Int32), gT_nu (sT_wd s v) = gT_nu s := fun _ _ => rfl
theorem gsT_20 : ∀ (s : tyT) (v : Nat → Int32), gT_nu (sT_st s v) = gT_nu s := fun _ _ => rfl
theorem gsT_21 : ∀ (s : tyT) (v : Nat → Int32), gT_nu (sT_nu s v) = v := fun _ _ => rfl
theorem gsT_22 : ∀ (s : tyT) (v : Int32), gT_nu (sT_ln s v) = gT_nu s := fun _ _ => rfl
theorem gsT_23 : ∀ (s : tyT) (v : Int32), gT_nu (sT_ct s v) = gT_nu s := fun _ _ => rfl
theorem gsT_24 : ∀ (s : tyT) (v : Nat → Int32), gT_ln (sT_sg s v) = gT_ln s := fun _ _ => rfl
theorem gsT_25 : ∀ (s : tyT) (v : Nat → Int32), gT_ln (sT_wd s v) = gT_ln s := fun _ _ => rfl
theorem gsT_26 : ∀ (s : tyT) (v : Nat → Int32), gT_ln (sT_st s v) = gT_ln s := fun _ _ => rfl
theorem gsT_27 : ∀ (s : tyT) (v : Nat → Int32), gT_ln (sT_nu s v) = gT_ln s := fun _ _ => rfl
theorem gsT_28 : ∀ (s : tyT) (v : Int32), gT_ln (sT_ln s v) = v := fun _ _ => rfl
theorem gsT_29 : ∀ (s : tyT) (v : Int32), gT_ln (sT_ct s v) = gT_ln s := fun _ _ => rfl
theorem gsT_30 : ∀ (s : tyT) (v : Nat → Int32), gT_ct (sT_sg s v) = gT_ct s := fun _ _ => rfl
theorem gsT_31 : ∀ (s : tyT) (v : Nat → Int32), gT_ct (sT_wd s v) = gT_ct s := fun _ _ => rfl
theorem gsT_32 : ∀ (s : tyT) (v : Nat → Int32), gT_ct (sT_st s v) = gT_ct s := fun _ _ => rfl
theorem gsT_33 : ∀ (s : tyT) (v : Nat → Int32), gT_ct (sT_nu s v) = gT_ct s := fun _ _ => rfl
theorem gsT_34 : ∀ (s : tyT) (v : Int32), gT_ct (sT_ln s v) = gT_ct s := fun _ _ => rfl
theorem gsT_35 : ∀ (s : tyT) (v : Int32), gT_ct (sT_ct s v) = v := fun _ _ => rfl
def cT (a : Nat) (s : tyT) (k : Nat) : zC := match k with
  | 0 => .inr (3, [.ref (a + 1), .int (gT_ln s), .int (gT_ct s), .ref (a + 2), .ref (a + 3), .ref (a + 4)])
  | 1 => .inl (2, 60, .inl (gT_sg s))
  | 2 => .inl (0, 12, .inl (gT_wd s))
  | 3 => .inl (0, 12, .inl (gT_st s))
  | _ => .inl (0, 36, .inl (gT_nu s))
theorem rdT_0 {H : zH} {a : Nat} {s : tyT} (hK : isB H a 5 (cT a s)) : zkd H a = 3 := kd_c (hK 0 (Nat.le_of_ble_eq_true rfl))
theorem rdT_1 {H : zH} {a : Nat} {s : tyT} (hK : isB H a 5 (cT a s)) : ∀ (β : Type) (f : Value → Option β), zgf H a 3 0 f = f (.ref (a + 1)) := fun _ f => gf_c (hK 0 (Nat.le_of_ble_eq_true rfl)) rfl f
theorem rdT_2 {H : zH} {a : Nat} {s : tyT} (hK : isB H a 5 (cT a s)) : ∀ (β : Type) (f : Value → Option β), zgf H a 3 1 f = f (.int (gT_ln s)) := fun _ f => gf_c (hK 0 (Nat.le_of_ble_eq_true rfl)) rfl f
theorem rdT_3 {H : zH} {a : Nat} {s : tyT} (hK : isB H a 5 (cT a s)) : ∀ (β : Type) (f : Value → Option β), zgf H a 3 2 f = f (.int (gT_ct s)) := fun _ f => gf_c (hK 0 (Nat.le_of_ble_eq_true rfl)) rfl f
theorem rdT_4 {H : zH} {a : Nat} {s : tyT} (hK : isB H a 5 (cT a s)) : ∀ (β : Type) (f : Value → Option β), zgf H a 3 3 f = f (.ref (a + 2)) := fun _ f => gf_c (hK 0 (Nat.le_of_ble_eq_true rfl)) rfl f
theorem rdT_5 {H : zH} {a : Nat} {s : tyT} (hK : isB H a 5 (cT a s)) : ∀ (β : Type) (f : Value → Option β), zgf H a 3 4 f = f (.ref (a + 3)) := fun _ f => gf_c (hK 0 (Nat.le_of_ble_eq_true rfl)) rfl f
theorem rdT_6 {H : zH} {a : Nat} {s : tyT} (hK : isB H a 5 (cT a s)) : ∀ (β : Type) (f : Value → Option β), zgf H a 3 5 f = f (.ref (a + 4)) := fun _ f => gf_c (hK 0 (Nat.le_of_ble_eq_true rfl)) rfl f
theorem rdT_7 {H : zH} {a : Nat} {s : tyT} (hK : isB H a 5 (cT a s)) : ∀ (β : Type) (f : Int32 → Option β), zal H (a + 1) f = f (nI 60) := fun _ f => al_c (hK 1 (Nat.le_of_ble_eq_true rfl)) (by decide) f
theorem rdT_8 {H : zH} {a : Nat} {s : tyT} (hK : isB H a 5 (cT a s)) : ∀ (β : Type) (f : Int32 → Option β) (k : Nat), k < 60 → zli H (a + 1) 2 (nI k) f = f (gT_sg s k) := fun _ f k hk => li_c (hK 1 (Nat.le_of_ble_eq_true rfl)) hk (by omega) f
theorem rdT_9 {H : zH} {a : Nat} {s : tyT} (hK : isB H a 5 (cT a s)) : ∀ (β : Type) (f : Int32 → Option β), zal H (a + 2) f = f (nI 12) := fun _ f => al_c (hK 2 (Nat.le_of_ble_eq_true rfl)) (by decide) f
theorem rdT_10 {H : zH} {a : Nat} {s : tyT} (hK : isB H a 5 (cT a s)) : ∀ (β : Type) (f : Int32 → Option β) (k : Nat), k < 12 → zli H (a + 2) 0 (nI k) f = f (gT_wd s k) := fun _ f k hk => li_c (hK 2 (Nat.le_of_ble_eq_true rfl)) hk (by omega) f
theorem rdT_11 {H : zH} {a : Nat} {s : tyT} (hK : isB H a 5 (cT a s)) : ∀ (β : Type) (f : Int32 → Option β), zal H (a + 3) f = f (nI 12) := fun _ f => al_c (hK 3 (Nat.le_of_ble_eq_true rfl)) (by decide) f
theorem rdT_12 {H : zH} {a : Nat} {s : tyT} (hK : isB H a 5 (cT a s)) : ∀ (β : Type) (f : Int32 → Option β) (k : Nat), k < 12 → zli H (a + 3) 0 (nI k) f = f (gT_st s k) := fun _ f k hk => li_c (hK 3 (Nat.le_of_ble_eq_true rfl)) hk (by omega) f
theorem rdT_13 {H : zH} {a : Nat} {s : tyT} (hK : isB H a 5 (cT a s)) : ∀ (β : Type) (f : Int32 → Option β), zal H (a + 4) f = f (nI 36) := fun _ f => al_c (hK 4 (Nat.le_of_ble_eq_true rfl)) (by decide) f
theorem rdT_14 {H : zH} {a : Nat} {s : tyT} (hK : isB H a 5 (cT a s)) : ∀ (β : Type) (f : Int32 → Option β) (k : Nat), k < 36 → zli H (a + 4) 0 (nI k) f = f (gT_nu s k) := fun _ f k hk => li_c (hK 4 (Nat.le_of_ble_eq_true rfl)) hk (by omega) f
theorem stT_ln {h : zH} {a : Nat} {s : tyT} (x : Int32) : zset (blk a 5 (cT a s) h) (a + 0) (cT a (sT_ln s x) 0) = blk a 5 (cT a (sT_ln s x)) h :=
  blk_zset (by omega) rfl (fun j hj hn => by
    match j, hj, hn with
    | 0, _, hn => exact absurd rfl hn
    | 1, _, hn => exact rfl
    | 2, _, hn => exact rfl
    | 3, _, hn => exact rfl
    | 4, _, hn => exact rfl
    | j + 5, hj, _ => exact absurd hj (by omega))
theorem stT_ct {h : zH} {a : Nat} {s : tyT} (x : Int32) : zset (blk a 5 (cT a s) h) (a + 0) (cT a (sT_ct s x) 0) = blk a 5 (cT a (sT_ct s x)) h :=
  blk_zset (by omega) rfl (fun j hj hn => by
    match j, hj, hn with
    | 0, _, hn => exact absurd rfl hn
    | 1, _, hn => exact rfl
    | 2, _, hn => exact rfl
    | 3, _, hn => exact rfl
    | 4, _, hn => exact rfl
    | j + 5, hj, _ => exact absurd hj (by omega))
theorem stT_sg {h : zH} {a : Nat} {s : tyT} (g : Nat → Int32) : zset (blk a 5 (cT a s) h) (a + 1) (.inl (2, 60, .inl g)) = blk a 5 (cT a (sT_sg s g)) h :=
  blk_zset (by omega) rfl (fun j hj hn => by
    match j, hj, hn with
    | 0, _, hn => exact rfl
    | 1, _, hn => exact absurd rfl hn
    | 2, _, hn => exact rfl
    | 3, _, hn => exact rfl
    | 4, _, hn => exact rfl
    | j + 5, hj, _ => exact absurd hj (by omega))
theorem stT_wd {h : zH} {a : Nat} {s : tyT} (g : Nat → Int32) : zset (blk a 5 (cT a s) h) (a + 2) (.inl (0, 12, .inl g)) = blk a 5 (cT a (sT_wd s g)) h :=
  blk_zset (by omega) rfl (fun j hj hn => by
    match j, hj, hn with
    | 0, _, hn => exact rfl
    | 1, _, hn => exact rfl
    | 2, _, hn => exact absurd rfl hn
    | 3, _, hn => exact rfl
    | 4, _, hn => exact rfl
    | j + 5, hj, _ => exact absurd hj (by omega))
theorem stT_st {h : zH} {a : Nat} {s : tyT} (g : Nat → Int32) : zset (blk a 5 (cT a s) h) (a + 3) (.inl (0, 12, .inl g)) = blk a 5 (cT a (sT_st s g)) h :=
  blk_zset (by omega) rfl (fun j hj hn => by
    match j, hj, hn with
    | 0, _, hn => exact rfl
    | 1, _, hn => exact rfl
    | 2, _, hn => exact rfl
    | 3, _, hn => exact absurd rfl hn
    | 4, _, hn => exact rfl
    | j + 5, hj, _ => exact absurd hj (by omega))
theorem stT_nu {h : zH} {a : Nat} {s : tyT} (g : Nat → Int32) : zset (blk a 5 (cT a s) h) (a + 4) (.inl (0, 36, .inl g)) = blk a 5 (cT a (sT_nu s g)) h :=
  blk_zset (by omega) rfl (fun j hj hn => by
    match j, hj, hn with
    | 0, _, hn => exact rfl
    | 1, _, hn => exact rfl
    | 2, _, hn => exact rfl
    | 3, _, hn => exact rfl
    | 4, _, hn => exact absurd rfl hn
    | j + 5, hj, _ => exact absurd hj (by omega))
theorem wrT_0 {h : zH} {a : Nat} {s : tyT} (ha : 100 ≤ a) : ∀ (β : Type) (x : Int32) (f : zH → Option β), zpf (blk a 5 (cT a s) h) a 3 1 (.int x) f = f (blk a 5 (cT a (sT_ln s x)) h) := fun _ x f => (pf_c (blk_isB 0 (Nat.le_of_ble_eq_true rfl)) (Nat.le_of_ble_eq_true rfl) (by omega) rfl f).trans (congrArg f (stT_ln x))
theorem wrT_1 {h : zH} {a : Nat} {s : tyT} (ha : 100 ≤ a) : ∀ (β : Type) (x : Int32) (f : zH → Option β), zpf (blk a 5 (cT a s) h) a 3 2 (.int x) f = f (blk a 5 (cT a (sT_ct s x)) h) := fun _ x f => (pf_c (blk_isB 0 (Nat.le_of_ble_eq_true rfl)) (Nat.le_of_ble_eq_true rfl) (by omega) rfl f).trans (congrArg f (stT_ct x))
theorem wrT_2 {h : zH} {a : Nat} {s : tyT} (ha : 100 ≤ a) : ∀ (β : Type) (x : Int32) (f : zH → Option β) (k : Nat), k < 60 → zsi (blk a 5 (cT a s) h) (a + 1) 2 (nI k) x f = f (blk a 5 (cT a (sT_sg s (upd (gT_sg s) k x))) h) := fun _ x f k hk => (si_c (blk_isB 1 (Nat.le_of_ble_eq_true rfl)) hk (by omega) (by omega) x f).trans (congrArg f (stT_sg _))
theorem wrT_3 {h : zH} {a : Nat} {s : tyT} (ha : 100 ≤ a) : ∀ (β : Type) (x : Int32) (f : zH → Option β) (k : Nat), k < 12 → zsi (blk a 5 (cT a s) h) (a + 2) 0 (nI k) x f = f (blk a 5 (cT a (sT_wd s (upd (gT_wd s) k x))) h) := fun _ x f k hk => (si_c (blk_isB 2 (Nat.le_of_ble_eq_true rfl)) hk (by omega) (by omega) x f).trans (congrArg f (stT_wd _))
theorem wrT_4 {h : zH} {a : Nat} {s : tyT} (ha : 100 ≤ a) : ∀ (β : Type) (x : Int32) (f : zH → Option β) (k : Nat), k < 12 → zsi (blk a 5 (cT a s) h) (a + 3) 0 (nI k) x f = f (blk a 5 (cT a (sT_st s (upd (gT_st s) k x))) h) := fun _ x f k hk => (si_c (blk_isB 3 (Nat.le_of_ble_eq_true rfl)) hk (by omega) (by omega) x f).trans (congrArg f (stT_st _))
theorem wrT_5 {h : zH} {a : Nat} {s : tyT} (ha : 100 ≤ a) : ∀ (β : Type) (x : Int32) (f : zH → Option β) (k : Nat), k < 36 → zsi (blk a 5 (cT a s) h) (a + 4) 0 (nI k) x f = f (blk a 5 (cT a (sT_nu s (upd (gT_nu s) k x))) h) := fun _ x f k hk => (si_c (blk_isB 4 (Nat.le_of_ble_eq_true rfl)) hk (by omega) (by omega) x f).trans (congrArg f (stT_nu _))

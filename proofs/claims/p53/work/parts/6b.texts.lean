/-! a run of the law, call by call (printed by wip/p53/gchain.py) -/
noncomputable def Sq_17 : MG := [lq_0, lq_1, lq_1, lq_2, lq_1, lq_1, lq_1, lq_1]
noncomputable def lq_26 : List Nat := [0, 0, 0, 0, 0, nq_0, nq_1, 2199023255552, 107, 0]
noncomputable def Sq_18 : MG := [lq_26, lq_1, lq_1, lq_2, lq_1, lq_1, lq_1, lq_1]
noncomputable def lq_27 : List Nat := [0, 0, 0, 0, 0, nq_0, nq_1, 3298534883328, 60473139527787, 0]
noncomputable def Sq_19 : MG := [lq_27, lq_1, lq_1, lq_2, lq_1, lq_1, lq_1, lq_1]
noncomputable def nq_58 : Nat := nat_lit 0x690000000037000000006b
noncomputable def lq_28 : List Nat := [0, 0, 0, 0, 0, nq_0, nq_1, 4398046511104, nq_58, 0]
noncomputable def Sq_20 : MG := [lq_28, lq_1, lq_1, lq_2, lq_1, lq_1, lq_1, lq_1]
noncomputable def nq_59 : Nat := nat_lit 0x700000000000000000001000000000300000000040000000000
noncomputable def lq_29 : List Nat := [0, 0, 0, 0, 0, nq_0, nq_1, nq_59, nq_58, 0]
noncomputable def Sq_21 : MG := [lq_29, lq_1, lq_1, lq_2, lq_1, lq_1, lq_1, lq_1]
noncomputable def nq_60 : Nat := nat_lit 0x700000000000000000001000000000300000000010000000000
noncomputable def lq_30 : List Nat := [0, 0, 0, 0, 0, nq_0, nq_1, nq_60, nq_58, 0]
noncomputable def Sq_22 : MG := [lq_30, lq_1, lq_1, lq_2, lq_1, lq_1, lq_1, lq_1]
noncomputable def nq_61 : Nat := nat_lit 0x700000000000000000001000000000300000000020000000000
noncomputable def lq_31 : List Nat := [0, 0, 0, 0, 0, nq_0, nq_1, nq_61, nq_58, 0]
noncomputable def Sq_23 : MG := [lq_31, lq_1, lq_1, lq_2, lq_1, lq_1, lq_1, lq_1]
noncomputable def nq_62 : Nat := nat_lit 0x700000000000000000001000000000300000000030000000000
noncomputable def nq_63 : Nat := nat_lit 0x690000000038000000006b
noncomputable def lq_32 : List Nat := [0, 0, 0, 0, 0, nq_0, nq_1, nq_62, nq_63, 0]
noncomputable def Sq_24 : MG := [lq_32, lq_1, lq_1, lq_2, lq_1, lq_1, lq_1, lq_1]
noncomputable def lq_33 : List Nat := [0, 0, 0, 0, 0, nq_0, nq_1, nq_59, nq_63, 0]
noncomputable def Sq_25 : MG := [lq_33, lq_1, lq_1, lq_2, lq_1, lq_1, lq_1, lq_1]
noncomputable def nq_64 : Nat := nat_lit 0x100000000000000000001000000000400000000040000000000
noncomputable def lq_34 : List Nat := [0, 0, 0, 0, 0, nq_0, nq_1, nq_64, nq_63, 8]
noncomputable def Sq_26 : MG := [lq_34, lq_1, lq_1, lq_2, lq_1, lq_1, lq_1, lq_1]
noncomputable def nq_65 : Nat := nat_lit 0x100000000000000000001000000000400000000010000000000
noncomputable def lq_35 : List Nat := [0, 0, 0, 0, 0, nq_0, nq_1, nq_65, nq_63, 8]
noncomputable def Sq_27 : MG := [lq_35, lq_1, lq_1, lq_2, lq_1, lq_1, lq_1, lq_1]
noncomputable def nq_66 : Nat := nat_lit 0x100000000000000000001000000000400000000020000000000
noncomputable def lq_36 : List Nat := [0, 0, 0, 0, 0, nq_0, nq_1, nq_66, nq_63, 8]
noncomputable def Sq_28 : MG := [lq_36, lq_1, lq_1, lq_2, lq_1, lq_1, lq_1, lq_1]
noncomputable def nq_67 : Nat := nat_lit 0x100000000000000000001000000000400000000030000000000
noncomputable def lq_37 : List Nat := [0, 0, 0, 0, 0, nq_0, nq_1, nq_67, nq_63, 8]
noncomputable def Sq_29 : MG := [lq_37, lq_1, lq_1, lq_2, lq_1, lq_1, lq_1, lq_1]
noncomputable def nq_68 : Nat := nat_lit 0x320000000038000000006b
noncomputable def lq_38 : List Nat := [0, 0, 0, 0, 0, nq_0, nq_1, nq_64, nq_68, 8]
noncomputable def Sq_30 : MG := [lq_38, lq_1, lq_1, lq_2, lq_1, lq_1, lq_1, lq_1]
noncomputable def nq_69 : Nat := nat_lit 0x800000000000000000001000000000300000000040000000000
noncomputable def lq_39 : List Nat := [0, 0, 0, 0, 0, nq_0, nq_1, nq_69, nq_68, 8]
noncomputable def Sq_31 : MG := [lq_39, lq_1, lq_1, lq_2, lq_1, lq_1, lq_1, lq_1]
noncomputable def nq_70 : Nat := nat_lit 0x800000000000000000001000000000300000000010000000000
noncomputable def lq_40 : List Nat := [0, 0, 0, 0, 0, nq_0, nq_1, nq_70, nq_68, 8]
noncomputable def Sq_32 : MG := [lq_40, lq_1, lq_1, lq_2, lq_1, lq_1, lq_1, lq_1]
noncomputable def nq_71 : Nat := nat_lit 0x800000000000000000001000000000300000000020000000000
noncomputable def lq_41 : List Nat := [0, 0, 0, 0, 0, nq_0, nq_1, nq_71, nq_68, 8]
noncomputable def Sq_33 : MG := [lq_41, lq_1, lq_1, lq_2, lq_1, lq_1, lq_1, lq_1]
noncomputable def nq_72 : Nat := nat_lit 0x800000000000000000001000000000300000000030000000000
noncomputable def nq_73 : Nat := nat_lit 0x320000000032000000006b
noncomputable def lq_42 : List Nat := [0, 0, 0, 0, 0, nq_0, nq_1, nq_72, nq_73, 8]
noncomputable def Sq_34 : MG := [lq_42, lq_1, lq_1, lq_2, lq_1, lq_1, lq_1, lq_1]
noncomputable def nq_74 : Nat := nat_lit 0x200000000000000000001000000000300000000030000000000
noncomputable def lq_43 : List Nat := [0, 0, 0, 0, 0, nq_0, nq_1, nq_74, nq_73, 8]
noncomputable def Sq_35 : MG := [lq_43, lq_1, lq_1, lq_2, lq_1, lq_1, lq_1, lq_1]
noncomputable def nq_75 : Nat := nat_lit 0x200000000000000000001000000000300000000010000000000
noncomputable def lq_44 : List Nat := [0, 0, 0, 0, 0, nq_0, nq_1, nq_75, nq_73, 8]
noncomputable def Sq_36 : MG := [lq_44, lq_1, lq_1, lq_2, lq_1, lq_1, lq_1, lq_1]
noncomputable def nq_76 : Nat := nat_lit 0x200000000000000000001000000000300000000020000000000
noncomputable def nq_77 : Nat := nat_lit 0x3200000000320000000067
noncomputable def lq_45 : List Nat := [0, 0, 0, 0, 0, nq_0, nq_1, nq_76, nq_77, 8]
noncomputable def Sq_37 : MG := [lq_45, lq_1, lq_1, lq_2, lq_1, lq_1, lq_1, lq_1]
noncomputable def nq_78 : Nat := nat_lit 0x3200000000310000000067
noncomputable def lq_46 : List Nat := [0, 0, 0, 0, 0, nq_0, nq_1, nq_74, nq_78, 8]
noncomputable def Sq_38 : MG := [lq_46, lq_1, lq_1, lq_2, lq_1, lq_1, lq_1, lq_1]
noncomputable def nq_79 : Nat := nat_lit 0x100000000000000000002000000000200000000030000000000
noncomputable def lq_47 : List Nat := [0, 0, 0, 0, 0, nq_0, nq_1, nq_79, nq_78, 8]
noncomputable def Sq_39 : MG := [lq_47, lq_1, lq_1, lq_2, lq_1, lq_1, lq_1, lq_1]
noncomputable def nq_80 : Nat := nat_lit 0x100000000000000000002000000000200000000010000000000
noncomputable def lq_48 : List Nat := [0, 0, 0, 0, 0, nq_0, nq_1, nq_80, nq_78, 8]
noncomputable def Sq_40 : MG := [lq_48, lq_1, lq_1, lq_2, lq_1, lq_1, lq_1, lq_1]
noncomputable def nq_81 : Nat := nat_lit 0x100000000000000000002000000000200000000020000000000
noncomputable def lq_49 : List Nat := [0, 0, 0, 0, 0, nq_0, nq_1, nq_81, nq_78, 8]
noncomputable def Sq_41 : MG := [lq_49, lq_1, lq_1, lq_2, lq_1, lq_1, lq_1, lq_1]
noncomputable def lq_50 : List Nat := [0, 0, 0, 0, 0, nq_0, nq_1, nq_79, nq_77, 8]
noncomputable def Sq_42 : MG := [lq_50, lq_1, lq_1, lq_2, lq_1, lq_1, lq_1, lq_1]
noncomputable def nq_82 : Nat := nat_lit 0x100000000000000000002000000000200000000040000000000
noncomputable def nq_83 : Nat := nat_lit 0x3100000000320000000067
noncomputable def lq_51 : List Nat := [0, 0, 0, 0, 0, nq_0, nq_1, nq_82, nq_83, 8]
noncomputable def Sq_43 : MG := [lq_51, lq_1, lq_1, lq_2, lq_1, lq_1, lq_1, lq_1]
noncomputable def nq_84 : Nat := nat_lit 0x100000000000000000002000000000200000000050000000000
noncomputable def nq_85 : Nat := nat_lit 0x31000000003100000000320000000067
noncomputable def lq_52 : List Nat := [0, 0, 0, 0, 0, nq_0, nq_1, nq_84, nq_85, 8]
noncomputable def Sq_44 : MG := [lq_52, lq_1, lq_1, lq_2, lq_1, lq_1, lq_1, lq_1]
noncomputable def nq_86 : Nat := nat_lit 0x100000000000000000002000000000200000000060000000000
noncomputable def nq_87 : Nat := nat_lit 0x310000000031000000003100000000320000000067
noncomputable def lq_53 : List Nat := [0, 0, 0, 0, 0, nq_0, nq_1, nq_86, nq_87, 8]
noncomputable def Sq_45 : MG := [lq_53, lq_1, lq_1, lq_2, lq_1, lq_1, lq_1, lq_1]
noncomputable def nq_88 : Nat := nat_lit 0x100000000000000000002000000000200000000070000000000
noncomputable def nq_89 : Nat := nat_lit 0x3100000000310000000031000000003100000000320000000067
noncomputable def lq_54 : List Nat := [0, 0, 0, 0, 0, nq_0, nq_1, nq_88, nq_89, 8]
noncomputable def Sq_46 : MG := [lq_54, lq_1, lq_1, lq_2, lq_1, lq_1, lq_1, lq_1]
noncomputable def nq_90 : Nat := nat_lit 0x3e900000000000000000002000000000600000000070000000000
noncomputable def lq_55 : List Nat := [0, 0, 0, 0, 0, nq_0, nq_1, nq_90, nq_89, 8]
noncomputable def Sq_47 : MG := [lq_55, lq_1, lq_1, lq_2, lq_1, lq_1, lq_1, lq_1]
noncomputable def nq_91 : Nat := nat_lit 0x3e900000000000000000002000000000600000000010000000000
noncomputable def lq_56 : List Nat := [0, 0, 0, 0, 0, nq_0, nq_1, nq_91, nq_89, 8]
noncomputable def Sq_48 : MG := [lq_56, lq_1, lq_1, lq_2, lq_1, lq_1, lq_1, lq_1]
noncomputable def nq_92 : Nat := nat_lit 0x3e900000000000000000002000000000600000000020000000000
noncomputable def nq_93 : Nat := nat_lit 0x310000000031000000003100000000310000000032000000006d
noncomputable def lq_57 : List Nat := [0, 0, 0, 0, 0, nq_0, nq_1, nq_92, nq_93, 8]
noncomputable def Sq_49 : MG := [lq_57, lq_1, lq_1, lq_2, lq_1, lq_1, lq_1, lq_1]
noncomputable def nq_94 : Nat := nat_lit 0x3e900000000000000000002000000000600000000030000000000
noncomputable def nq_95 : Nat := nat_lit 0x310000000031000000003100000000310000000033000000006d
noncomputable def lq_58 : List Nat := [0, 0, 0, 0, 0, nq_0, nq_1, nq_94, nq_95, 8]
noncomputable def Sq_50 : MG := [lq_58, lq_1, lq_1, lq_2, lq_1, lq_1, lq_1, lq_1]
noncomputable def nq_96 : Nat := nat_lit 0x3e900000000000000000002000000000600000000040000000000
noncomputable def lq_59 : List Nat := [0, 0, 0, 0, 0, nq_0, nq_1, nq_96, nq_95, 8]
noncomputable def Sq_51 : MG := [lq_59, lq_1, lq_1, lq_2, lq_1, lq_1, lq_1, lq_1]
noncomputable def nq_97 : Nat := nat_lit 0x300000000000000000003000000000300000000040000000000
noncomputable def lq_60 : List Nat := [0, 0, 0, 0, 0, nq_0, nq_1, nq_97, nq_95, 8]
noncomputable def Sq_52 : MG := [lq_60, lq_1, lq_1, lq_2, lq_1, lq_1, lq_1, lq_1]
noncomputable def nq_98 : Nat := nat_lit 0x300000000000000000003000000000300000000010000000000
noncomputable def lq_61 : List Nat := [0, 0, 0, 0, 0, nq_0, nq_1, nq_98, nq_95, 8]
noncomputable def Sq_53 : MG := [lq_61, lq_1, lq_1, lq_2, lq_1, lq_1, lq_1, lq_1]
noncomputable def nq_99 : Nat := nat_lit 0x300000000000000000003000000000300000000020000000000
noncomputable def nq_100 : Nat := nat_lit 0x310000000031000000003100000000310000000033000000006b
noncomputable def lq_62 : List Nat := [0, 0, 0, 0, 0, nq_0, nq_1, nq_99, nq_100, 8]
noncomputable def Sq_54 : MG := [lq_62, lq_1, lq_1, lq_2, lq_1, lq_1, lq_1, lq_1]
noncomputable def nq_101 : Nat := nat_lit 0x300000000000000000003000000000300000000030000000000
noncomputable def nq_102 : Nat := nat_lit 0x31000000003100000000310000000031000000003a000000006b
noncomputable def lq_63 : List Nat := [0, 0, 0, 0, 0, nq_0, nq_1, nq_101, nq_102, 8]
noncomputable def Sq_55 : MG := [lq_63, lq_1, lq_1, lq_2, lq_1, lq_1, lq_1, lq_1]
noncomputable def nq_103 : Nat := nat_lit 0x31000000003100000000310000000069000000003a000000006b
noncomputable def lq_64 : List Nat := [0, 0, 0, 0, 0, nq_0, nq_1, nq_97, nq_103, 8]
noncomputable def Sq_56 : MG := [lq_64, lq_1, lq_1, lq_2, lq_1, lq_1, lq_1, lq_1]
noncomputable def nq_104 : Nat := nat_lit 0x300000000000000000003000000000300000000050000000000
noncomputable def nq_105 : Nat := nat_lit 0x31000000003100000000330000000069000000003a000000006b
noncomputable def lq_65 : List Nat := [0, 0, 0, 0, 0, nq_0, nq_1, nq_104, nq_105, 8]
noncomputable def Sq_57 : MG := [lq_65, lq_1, lq_1, lq_2, lq_1, lq_1, lq_1, lq_1]
noncomputable def nq_106 : Nat := nat_lit 0x300000000000000000001000000000500000000050000000000
noncomputable def lq_66 : List Nat := [0, 0, 0, 0, 0, nq_0, nq_1, nq_106, nq_105, 10]
noncomputable def Sq_58 : MG := [lq_66, lq_1, lq_1, lq_2, lq_1, lq_1, lq_1, lq_1]
noncomputable def nq_107 : Nat := nat_lit 0x300000000000000000001000000000500000000010000000000
noncomputable def lq_67 : List Nat := [0, 0, 0, 0, 0, nq_0, nq_1, nq_107, nq_105, 10]
noncomputable def Sq_59 : MG := [lq_67, lq_1, lq_1, lq_2, lq_1, lq_1, lq_1, lq_1]
noncomputable def nq_108 : Nat := nat_lit 0x300000000000000000001000000000500000000020000000000
noncomputable def lq_68 : List Nat := [0, 0, 0, 0, 0, nq_0, nq_1, nq_108, nq_105, 10]
noncomputable def Sq_60 : MG := [lq_68, lq_1, lq_1, lq_2, lq_1, lq_1, lq_1, lq_1]
noncomputable def nq_109 : Nat := nat_lit 0x300000000000000000001000000000500000000030000000000
noncomputable def lq_69 : List Nat := [0, 0, 0, 0, 0, nq_0, nq_1, nq_109, nq_105, 10]
noncomputable def Sq_61 : MG := [lq_69, lq_1, lq_1, lq_2, lq_1, lq_1, lq_1, lq_1]
noncomputable def nq_110 : Nat := nat_lit 0x300000000000000000001000000000500000000040000000000
noncomputable def lq_70 : List Nat := [0, 0, 0, 0, 0, nq_0, nq_1, nq_110, nq_105, 10]
noncomputable def Sq_62 : MG := [lq_70, lq_1, lq_1, lq_2, lq_1, lq_1, lq_1, lq_1]
noncomputable def nq_111 : Nat := nat_lit 0x300000000000000000001000000000500000000060000000000
noncomputable def nq_112 : Nat := nat_lit 0x31000000003300000000330000000069000000003a000000006b
noncomputable def lq_71 : List Nat := [0, 0, 0, 0, 0, nq_0, nq_1, nq_111, nq_112, 10]
noncomputable def Sq_63 : MG := [lq_71, lq_1, lq_1, lq_2, lq_1, lq_1, lq_1, lq_1]
noncomputable def lq_72 : List Nat := [0, 0, 0, 0, 0, nq_0, nq_1, nq_107, nq_112, 10]
noncomputable def Sq_64 : MG := [lq_72, lq_1, lq_1, lq_2, lq_1, lq_1, lq_1, lq_1]
noncomputable def lq_73 : List Nat := [0, 0, 0, 0, 0, nq_0, nq_1, nq_108, nq_112, 10]
noncomputable def Sq_65 : MG := [lq_73, lq_1, lq_1, lq_2, lq_1, lq_1, lq_1, lq_1]
noncomputable def lq_74 : List Nat := [0, 0, 0, 0, 0, nq_0, nq_1, nq_109, nq_112, 10]
noncomputable def Sq_66 : MG := [lq_74, lq_1, lq_1, lq_2, lq_1, lq_1, lq_1, lq_1]
noncomputable def lq_75 : List Nat := [0, 0, 0, 0, 0, nq_0, nq_1, nq_110, nq_112, 10]
noncomputable def Sq_67 : MG := [lq_75, lq_1, lq_1, lq_2, lq_1, lq_1, lq_1, lq_1]
noncomputable def nq_113 : Nat := nat_lit 0x310000000033000000003a0000000069000000003a000000006b
noncomputable def lq_76 : List Nat := [0, 0, 0, 0, 0, nq_0, nq_1, nq_106, nq_113, 10]
noncomputable def Sq_68 : MG := [lq_76, lq_1, lq_1, lq_2, lq_1, lq_1, lq_1, lq_1]
noncomputable def nq_114 : Nat := nat_lit 0x310000000031000000003a0000000069000000003a000000006b
noncomputable def lq_77 : List Nat := [0, 0, 0, 0, 0, nq_0, nq_1, nq_111, nq_114, 10]
noncomputable def Sq_69 : MG := [lq_77, lq_1, lq_1, lq_2, lq_1, lq_1, lq_1, lq_1]
noncomputable def nq_115 : Nat := nat_lit 0x300000000000000000001000000000500000000070000000000
noncomputable def nq_116 : Nat := nat_lit 0x730000000031000000003a0000000069000000003a000000006b
noncomputable def lq_78 : List Nat := [0, 0, 0, 0, 0, nq_0, nq_1, nq_115, nq_116, 10]
noncomputable def Sq_70 : MG := [lq_78, lq_1, lq_1, lq_2, lq_1, lq_1, lq_1, lq_1]
noncomputable def nq_117 : Nat := nat_lit 0x300000000000000000001000000000500000000080000000000
noncomputable def nq_118 : Nat := nat_lit 0x3600000000730000000031000000003a0000000069000000003a000000006b
noncomputable def lq_79 : List Nat := [0, 0, 0, 0, 0, nq_0, nq_1, nq_117, nq_118, 10]
noncomputable def Sq_71 : MG := [lq_79, lq_1, lq_1, lq_2, lq_1, lq_1, lq_1, lq_1]
noncomputable def nq_119 : Nat := nat_lit 0x300000000000000000001000000000500000000090000000000
noncomputable def nq_120 : Nat := nat_lit 0x2e000000003600000000730000000031000000003a0000000069000000003a000000006b
noncomputable def lq_80 : List Nat := [0, 0, 0, 0, 0, nq_0, nq_1, nq_119, nq_120, 10]
noncomputable def Sq_72 : MG := [lq_80, lq_1, lq_1, lq_2, lq_1, lq_1, lq_1, lq_1]
noncomputable def nq_121 : Nat := nat_lit 0x3000000000000000000010000000005000000000a0000000000
noncomputable def nq_122 : Nat := nat_lit 0x35000000002e000000003600000000730000000031000000003a0000000069000000003a000000006b
noncomputable def lq_81 : List Nat := [0, 0, 0, 0, 0, nq_0, nq_1, nq_121, nq_122, 10]
noncomputable def Sq_73 : MG := [lq_81, lq_1, lq_1, lq_2, lq_1, lq_1, lq_1, lq_1]
noncomputable def nq_123 : Nat := nat_lit 0x3000000000000000000010000000005000000000b0000000000
noncomputable def nq_124 : Nat := nat_lit 0x3a0000000035000000002e000000003600000000730000000031000000003a0000000069000000003a000000006b
noncomputable def lq_82 : List Nat := [0, 0, 0, 0, 0, nq_0, nq_1, nq_123, nq_124, 10]
noncomputable def Sq_74 : MG := [lq_82, lq_1, lq_1, lq_2, lq_1, lq_1, lq_1, lq_1]
noncomputable def nq_125 : Nat := nat_lit 0x500000000000000000001000000000a000000000b0000000000
noncomputable def nq_126 : Nat := nat_lit 0x6000000005b000000000a
noncomputable def lq_83 : List Nat := [0, 0, 0, 0, 0, nq_0, nq_1, nq_125, nq_124, nq_126]
noncomputable def Sq_75 : MG := [lq_83, lq_1, lq_1, lq_2, lq_1, lq_1, lq_1, lq_1]
noncomputable def nq_127 : Nat := nat_lit 0x500000000000000000001000000000a00000000010000000000
noncomputable def lq_84 : List Nat := [0, 0, 0, 0, 0, nq_0, nq_1, nq_127, nq_124, nq_126]
noncomputable def Sq_76 : MG := [lq_84, lq_1, lq_1, lq_2, lq_1, lq_1, lq_1, lq_1]
noncomputable def nq_128 : Nat := nat_lit 0x500000000000000000001000000000a00000000020000000000
noncomputable def lq_85 : List Nat := [0, 0, 0, 0, 0, nq_0, nq_1, nq_128, nq_124, nq_126]
noncomputable def Sq_77 : MG := [lq_85, lq_1, lq_1, lq_2, lq_1, lq_1, lq_1, lq_1]
noncomputable def nq_129 : Nat := nat_lit 0x500000000000000000001000000000a00000000030000000000
noncomputable def lq_86 : List Nat := [0, 0, 0, 0, 0, nq_0, nq_1, nq_129, nq_124, nq_126]
noncomputable def Sq_78 : MG := [lq_86, lq_1, lq_1, lq_2, lq_1, lq_1, lq_1, lq_1]
noncomputable def nq_130 : Nat := nat_lit 0x500000000000000000001000000000a00000000040000000000
noncomputable def lq_87 : List Nat := [0, 0, 0, 0, 0, nq_0, nq_1, nq_130, nq_124, nq_126]
noncomputable def Sq_79 : MG := [lq_87, lq_1, lq_1, lq_2, lq_1, lq_1, lq_1, lq_1]
noncomputable def nq_131 : Nat := nat_lit 0x500000000000000000001000000000a00000000050000000000
noncomputable def lq_88 : List Nat := [0, 0, 0, 0, 0, nq_0, nq_1, nq_131, nq_124, nq_126]
noncomputable def Sq_80 : MG := [lq_88, lq_1, lq_1, lq_2, lq_1, lq_1, lq_1, lq_1]
noncomputable def nq_132 : Nat := nat_lit 0x500000000000000000001000000000a00000000060000000000
noncomputable def lq_89 : List Nat := [0, 0, 0, 0, 0, nq_0, nq_1, nq_132, nq_124, nq_126]
noncomputable def Sq_81 : MG := [lq_89, lq_1, lq_1, lq_2, lq_1, lq_1, lq_1, lq_1]
noncomputable def nq_133 : Nat := nat_lit 0x500000000000000000001000000000a00000000070000000000
noncomputable def lq_90 : List Nat := [0, 0, 0, 0, 0, nq_0, nq_1, nq_133, nq_124, nq_126]
noncomputable def Sq_82 : MG := [lq_90, lq_1, lq_1, lq_2, lq_1, lq_1, lq_1, lq_1]
noncomputable def nq_134 : Nat := nat_lit 0x500000000000000000001000000000a00000000080000000000
noncomputable def lq_91 : List Nat := [0, 0, 0, 0, 0, nq_0, nq_1, nq_134, nq_124, nq_126]
noncomputable def Sq_83 : MG := [lq_91, lq_1, lq_1, lq_2, lq_1, lq_1, lq_1, lq_1]
noncomputable def nq_135 : Nat := nat_lit 0x500000000000000000001000000000a00000000090000000000
noncomputable def lq_92 : List Nat := [0, 0, 0, 0, 0, nq_0, nq_1, nq_135, nq_124, nq_126]
noncomputable def Sq_84 : MG := [lq_92, lq_1, lq_1, lq_2, lq_1, lq_1, lq_1, lq_1]
noncomputable def nq_136 : Nat := nat_lit 0x500000000000000000001000000000a000000000a0000000000
noncomputable def lq_93 : List Nat := [0, 0, 0, 0, 0, nq_0, nq_1, nq_136, nq_124, nq_126]
noncomputable def Sq_85 : MG := [lq_93, lq_1, lq_1, lq_2, lq_1, lq_1, lq_1, lq_1]
noncomputable def nq_137 : Nat := nat_lit 0x630000000035000000002e000000003600000000730000000031000000003a0000000069000000003a000000006b
noncomputable def lq_94 : List Nat := [0, 0, 0, 0, 0, nq_0, nq_1, nq_125, nq_137, nq_126]
noncomputable def Sq_86 : MG := [lq_94, lq_1, lq_1, lq_2, lq_1, lq_1, lq_1, lq_1]
noncomputable def nq_138 : Nat := nat_lit 0x500000000000000000001000000000a000000000c0000000000
noncomputable def nq_139 : Nat := nat_lit 0x3200000000630000000035000000002e000000003600000000730000000031000000003a0000000069000000003a000000006b
noncomputable def lq_95 : List Nat := [0, 0, 0, 0, 0, nq_0, nq_1, nq_138, nq_139, nq_126]
noncomputable def Sq_87 : MG := [lq_95, lq_1, lq_1, lq_2, lq_1, lq_1, lq_1, lq_1]
noncomputable def nq_140 : Nat := nat_lit 0x500000000000000000001000000000a000000000d0000000000
noncomputable def nq_141 : Nat := nat_lit 0x32000000003200000000630000000035000000002e000000003600000000730000000031000000003a0000000069000000003a000000006b
noncomputable def lq_96 : List Nat := [0, 0, 0, 0, 0, nq_0, nq_1, nq_140, nq_141, nq_126]
noncomputable def Sq_88 : MG := [lq_96, lq_1, lq_1, lq_2, lq_1, lq_1, lq_1, lq_1]
noncomputable def nq_142 : Nat := nat_lit 0x200000000000000000001000000000c000000000d0000000000
noncomputable def nq_143 : Nat := nat_lit 0x50000000006000000005b000000000a
noncomputable def lq_97 : List Nat := [0, 0, 0, 0, 0, nq_0, nq_1, nq_142, nq_141, nq_143]
noncomputable def Sq_89 : MG := [lq_97, lq_1, lq_1, lq_2, lq_1, lq_1, lq_1, lq_1]
noncomputable def nq_144 : Nat := nat_lit 0x200000000000000000001000000000c00000000010000000000
noncomputable def lq_98 : List Nat := [0, 0, 0, 0, 0, nq_0, nq_1, nq_144, nq_141, nq_143]
noncomputable def Sq_90 : MG := [lq_98, lq_1, lq_1, lq_2, lq_1, lq_1, lq_1, lq_1]
noncomputable def nq_145 : Nat := nat_lit 0x200000000000000000001000000000c00000000020000000000
noncomputable def nq_146 : Nat := nat_lit 0x32000000003200000000630000000035000000002e000000003600000000730000000031000000003a0000000069000000003a0000000075
noncomputable def lq_99 : List Nat := [0, 0, 0, 0, 0, nq_0, nq_1, nq_145, nq_146, nq_143]
noncomputable def Sq_91 : MG := [lq_99, lq_1, lq_1, lq_2, lq_1, lq_1, lq_1, lq_1]
noncomputable def nq_147 : Nat := nat_lit 0x200000000000000000001000000000c00000000030000000000
noncomputable def nq_148 : Nat := nat_lit 0x32000000003200000000630000000035000000002e000000003600000000730000000031000000003a000000006900000000320000000075
noncomputable def lq_100 : List Nat := [0, 0, 0, 0, 0, nq_0, nq_1, nq_147, nq_148, nq_143]
noncomputable def Sq_92 : MG := [lq_100, lq_1, lq_1, lq_2, lq_1, lq_1, lq_1, lq_1]
noncomputable def nq_149 : Nat := nat_lit 0x200000000000000000001000000000c00000000040000000000
noncomputable def nq_150 : Nat := nat_lit 0x32000000003200000000630000000035000000002e000000003600000000730000000031000000003a000000003100000000320000000075
noncomputable def lq_101 : List Nat := [0, 0, 0, 0, 0, nq_0, nq_1, nq_149, nq_150, nq_143]
noncomputable def Sq_93 : MG := [lq_101, lq_1, lq_1, lq_2, lq_1, lq_1, lq_1, lq_1]
noncomputable def nq_151 : Nat := nat_lit 0x200000000000000000001000000000c00000000050000000000
noncomputable def nq_152 : Nat := nat_lit 0x32000000003200000000630000000035000000002e0000000036000000007300000000310000000031000000003100000000320000000075
noncomputable def lq_102 : List Nat := [0, 0, 0, 0, 0, nq_0, nq_1, nq_151, nq_152, nq_143]
noncomputable def Sq_94 : MG := [lq_102, lq_1, lq_1, lq_2, lq_1, lq_1, lq_1, lq_1]
noncomputable def nq_153 : Nat := nat_lit 0xb00000000000000000007000000000400000000050000000000
noncomputable def lq_103 : List Nat := [0, 0, 0, 0, 0, nq_0, nq_1, nq_153, nq_152, nq_143]
noncomputable def Sq_95 : MG := [lq_103, lq_1, lq_1, lq_2, lq_1, lq_1, lq_1, lq_1]
noncomputable def nq_154 : Nat := nat_lit 0xb00000000000000000007000000000400000000010000000000
noncomputable def lq_104 : List Nat := [0, 0, 0, 0, 0, nq_0, nq_1, nq_154, nq_152, nq_143]
noncomputable def Sq_96 : MG := [lq_104, lq_1, lq_1, lq_2, lq_1, lq_1, lq_1, lq_1]
noncomputable def nq_155 : Nat := nat_lit 0xb00000000000000000007000000000400000000020000000000
noncomputable def nq_156 : Nat := nat_lit 0x32000000003200000000630000000035000000002e0000000036000000007300000000310000000031000000003100000000320000000079
noncomputable def lq_105 : List Nat := [0, 0, 0, 0, 0, nq_0, nq_1, nq_155, nq_156, nq_143]
noncomputable def Sq_97 : MG := [lq_105, lq_1, lq_1, lq_2, lq_1, lq_1, lq_1, lq_1]
noncomputable def nq_157 : Nat := nat_lit 0xb00000000000000000007000000000400000000030000000000
noncomputable def nq_158 : Nat := nat_lit 0x32000000003200000000630000000035000000002e0000000036000000007300000000310000000031000000003100000000340000000079
noncomputable def lq_106 : List Nat := [0, 0, 0, 0, 0, nq_0, nq_1, nq_157, nq_158, nq_143]
noncomputable def Sq_98 : MG := [lq_106, lq_1, lq_1, lq_2, lq_1, lq_1, lq_1, lq_1]
noncomputable def nq_159 : Nat := nat_lit 0xb00000000000000000007000000000400000000040000000000
noncomputable def lq_107 : List Nat := [0, 0, 0, 0, 0, nq_0, nq_1, nq_159, nq_158, nq_143]
noncomputable def Sq_99 : MG := [lq_107, lq_1, lq_1, lq_2, lq_1, lq_1, lq_1, lq_1]
noncomputable def nq_160 : Nat := nat_lit 0x400000000000000000006000000000300000000040000000000
noncomputable def lq_108 : List Nat := [0, 0, 0, 0, 0, nq_0, nq_1, nq_160, nq_158, nq_143]
noncomputable def Sq_100 : MG := [lq_108, lq_1, lq_1, lq_2, lq_1, lq_1, lq_1, lq_1]
noncomputable def nq_161 : Nat := nat_lit 0x400000000000000000006000000000300000000010000000000
noncomputable def lq_109 : List Nat := [0, 0, 0, 0, 0, nq_0, nq_1, nq_161, nq_158, nq_143]
noncomputable def Sq_101 : MG := [lq_109, lq_1, lq_1, lq_2, lq_1, lq_1, lq_1, lq_1]
noncomputable def nq_162 : Nat := nat_lit 0x400000000000100000000000000000100000000010000000000
noncomputable def lq_110 : List Nat := [0, 0, 0, 0, 0, nq_0, nq_1, nq_162, nq_158, nq_143]
noncomputable def Sq_102 : MG := [lq_110, lq_1, lq_1, lq_2, lq_1, lq_1, lq_1, lq_1]
noncomputable def nq_163 : Nat := nat_lit 0x400000000000100000000000000000100000000020000000000
noncomputable def lq_111 : List Nat := [0, 0, 0, 0, 0, nq_0, nq_1, nq_163, nq_158, nq_143]
noncomputable def Sq_103 : MG := [lq_111, lq_1, lq_1, lq_2, lq_1, lq_1, lq_1, lq_1]
noncomputable def nq_164 : Nat := nat_lit 0x400000000000100000000000000000100000000030000000000
noncomputable def nq_165 : Nat := nat_lit 0x32000000003200000000630000000035000000002e0000000036000000007300000000310000000031000000003100000000310000000079
noncomputable def lq_112 : List Nat := [0, 0, 0, 0, 0, nq_0, nq_1, nq_164, nq_165, nq_143]
noncomputable def Sq_104 : MG := [lq_112, lq_1, lq_1, lq_2, lq_1, lq_1, lq_1, lq_1]
noncomputable def nq_166 : Nat := nat_lit 0x400000000000100000000000000000100000000040000000000
noncomputable def nq_167 : Nat := nat_lit 0x32000000003200000000630000000035000000002e0000000036000000007300000000310000000031000000003c00000000310000000079
noncomputable def lq_113 : List Nat := [0, 0, 0, 0, 0, nq_0, nq_1, nq_166, nq_167, nq_143]
noncomputable def Sq_105 : MG := [lq_113, lq_1, lq_1, lq_2, lq_1, lq_1, lq_1, lq_1]
noncomputable def nq_168 : Nat := nat_lit 0x400000000000100000000000000000100000000050000000000
noncomputable def nq_169 : Nat := nat_lit 0x32000000003200000000630000000035000000002e0000000036000000007300000000310000000075000000003c00000000310000000079
noncomputable def lq_114 : List Nat := [0, 0, 0, 0, 0, nq_0, nq_1, nq_168, nq_169, nq_143]
noncomputable def Sq_106 : MG := [lq_114, lq_1, lq_1, lq_2, lq_1, lq_1, lq_1, lq_1]
noncomputable def nq_170 : Nat := nat_lit 0x400000000000100000000000000000100000000060000000000
noncomputable def nq_171 : Nat := nat_lit 0x32000000003200000000630000000035000000002e0000000036000000007300000000320000000075000000003c00000000310000000079
noncomputable def lq_115 : List Nat := [0, 0, 0, 0, 0, nq_0, nq_1, nq_170, nq_171, nq_143]
noncomputable def Sq_107 : MG := [lq_115, lq_1, lq_1, lq_2, lq_1, lq_1, lq_1, lq_1]
noncomputable def nq_172 : Nat := nat_lit 0x400000000000100000000000000000100000000070000000000
noncomputable def nq_173 : Nat := nat_lit 0x32000000003200000000630000000035000000002e0000000036000000003c00000000320000000075000000003c00000000310000000079
noncomputable def lq_116 : List Nat := [0, 0, 0, 0, 0, nq_0, nq_1, nq_172, nq_173, nq_143]
noncomputable def Sq_108 : MG := [lq_116, lq_1, lq_1, lq_2, lq_1, lq_1, lq_1, lq_1]
noncomputable def nq_174 : Nat := nat_lit 0x400000000000100000000000000000100000000080000000000
noncomputable def nq_175 : Nat := nat_lit 0x32000000003200000000630000000035000000002e0000000079000000003c00000000320000000075000000003c00000000310000000079
noncomputable def lq_117 : List Nat := [0, 0, 0, 0, 0, nq_0, nq_1, nq_174, nq_175, nq_143]
noncomputable def Sq_109 : MG := [lq_117, lq_1, lq_1, lq_2, lq_1, lq_1, lq_1, lq_1]
noncomputable def nq_176 : Nat := nat_lit 0x400000000000100000000000000000100000000090000000000
noncomputable def nq_177 : Nat := nat_lit 0x3200000000320000000063000000003500000000330000000079000000003c00000000320000000075000000003c00000000310000000079
noncomputable def lq_118 : List Nat := [0, 0, 0, 0, 0, nq_0, nq_1, nq_176, nq_177, nq_143]
noncomputable def Sq_110 : MG := [lq_118, lq_1, lq_1, lq_2, lq_1, lq_1, lq_1, lq_1]
noncomputable def nq_178 : Nat := nat_lit 0x4000000000001000000000000000001000000000a0000000000
noncomputable def nq_179 : Nat := nat_lit 0x3200000000320000000063000000003a00000000330000000079000000003c00000000320000000075000000003c00000000310000000079
noncomputable def lq_119 : List Nat := [0, 0, 0, 0, 0, nq_0, nq_1, nq_178, nq_179, nq_143]
noncomputable def Sq_111 : MG := [lq_119, lq_1, lq_1, lq_2, lq_1, lq_1, lq_1, lq_1]
noncomputable def nq_180 : Nat := nat_lit 0x1e00000000000000000006000000000a000000000a0000000000
noncomputable def nq_181 : Nat := nat_lit 0x50000000006000000005b000000001e
noncomputable def lq_120 : List Nat := [0, 0, 0, 0, 0, nq_0, nq_1, nq_180, nq_179, nq_181]
noncomputable def Sq_112 : MG := [lq_120, lq_1, lq_1, lq_2, lq_1, lq_1, lq_1, lq_1]
noncomputable def nq_182 : Nat := nat_lit 0x1e00000000000000000006000000000a00000000010000000000
noncomputable def lq_121 : List Nat := [0, 0, 0, 0, 0, nq_0, nq_1, nq_182, nq_179, nq_181]
noncomputable def Sq_113 : MG := [lq_121, lq_1, lq_1, lq_2, lq_1, lq_1, lq_1, lq_1]
noncomputable def nq_183 : Nat := nat_lit 0x1e00000000000000000006000000000a00000000020000000000
noncomputable def nq_184 : Nat := nat_lit 0x3200000000320000000063000000003a00000000330000000079000000003c00000000320000000075000000003c00000000310000000067
noncomputable def lq_122 : List Nat := [0, 0, 0, 0, 0, nq_0, nq_1, nq_183, nq_184, nq_181]
noncomputable def Sq_114 : MG := [lq_122, lq_1, lq_1, lq_2, lq_1, lq_1, lq_1, lq_1]
noncomputable def nq_185 : Nat := nat_lit 0x1e00000000000000000006000000000a00000000030000000000
noncomputable def nq_186 : Nat := nat_lit 0x3200000000320000000063000000003a00000000330000000079000000003c00000000320000000075000000003c000000003a0000000067
noncomputable def lq_123 : List Nat := [0, 0, 0, 0, 0, nq_0, nq_1, nq_185, nq_186, nq_181]
noncomputable def Sq_115 : MG := [lq_123, lq_1, lq_1, lq_2, lq_1, lq_1, lq_1, lq_1]
noncomputable def nq_187 : Nat := nat_lit 0x1e00000000000000000006000000000a00000000040000000000
noncomputable def nq_188 : Nat := nat_lit 0x3200000000320000000063000000003a00000000330000000079000000003c00000000320000000075000000002b000000003a0000000067
noncomputable def lq_124 : List Nat := [0, 0, 0, 0, 0, nq_0, nq_1, nq_187, nq_188, nq_181]
noncomputable def Sq_116 : MG := [lq_124, lq_1, lq_1, lq_2, lq_1, lq_1, lq_1, lq_1]
noncomputable def nq_189 : Nat := nat_lit 0x1e00000000000000000006000000000a00000000050000000000
noncomputable def nq_190 : Nat := nat_lit 0x3200000000320000000063000000003a00000000330000000079000000003c00000000320000000035000000002b000000003a0000000067
noncomputable def lq_125 : List Nat := [0, 0, 0, 0, 0, nq_0, nq_1, nq_189, nq_190, nq_181]
noncomputable def Sq_117 : MG := [lq_125, lq_1, lq_1, lq_2, lq_1, lq_1, lq_1, lq_1]
noncomputable def nq_191 : Nat := nat_lit 0x100000000000000000002000000000400000000050000000000
noncomputable def lq_126 : List Nat := [0, 0, 0, 0, 0, nq_0, nq_1, nq_191, nq_190, nq_143]
noncomputable def Sq_118 : MG := [lq_126, lq_1, lq_1, lq_2, lq_1, lq_1, lq_1, lq_1]
noncomputable def nq_192 : Nat := nat_lit 0x100000000000000000002000000000400000000010000000000
noncomputable def lq_127 : List Nat := [0, 0, 0, 0, 0, nq_0, nq_1, nq_192, nq_190, nq_143]
noncomputable def Sq_119 : MG := [lq_127, lq_1, lq_1, lq_2, lq_1, lq_1, lq_1, lq_1]
noncomputable def nq_193 : Nat := nat_lit 0x100000000000000000002000000000400000000020000000000
noncomputable def nq_194 : Nat := nat_lit 0x3200000000320000000063000000003a00000000330000000079000000003c00000000320000000035000000002b000000003a000000006d
noncomputable def lq_128 : List Nat := [0, 0, 0, 0, 0, nq_0, nq_1, nq_193, nq_194, nq_143]
noncomputable def Sq_120 : MG := [lq_128, lq_1, lq_1, lq_2, lq_1, lq_1, lq_1, lq_1]
noncomputable def nq_195 : Nat := nat_lit 0x100000000000000000002000000000400000000030000000000
noncomputable def nq_196 : Nat := nat_lit 0x3200000000320000000063000000003a00000000330000000079000000003c00000000320000000035000000002b0000000031000000006d
noncomputable def lq_129 : List Nat := [0, 0, 0, 0, 0, nq_0, nq_1, nq_195, nq_196, nq_143]
noncomputable def Sq_121 : MG := [lq_129, lq_1, lq_1, lq_2, lq_1, lq_1, lq_1, lq_1]
noncomputable def nq_197 : Nat := nat_lit 0x100000000000000000002000000000400000000040000000000
noncomputable def nq_198 : Nat := nat_lit 0x3200000000320000000063000000003a00000000330000000079000000003c00000000320000000035000000002f0000000031000000006d
noncomputable def lq_130 : List Nat := [0, 0, 0, 0, 0, nq_0, nq_1, nq_197, nq_198, nq_143]
noncomputable def Sq_122 : MG := [lq_130, lq_1, lq_1, lq_2, lq_1, lq_1, lq_1, lq_1]
noncomputable def lq_131 : List Nat := [0, 0, 0, 0, 0, nq_0, nq_1, nq_191, nq_198, nq_143]
noncomputable def Sq_123 : MG := [lq_131, lq_1, lq_1, lq_2, lq_1, lq_1, lq_1, lq_1]
noncomputable def nq_199 : Nat := nat_lit 0x100000000000000000003000000000400000000050000000000
noncomputable def nq_200 : Nat := nat_lit 0x50000000006000000005b0000000001
noncomputable def lq_132 : List Nat := [0, 0, 0, 0, 0, nq_0, nq_1, nq_199, nq_198, nq_200]
noncomputable def Sq_124 : MG := [lq_132, lq_1, lq_1, lq_2, lq_1, lq_1, lq_1, lq_1]
noncomputable def nq_201 : Nat := nat_lit 0x100000000000000000003000000000400000000010000000000
noncomputable def lq_133 : List Nat := [0, 0, 0, 0, 0, nq_0, nq_1, nq_201, nq_198, nq_200]
noncomputable def Sq_125 : MG := [lq_133, lq_1, lq_1, lq_2, lq_1, lq_1, lq_1, lq_1]
noncomputable def nq_202 : Nat := nat_lit 0x100000000000000000003000000000400000000020000000000
noncomputable def nq_203 : Nat := nat_lit 0x3200000000320000000063000000003a00000000330000000079000000003c00000000320000000035000000002f0000000031000000006f
noncomputable def lq_134 : List Nat := [0, 0, 0, 0, 0, nq_0, nq_1, nq_202, nq_203, nq_200]
noncomputable def Sq_126 : MG := [lq_134, lq_1, lq_1, lq_2, lq_1, lq_1, lq_1, lq_1]
noncomputable def nq_204 : Nat := nat_lit 0x100000000000000000003000000000400000000030000000000
noncomputable def lq_135 : List Nat := [0, 0, 0, 0, 0, nq_0, nq_1, nq_204, nq_203, nq_200]
noncomputable def Sq_127 : MG := [lq_135, lq_1, lq_1, lq_2, lq_1, lq_1, lq_1, lq_1]
noncomputable def nq_205 : Nat := nat_lit 0x100000000000000000003000000000400000000040000000000
noncomputable def nq_206 : Nat := nat_lit 0x3200000000320000000063000000003a00000000330000000079000000003c00000000320000000035000000003b0000000031000000006f
noncomputable def lq_136 : List Nat := [0, 0, 0, 0, 0, nq_0, nq_1, nq_205, nq_206, nq_200]
noncomputable def Sq_128 : MG := [lq_136, lq_1, lq_1, lq_2, lq_1, lq_1, lq_1, lq_1]
noncomputable def nq_207 : Nat := nat_lit 0x3200000000320000000063000000003a00000000330000000079000000003c00000000320000000032000000003b0000000031000000006f
noncomputable def lq_137 : List Nat := [0, 0, 0, 0, 0, nq_0, nq_1, nq_199, nq_207, nq_200]
noncomputable def Sq_129 : MG := [lq_137, lq_1, lq_1, lq_2, lq_1, lq_1, lq_1, lq_1]
noncomputable def nq_208 : Nat := nat_lit 0x100000000000000000003000000000400000000060000000000
noncomputable def nq_209 : Nat := nat_lit 0x3200000000320000000063000000003a00000000330000000079000000003c000000002e0000000032000000003b0000000031000000006f
noncomputable def lq_138 : List Nat := [0, 0, 0, 0, 0, nq_0, nq_1, nq_208, nq_209, nq_200]
noncomputable def Sq_130 : MG := [lq_138, lq_1, lq_1, lq_2, lq_1, lq_1, lq_1, lq_1]
noncomputable def nq_210 : Nat := nat_lit 0x100000000000000000003000000000400000000070000000000
noncomputable def nq_211 : Nat := nat_lit 0x3200000000320000000063000000003a000000003300000000790000000031000000002e0000000032000000003b0000000031000000006f
noncomputable def lq_139 : List Nat := [0, 0, 0, 0, 0, nq_0, nq_1, nq_210, nq_211, nq_200]
noncomputable def Sq_131 : MG := [lq_139, lq_1, lq_1, lq_2, lq_1, lq_1, lq_1, lq_1]
noncomputable def nq_212 : Nat := nat_lit 0x100000000000000000004000000000600000000070000000000
noncomputable def nq_213 : Nat := nat_lit 0x5000000000600000000020000000001
noncomputable def lq_140 : List Nat := [0, 0, 0, 0, 0, nq_0, nq_1, nq_212, nq_211, nq_213]
noncomputable def Sq_132 : MG := [lq_140, lq_1, lq_1, lq_2, lq_1, lq_1, lq_1, lq_1]
noncomputable def nq_214 : Nat := nat_lit 0x100000000000000000004000000000600000000010000000000
noncomputable def lq_141 : List Nat := [0, 0, 0, 0, 0, nq_0, nq_1, nq_214, nq_211, nq_213]
noncomputable def Sq_133 : MG := [lq_141, lq_1, lq_1, lq_2, lq_1, lq_1, lq_1, lq_1]
noncomputable def nq_215 : Nat := nat_lit 0x100000000000000000004000000000600000000020000000000
noncomputable def nq_216 : Nat := nat_lit 0x3200000000320000000063000000003a000000003300000000790000000031000000002e0000000032000000003b00000000310000000070
noncomputable def lq_142 : List Nat := [0, 0, 0, 0, 0, nq_0, nq_1, nq_215, nq_216, nq_213]
noncomputable def Sq_134 : MG := [lq_142, lq_1, lq_1, lq_2, lq_1, lq_1, lq_1, lq_1]
noncomputable def nq_217 : Nat := nat_lit 0x100000000000000000004000000000600000000030000000000
noncomputable def nq_218 : Nat := nat_lit 0x3200000000320000000063000000003a000000003300000000790000000031000000002e0000000032000000003b00000000330000000070
noncomputable def lq_143 : List Nat := [0, 0, 0, 0, 0, nq_0, nq_1, nq_217, nq_218, nq_213]
noncomputable def Sq_135 : MG := [lq_143, lq_1, lq_1, lq_2, lq_1, lq_1, lq_1, lq_1]
noncomputable def nq_219 : Nat := nat_lit 0x100000000000000000004000000000600000000040000000000
noncomputable def nq_220 : Nat := nat_lit 0x3200000000320000000063000000003a000000003300000000790000000031000000002e0000000032000000003a00000000330000000070
noncomputable def lq_144 : List Nat := [0, 0, 0, 0, 0, nq_0, nq_1, nq_219, nq_220, nq_213]
noncomputable def Sq_136 : MG := [lq_144, lq_1, lq_1, lq_2, lq_1, lq_1, lq_1, lq_1]
noncomputable def nq_221 : Nat := nat_lit 0x100000000000000000004000000000600000000050000000000
noncomputable def nq_222 : Nat := nat_lit 0x3200000000320000000063000000003a000000003300000000790000000031000000002e000000003f000000003a00000000330000000070
noncomputable def lq_145 : List Nat := [0, 0, 0, 0, 0, nq_0, nq_1, nq_221, nq_222, nq_213]
noncomputable def Sq_137 : MG := [lq_145, lq_1, lq_1, lq_2, lq_1, lq_1, lq_1, lq_1]
noncomputable def nq_223 : Nat := nat_lit 0x100000000000000000004000000000600000000060000000000
noncomputable def nq_224 : Nat := nat_lit 0x3200000000320000000063000000003a0000000033000000007900000000310000000035000000003f000000003a00000000330000000070
noncomputable def lq_146 : List Nat := [0, 0, 0, 0, 0, nq_0, nq_1, nq_223, nq_224, nq_213]
noncomputable def Sq_138 : MG := [lq_146, lq_1, lq_1, lq_2, lq_1, lq_1, lq_1, lq_1]
noncomputable def nq_225 : Nat := nat_lit 0x3200000000320000000063000000003a00000000330000000079000000002c0000000035000000003f000000003a00000000330000000070
noncomputable def lq_147 : List Nat := [0, 0, 0, 0, 0, nq_0, nq_1, nq_212, nq_225, nq_213]
noncomputable def Sq_139 : MG := [lq_147, lq_1, lq_1, lq_2, lq_1, lq_1, lq_1, lq_1]
noncomputable def nq_226 : Nat := nat_lit 0x100000000000000000004000000000600000000080000000000
noncomputable def nq_227 : Nat := nat_lit 0x3200000000320000000063000000003a0000000033000000003a000000002c0000000035000000003f000000003a00000000330000000070
noncomputable def lq_148 : List Nat := [0, 0, 0, 0, 0, nq_0, nq_1, nq_226, nq_227, nq_213]
noncomputable def Sq_140 : MG := [lq_148, lq_1, lq_1, lq_2, lq_1, lq_1, lq_1, lq_1]
noncomputable def nq_228 : Nat := nat_lit 0x100000000000000000004000000000600000000090000000000
noncomputable def nq_229 : Nat := nat_lit 0x3200000000320000000063000000003a0000000031000000003a000000002c0000000035000000003f000000003a00000000330000000070
noncomputable def lq_149 : List Nat := [0, 0, 0, 0, 0, nq_0, nq_1, nq_228, nq_229, nq_213]
noncomputable def Sq_141 : MG := [lq_149, lq_1, lq_1, lq_2, lq_1, lq_1, lq_1, lq_1]
noncomputable def nq_230 : Nat := nat_lit 0x5b00000000000000000005000000000900000000090000000000
noncomputable def nq_231 : Nat := nat_lit 0x5000000005b0000000005000000001e
noncomputable def lq_150 : List Nat := [0, 0, 0, 0, 0, nq_0, nq_1, nq_230, nq_229, nq_231]
noncomputable def Sq_142 : MG := [lq_150, lq_1, lq_1, lq_2, lq_1, lq_1, lq_1, lq_1]
noncomputable def nq_232 : Nat := nat_lit 0x5b00000000000000000005000000000900000000010000000000
noncomputable def lq_151 : List Nat := [0, 0, 0, 0, 0, nq_0, nq_1, nq_232, nq_229, nq_231]
noncomputable def Sq_143 : MG := [lq_151, lq_1, lq_1, lq_2, lq_1, lq_1, lq_1, lq_1]
noncomputable def nq_233 : Nat := nat_lit 0x5b00000000000000000005000000000900000000020000000000
noncomputable def lq_152 : List Nat := [0, 0, 0, 0, 0, nq_0, nq_1, nq_233, nq_229, nq_231]
noncomputable def Sq_144 : MG := [lq_152, lq_1, lq_1, lq_2, lq_1, lq_1, lq_1, lq_1]
noncomputable def nq_234 : Nat := nat_lit 0x5b00000000000000000005000000000900000000030000000000
noncomputable def nq_235 : Nat := nat_lit 0x3200000000320000000063000000003a0000000031000000003a000000002c0000000035000000003f000000003a00000000310000000070
noncomputable def lq_153 : List Nat := [0, 0, 0, 0, 0, nq_0, nq_1, nq_234, nq_235, nq_231]
noncomputable def Sq_145 : MG := [lq_153, lq_1, lq_1, lq_2, lq_1, lq_1, lq_1, lq_1]
noncomputable def nq_236 : Nat := nat_lit 0x5b00000000000000000005000000000900000000040000000000
noncomputable def nq_237 : Nat := nat_lit 0x3200000000320000000063000000003a0000000031000000003a000000002c0000000035000000003f000000003f00000000310000000070
noncomputable def lq_154 : List Nat := [0, 0, 0, 0, 0, nq_0, nq_1, nq_236, nq_237, nq_231]
noncomputable def Sq_146 : MG := [lq_154, lq_1, lq_1, lq_2, lq_1, lq_1, lq_1, lq_1]
noncomputable def nq_238 : Nat := nat_lit 0x5b00000000000000000005000000000900000000050000000000
noncomputable def nq_239 : Nat := nat_lit 0x3200000000320000000063000000003a0000000031000000003a000000002c00000000350000000031000000003f00000000310000000070
noncomputable def lq_155 : List Nat := [0, 0, 0, 0, 0, nq_0, nq_1, nq_238, nq_239, nq_231]
noncomputable def Sq_147 : MG := [lq_155, lq_1, lq_1, lq_2, lq_1, lq_1, lq_1, lq_1]
noncomputable def nq_240 : Nat := nat_lit 0x5b00000000000000000005000000000900000000060000000000
noncomputable def nq_241 : Nat := nat_lit 0x3200000000320000000063000000003a0000000031000000003a000000002c000000002c0000000031000000003f00000000310000000070
noncomputable def lq_156 : List Nat := [0, 0, 0, 0, 0, nq_0, nq_1, nq_240, nq_241, nq_231]
noncomputable def Sq_148 : MG := [lq_156, lq_1, lq_1, lq_2, lq_1, lq_1, lq_1, lq_1]
noncomputable def nq_242 : Nat := nat_lit 0x5b00000000000000000005000000000900000000070000000000
noncomputable def nq_243 : Nat := nat_lit 0x3200000000320000000063000000003a0000000031000000003a000000003a000000002c0000000031000000003f00000000310000000070
noncomputable def lq_157 : List Nat := [0, 0, 0, 0, 0, nq_0, nq_1, nq_242, nq_243, nq_231]
noncomputable def Sq_149 : MG := [lq_157, lq_1, lq_1, lq_2, lq_1, lq_1, lq_1, lq_1]
noncomputable def nq_244 : Nat := nat_lit 0x5b00000000000000000005000000000900000000080000000000
noncomputable def nq_245 : Nat := nat_lit 0x3200000000320000000063000000003a00000000310000000032000000003a000000002c0000000031000000003f00000000310000000070
noncomputable def lq_158 : List Nat := [0, 0, 0, 0, 0, nq_0, nq_1, nq_244, nq_245, nq_231]
noncomputable def Sq_150 : MG := [lq_158, lq_1, lq_1, lq_2, lq_1, lq_1, lq_1, lq_1]
noncomputable def nq_246 : Nat := nat_lit 0xa00000000000000000005000000000700000000080000000000
noncomputable def nq_247 : Nat := nat_lit 0x5000000005b00000000010000000001
noncomputable def lq_159 : List Nat := [0, 0, 0, 0, 0, nq_0, nq_1, nq_246, nq_245, nq_247]
noncomputable def Sq_151 : MG := [lq_159, lq_1, lq_1, lq_2, lq_1, lq_1, lq_1, lq_1]
noncomputable def nq_248 : Nat := nat_lit 0xa00000000000000000005000000000700000000010000000000
noncomputable def lq_160 : List Nat := [0, 0, 0, 0, 0, nq_0, nq_1, nq_248, nq_245, nq_247]
noncomputable def Sq_152 : MG := [lq_160, lq_1, lq_1, lq_2, lq_1, lq_1, lq_1, lq_1]
noncomputable def nq_249 : Nat := nat_lit 0xa00000000000000000005000000000700000000020000000000
noncomputable def nq_250 : Nat := nat_lit 0x3200000000320000000063000000003a00000000310000000032000000003a000000002c0000000031000000003f00000000310000000079
noncomputable def lq_161 : List Nat := [0, 0, 0, 0, 0, nq_0, nq_1, nq_249, nq_250, nq_247]
noncomputable def Sq_153 : MG := [lq_161, lq_1, lq_1, lq_2, lq_1, lq_1, lq_1, lq_1]
noncomputable def nq_251 : Nat := nat_lit 0xa00000000000000000005000000000700000000030000000000
noncomputable def lq_162 : List Nat := [0, 0, 0, 0, 0, nq_0, nq_1, nq_251, nq_250, nq_247]
noncomputable def Sq_154 : MG := [lq_162, lq_1, lq_1, lq_2, lq_1, lq_1, lq_1, lq_1]
noncomputable def nq_252 : Nat := nat_lit 0xa00000000000000000005000000000700000000040000000000
noncomputable def nq_253 : Nat := nat_lit 0x3200000000320000000063000000003a00000000310000000032000000003a000000002c0000000031000000003c00000000310000000079
noncomputable def lq_163 : List Nat := [0, 0, 0, 0, 0, nq_0, nq_1, nq_252, nq_253, nq_247]
noncomputable def Sq_155 : MG := [lq_163, lq_1, lq_1, lq_2, lq_1, lq_1, lq_1, lq_1]
noncomputable def nq_254 : Nat := nat_lit 0xa00000000000000000005000000000700000000050000000000
noncomputable def nq_255 : Nat := nat_lit 0x3200000000320000000063000000003a00000000310000000032000000003a000000002c000000003c000000003c00000000310000000079
noncomputable def lq_164 : List Nat := [0, 0, 0, 0, 0, nq_0, nq_1, nq_254, nq_255, nq_247]
noncomputable def Sq_156 : MG := [lq_164, lq_1, lq_1, lq_2, lq_1, lq_1, lq_1, lq_1]
noncomputable def nq_256 : Nat := nat_lit 0x100000000000100000000000000000400000000050000000000
noncomputable def lq_165 : List Nat := [0, 0, 0, 0, 0, nq_0, nq_1, nq_256, nq_255, nq_247]
noncomputable def Sq_157 : MG := [lq_165, lq_1, lq_1, lq_2, lq_1, lq_1, lq_1, lq_1]
noncomputable def nq_257 : Nat := nat_lit 0x100000000000100000000000000000400000000010000000000
noncomputable def lq_166 : List Nat := [0, 0, 0, 0, 0, nq_0, nq_1, nq_257, nq_255, nq_247]
noncomputable def Sq_158 : MG := [lq_166, lq_1, lq_1, lq_2, lq_1, lq_1, lq_1, lq_1]
noncomputable def nq_258 : Nat := nat_lit 0x100000000000100000000000000000400000000020000000000
noncomputable def nq_259 : Nat := nat_lit 0x3200000000320000000063000000003a00000000310000000032000000003a000000002c000000003c000000003c0000000031000000006d
noncomputable def lq_167 : List Nat := [0, 0, 0, 0, 0, nq_0, nq_1, nq_258, nq_259, nq_247]
noncomputable def Sq_159 : MG := [lq_167, lq_1, lq_1, lq_2, lq_1, lq_1, lq_1, lq_1]
noncomputable def nq_260 : Nat := nat_lit 0x100000000000100000000000000000400000000030000000000
noncomputable def nq_261 : Nat := nat_lit 0x3200000000320000000063000000003a00000000310000000032000000003a000000002c000000003c000000003c0000000032000000006d
noncomputable def lq_168 : List Nat := [0, 0, 0, 0, 0, nq_0, nq_1, nq_260, nq_261, nq_247]
noncomputable def Sq_160 : MG := [lq_168, lq_1, lq_1, lq_2, lq_1, lq_1, lq_1, lq_1]
noncomputable def nq_262 : Nat := nat_lit 0x100000000000100000000000000000400000000040000000000
noncomputable def nq_263 : Nat := nat_lit 0x3200000000320000000063000000003a00000000310000000032000000003a000000002c000000003c000000003a0000000032000000006d
noncomputable def lq_169 : List Nat := [0, 0, 0, 0, 0, nq_0, nq_1, nq_262, nq_263, nq_247]
noncomputable def Sq_161 : MG := [lq_169, lq_1, lq_1, lq_2, lq_1, lq_1, lq_1, lq_1]
noncomputable def nq_264 : Nat := nat_lit 0x3200000000320000000063000000003a00000000310000000032000000003a000000002c000000002f000000003a0000000032000000006d
noncomputable def lq_170 : List Nat := [0, 0, 0, 0, 0, nq_0, nq_1, nq_256, nq_264, nq_247]
noncomputable def Sq_162 : MG := [lq_170, lq_1, lq_1, lq_2, lq_1, lq_1, lq_1, lq_1]
noncomputable def nq_265 : Nat := nat_lit 0x100000000000100000000000000000400000000060000000000
noncomputable def nq_266 : Nat := nat_lit 0x3200000000320000000063000000003a00000000310000000032000000003a0000000031000000002f000000003a0000000032000000006d
noncomputable def lq_171 : List Nat := [0, 0, 0, 0, 0, nq_0, nq_1, nq_265, nq_266, nq_247]
noncomputable def Sq_163 : MG := [lq_171, lq_1, lq_1, lq_2, lq_1, lq_1, lq_1, lq_1]
noncomputable def nq_267 : Nat := nat_lit 0x100000000000100000000000000000400000000070000000000
noncomputable def nq_268 : Nat := nat_lit 0x3200000000320000000063000000003a00000000310000000032000000003e0000000031000000002f000000003a0000000032000000006d
noncomputable def lq_172 : List Nat := [0, 0, 0, 0, 0, nq_0, nq_1, nq_267, nq_268, nq_247]
noncomputable def Sq_164 : MG := [lq_172, lq_1, lq_1, lq_2, lq_1, lq_1, lq_1, lq_1]
noncomputable def nq_269 : Nat := nat_lit 0x100000000000100000000000000000400000000080000000000
noncomputable def nq_270 : Nat := nat_lit 0x3200000000320000000063000000003a00000000310000000038000000003e0000000031000000002f000000003a0000000032000000006d
noncomputable def lq_173 : List Nat := [0, 0, 0, 0, 0, nq_0, nq_1, nq_269, nq_270, nq_247]
noncomputable def Sq_165 : MG := [lq_173, lq_1, lq_1, lq_2, lq_1, lq_1, lq_1, lq_1]
noncomputable def nq_271 : Nat := nat_lit 0x100000000000000000003000000000700000000080000000000
noncomputable def nq_272 : Nat := nat_lit 0x5000000005b00000000010000000014
noncomputable def lq_174 : List Nat := [0, 0, 0, 0, 0, nq_0, nq_1, nq_271, nq_270, nq_272]
noncomputable def Sq_166 : MG := [lq_174, lq_1, lq_1, lq_2, lq_1, lq_1, lq_1, lq_1]
noncomputable def nq_273 : Nat := nat_lit 0x100000000000000000003000000000700000000010000000000
noncomputable def lq_175 : List Nat := [0, 0, 0, 0, 0, nq_0, nq_1, nq_273, nq_270, nq_272]
noncomputable def Sq_167 : MG := [lq_175, lq_1, lq_1, lq_2, lq_1, lq_1, lq_1, lq_1]
noncomputable def nq_274 : Nat := nat_lit 0x100000000000000000003000000000700000000020000000000
noncomputable def nq_275 : Nat := nat_lit 0x3200000000320000000063000000003a00000000310000000038000000003e0000000031000000002f000000003a0000000032000000006b
noncomputable def lq_176 : List Nat := [0, 0, 0, 0, 0, nq_0, nq_1, nq_274, nq_275, nq_272]
noncomputable def Sq_168 : MG := [lq_176, lq_1, lq_1, lq_2, lq_1, lq_1, lq_1, lq_1]
noncomputable def nq_276 : Nat := nat_lit 0x100000000000000000003000000000700000000030000000000
noncomputable def lq_177 : List Nat := [0, 0, 0, 0, 0, nq_0, nq_1, nq_276, nq_275, nq_272]
noncomputable def Sq_169 : MG := [lq_177, lq_1, lq_1, lq_2, lq_1, lq_1, lq_1, lq_1]
noncomputable def nq_277 : Nat := nat_lit 0x100000000000000000003000000000700000000040000000000
noncomputable def nq_278 : Nat := nat_lit 0x3200000000320000000063000000003a00000000310000000038000000003e0000000031000000002f00000000310000000032000000006b
noncomputable def lq_178 : List Nat := [0, 0, 0, 0, 0, nq_0, nq_1, nq_277, nq_278, nq_272]
noncomputable def Sq_170 : MG := [lq_178, lq_1, lq_1, lq_2, lq_1, lq_1, lq_1, lq_1]
noncomputable def nq_279 : Nat := nat_lit 0x100000000000000000003000000000700000000050000000000
noncomputable def nq_280 : Nat := nat_lit 0x3200000000320000000063000000003a00000000310000000038000000003e0000000031000000006900000000310000000032000000006b
noncomputable def lq_179 : List Nat := [0, 0, 0, 0, 0, nq_0, nq_1, nq_279, nq_280, nq_272]
noncomputable def Sq_171 : MG := [lq_179, lq_1, lq_1, lq_2, lq_1, lq_1, lq_1, lq_1]
noncomputable def nq_281 : Nat := nat_lit 0x100000000000000000003000000000700000000060000000000
noncomputable def nq_282 : Nat := nat_lit 0x3200000000320000000063000000003a00000000310000000038000000003e0000000032000000006900000000310000000032000000006b
noncomputable def lq_180 : List Nat := [0, 0, 0, 0, 0, nq_0, nq_1, nq_281, nq_282, nq_272]
noncomputable def Sq_172 : MG := [lq_180, lq_1, lq_1, lq_2, lq_1, lq_1, lq_1, lq_1]
noncomputable def nq_283 : Nat := nat_lit 0x100000000000000000003000000000700000000070000000000
noncomputable def nq_284 : Nat := nat_lit 0x3200000000320000000063000000003a0000000031000000003800000000360000000032000000006900000000310000000032000000006b
noncomputable def lq_181 : List Nat := [0, 0, 0, 0, 0, nq_0, nq_1, nq_283, nq_284, nq_272]
noncomputable def Sq_173 : MG := [lq_181, lq_1, lq_1, lq_2, lq_1, lq_1, lq_1, lq_1]
noncomputable def nq_285 : Nat := nat_lit 0x3200000000320000000063000000003a0000000031000000003100000000360000000032000000006900000000310000000032000000006b
noncomputable def lq_182 : List Nat := [0, 0, 0, 0, 0, nq_0, nq_1, nq_271, nq_285, nq_272]
noncomputable def Sq_174 : MG := [lq_182, lq_1, lq_1, lq_2, lq_1, lq_1, lq_1, lq_1]
noncomputable def nq_286 : Nat := nat_lit 0x100000000000000000003000000000700000000090000000000
noncomputable def nq_287 : Nat := nat_lit 0x3200000000320000000063000000003a0000000073000000003100000000360000000032000000006900000000310000000032000000006b
noncomputable def lq_183 : List Nat := [0, 0, 0, 0, 0, nq_0, nq_1, nq_286, nq_287, nq_272]
noncomputable def Sq_175 : MG := [lq_183, lq_1, lq_1, lq_2, lq_1, lq_1, lq_1, lq_1]
noncomputable def nq_288 : Nat := nat_lit 0x1000000000000000000030000000007000000000a0000000000
noncomputable def nq_289 : Nat := nat_lit 0x320000000032000000006300000000320000000073000000003100000000360000000032000000006900000000310000000032000000006b
noncomputable def lq_184 : List Nat := [0, 0, 0, 0, 0, nq_0, nq_1, nq_288, nq_289, nq_272]
noncomputable def Sq_176 : MG := [lq_184, lq_1, lq_1, lq_2, lq_1, lq_1, lq_1, lq_1]
noncomputable def nq_290 : Nat := nat_lit 0x1000000000000000000030000000007000000000b0000000000
noncomputable def nq_291 : Nat := nat_lit 0x320000000032000000003100000000320000000073000000003100000000360000000032000000006900000000310000000032000000006b
noncomputable def lq_185 : List Nat := [0, 0, 0, 0, 0, nq_0, nq_1, nq_290, nq_291, nq_272]
noncomputable def Sq_177 : MG := [lq_185, lq_1, lq_1, lq_2, lq_1, lq_1, lq_1, lq_1]
noncomputable def nq_292 : Nat := nat_lit 0x1000000000000000000030000000007000000000c0000000000
noncomputable def nq_293 : Nat := nat_lit 0x32000000002e000000003100000000320000000073000000003100000000360000000032000000006900000000310000000032000000006b
noncomputable def lq_186 : List Nat := [0, 0, 0, 0, 0, nq_0, nq_1, nq_292, nq_293, nq_272]
noncomputable def Sq_178 : MG := [lq_186, lq_1, lq_1, lq_2, lq_1, lq_1, lq_1, lq_1]
noncomputable def nq_294 : Nat := nat_lit 0x1000000000000000000030000000007000000000d0000000000
noncomputable def nq_295 : Nat := nat_lit 0x34000000002e000000003100000000320000000073000000003100000000360000000032000000006900000000310000000032000000006b
noncomputable def lq_187 : List Nat := [0, 0, 0, 0, 0, nq_0, nq_1, nq_294, nq_295, nq_272]
noncomputable def Sq_179 : MG := [lq_187, lq_1, lq_1, lq_2, lq_1, lq_1, lq_1, lq_1]
noncomputable def nq_296 : Nat := nat_lit 0x1000000000000000000030000000007000000000e0000000000
noncomputable def nq_297 : Nat := nat_lit 0x310000000034000000002e000000003100000000320000000073000000003100000000360000000032000000006900000000310000000032000000006b
noncomputable def lq_188 : List Nat := [0, 0, 0, 0, 0, nq_0, nq_1, nq_296, nq_297, nq_272]
noncomputable def Sq_180 : MG := [lq_188, lq_1, lq_1, lq_2, lq_1, lq_1, lq_1, lq_1]
noncomputable def nq_298 : Nat := nat_lit 0x1000000000000000000030000000007000000000f0000000000
noncomputable def nq_299 : Nat := nat_lit 0x6300000000310000000034000000002e000000003100000000320000000073000000003100000000360000000032000000006900000000310000000032000000006b
noncomputable def lq_189 : List Nat := [0, 0, 0, 0, 0, nq_0, nq_1, nq_298, nq_299, nq_272]
noncomputable def Sq_181 : MG := [lq_189, lq_1, lq_1, lq_2, lq_1, lq_1, lq_1, lq_1]
noncomputable def nq_300 : Nat := nat_lit 0x100000000000000000003000000000700000000100000000000
noncomputable def nq_301 : Nat := nat_lit 0x32000000006300000000310000000034000000002e000000003100000000320000000073000000003100000000360000000032000000006900000000310000000032000000006b
noncomputable def lq_190 : List Nat := [0, 0, 0, 0, 0, nq_0, nq_1, nq_300, nq_301, nq_272]
noncomputable def Sq_182 : MG := [lq_190, lq_1, lq_1, lq_2, lq_1, lq_1, lq_1, lq_1]
noncomputable def nq_302 : Nat := nat_lit 0x100000000000000000003000000000700000000110000000000
noncomputable def nq_303 : Nat := nat_lit 0x340000000032000000006300000000310000000034000000002e000000003100000000320000000073000000003100000000360000000032000000006900000000310000000032000000006b
noncomputable def lq_191 : List Nat := [0, 0, 0, 0, 0, nq_0, nq_1, nq_302, nq_303, nq_272]
noncomputable def Sq_183 : MG := [lq_191, lq_1, lq_1, lq_2, lq_1, lq_1, lq_1, lq_1]
noncomputable def nq_304 : Nat := nat_lit 0x100000000000000000003000000000700000000120000000000
noncomputable def nq_305 : Nat := nat_lit 0x3c00000000340000000032000000006300000000310000000034000000002e000000003100000000320000000073000000003100000000360000000032000000006900000000310000000032000000006b
noncomputable def lq_192 : List Nat := [0, 0, 0, 0, 0, nq_0, nq_1, nq_304, nq_305, nq_272]
noncomputable def Sq_184 : MG := [lq_192, lq_1, lq_1, lq_2, lq_1, lq_1, lq_1, lq_1]
noncomputable def nq_306 : Nat := nat_lit 0x100000000000000000003000000000700000000130000000000
noncomputable def nq_307 : Nat := nat_lit 0x67000000003c00000000340000000032000000006300000000310000000034000000002e000000003100000000320000000073000000003100000000360000000032000000006900000000310000000032000000006b
noncomputable def lq_193 : List Nat := [0, 0, 0, 0, 0, nq_0, nq_1, nq_306, nq_307, nq_272]
noncomputable def Sq_185 : MG := [lq_193, lq_1, lq_1, lq_2, lq_1, lq_1, lq_1, lq_1]
noncomputable def nq_308 : Nat := nat_lit 0x100000000000000000003000000000700000000140000000000
noncomputable def nq_309 : Nat := nat_lit 0x320000000067000000003c00000000340000000032000000006300000000310000000034000000002e000000003100000000320000000073000000003100000000360000000032000000006900000000310000000032000000006b
noncomputable def lq_194 : List Nat := [0, 0, 0, 0, 0, nq_0, nq_1, nq_308, nq_309, nq_272]
noncomputable def Sq_186 : MG := [lq_194, lq_1, lq_1, lq_2, lq_1, lq_1, lq_1, lq_1]
noncomputable def nq_310 : Nat := nat_lit 0x100000000000000000003000000000700000000150000000000
noncomputable def nq_311 : Nat := nat_lit 0x3100000000320000000067000000003c00000000340000000032000000006300000000310000000034000000002e000000003100000000320000000073000000003100000000360000000032000000006900000000310000000032000000006b
noncomputable def lq_195 : List Nat := [0, 0, 0, 0, 0, nq_0, nq_1, nq_310, nq_311, nq_272]
noncomputable def Sq_187 : MG := [lq_195, lq_1, lq_1, lq_2, lq_1, lq_1, lq_1, lq_1]
noncomputable def nq_312 : Nat := nat_lit 0x100000000000000000003000000000700000000160000000000
noncomputable def nq_313 : Nat := nat_lit 0x2b000000003100000000320000000067000000003c00000000340000000032000000006300000000310000000034000000002e000000003100000000320000000073000000003100000000360000000032000000006900000000310000000032000000006b
noncomputable def lq_196 : List Nat := [0, 0, 0, 0, 0, nq_0, nq_1, nq_312, nq_313, nq_272]
noncomputable def Sq_188 : MG := [lq_196, lq_1, lq_1, lq_2, lq_1, lq_1, lq_1, lq_1]
noncomputable def nq_314 : Nat := nat_lit 0x100000000000000000003000000000700000000170000000000
noncomputable def nq_315 : Nat := nat_lit 0x33000000002b000000003100000000320000000067000000003c00000000340000000032000000006300000000310000000034000000002e000000003100000000320000000073000000003100000000360000000032000000006900000000310000000032000000006b
noncomputable def lq_197 : List Nat := [0, 0, 0, 0, 0, nq_0, nq_1, nq_314, nq_315, nq_272]
noncomputable def Sq_189 : MG := [lq_197, lq_1, lq_1, lq_2, lq_1, lq_1, lq_1, lq_1]
noncomputable def nq_316 : Nat := nat_lit 0x100000000000000000003000000000700000000180000000000
noncomputable def nq_317 : Nat := nat_lit 0x3c0000000033000000002b000000003100000000320000000067000000003c00000000340000000032000000006300000000310000000034000000002e000000003100000000320000000073000000003100000000360000000032000000006900000000310000000032000000006b
noncomputable def lq_198 : List Nat := [0, 0, 0, 0, 0, nq_0, nq_1, nq_316, nq_317, nq_272]
noncomputable def Sq_190 : MG := [lq_198, lq_1, lq_1, lq_2, lq_1, lq_1, lq_1, lq_1]
noncomputable def nq_318 : Nat := nat_lit 0x100000000000000000003000000000700000000190000000000
noncomputable def nq_319 : Nat := nat_lit 0x6d000000003c0000000033000000002b000000003100000000320000000067000000003c00000000340000000032000000006300000000310000000034000000002e000000003100000000320000000073000000003100000000360000000032000000006900000000310000000032000000006b
noncomputable def lq_199 : List Nat := [0, 0, 0, 0, 0, nq_0, nq_1, nq_318, nq_319, nq_272]
noncomputable def Sq_191 : MG := [lq_199, lq_1, lq_1, lq_2, lq_1, lq_1, lq_1, lq_1]
noncomputable def nq_320 : Nat := nat_lit 0x1000000000000000000030000000007000000001a0000000000
noncomputable def nq_321 : Nat := nat_lit 0x31000000006d000000003c0000000033000000002b000000003100000000320000000067000000003c00000000340000000032000000006300000000310000000034000000002e000000003100000000320000000073000000003100000000360000000032000000006900000000310000000032000000006b
noncomputable def lq_200 : List Nat := [0, 0, 0, 0, 0, nq_0, nq_1, nq_320, nq_321, nq_272]
noncomputable def Sq_192 : MG := [lq_200, lq_1, lq_1, lq_2, lq_1, lq_1, lq_1, lq_1]
noncomputable def nq_322 : Nat := nat_lit 0x1000000000000000000030000000007000000001b0000000000
noncomputable def nq_323 : Nat := nat_lit 0x2f0000000031000000006d000000003c0000000033000000002b000000003100000000320000000067000000003c00000000340000000032000000006300000000310000000034000000002e000000003100000000320000000073000000003100000000360000000032000000006900000000310000000032000000006b
noncomputable def lq_201 : List Nat := [0, 0, 0, 0, 0, nq_0, nq_1, nq_322, nq_323, nq_272]
noncomputable def Sq_193 : MG := [lq_201, lq_1, lq_1, lq_2, lq_1, lq_1, lq_1, lq_1]
noncomputable def nq_324 : Nat := nat_lit 0x1000000000000000000030000000007000000001c0000000000
noncomputable def nq_325 : Nat := nat_lit 0x31000000002f0000000031000000006d000000003c0000000033000000002b000000003100000000320000000067000000003c00000000340000000032000000006300000000310000000034000000002e000000003100000000320000000073000000003100000000360000000032000000006900000000310000000032000000006b
noncomputable def lq_202 : List Nat := [0, 0, 0, 0, 0, nq_0, nq_1, nq_324, nq_325, nq_272]
noncomputable def Sq_194 : MG := [lq_202, lq_1, lq_1, lq_2, lq_1, lq_1, lq_1, lq_1]
noncomputable def nq_326 : Nat := nat_lit 0x1000000000000000000030000000007000000001d0000000000
noncomputable def nq_327 : Nat := nat_lit 0x3e0000000031000000002f0000000031000000006d000000003c0000000033000000002b000000003100000000320000000067000000003c00000000340000000032000000006300000000310000000034000000002e000000003100000000320000000073000000003100000000360000000032000000006900000000310000000032000000006b
noncomputable def lq_203 : List Nat := [0, 0, 0, 0, 0, nq_0, nq_1, nq_326, nq_327, nq_272]
noncomputable def Sq_195 : MG := [lq_203, lq_1, lq_1, lq_2, lq_1, lq_1, lq_1, lq_1]
noncomputable def nq_328 : Nat := nat_lit 0x1000000000000000000030000000007000000001e0000000000
noncomputable def nq_329 : Nat := nat_lit 0x33000000003e0000000031000000002f0000000031000000006d000000003c0000000033000000002b000000003100000000320000000067000000003c00000000340000000032000000006300000000310000000034000000002e000000003100000000320000000073000000003100000000360000000032000000006900000000310000000032000000006b
noncomputable def lq_204 : List Nat := [0, 0, 0, 0, 0, nq_0, nq_1, nq_328, nq_329, nq_272]
noncomputable def Sq_196 : MG := [lq_204, lq_1, lq_1, lq_2, lq_1, lq_1, lq_1, lq_1]
noncomputable def nq_330 : Nat := nat_lit 0x1000000000000000000030000000007000000001f0000000000
noncomputable def nq_331 : Nat := nat_lit 0x730000000033000000003e0000000031000000002f0000000031000000006d000000003c0000000033000000002b000000003100000000320000000067000000003c00000000340000000032000000006300000000310000000034000000002e000000003100000000320000000073000000003100000000360000000032000000006900000000310000000032000000006b
noncomputable def lq_205 : List Nat := [0, 0, 0, 0, 0, nq_0, nq_1, nq_330, nq_331, nq_272]
noncomputable def Sq_197 : MG := [lq_205, lq_1, lq_1, lq_2, lq_1, lq_1, lq_1, lq_1]
noncomputable def nq_332 : Nat := nat_lit 0x100000000000000000003000000000700000000200000000000
noncomputable def nq_333 : Nat := nat_lit 0x3200000000730000000033000000003e0000000031000000002f0000000031000000006d000000003c0000000033000000002b000000003100000000320000000067000000003c00000000340000000032000000006300000000310000000034000000002e000000003100000000320000000073000000003100000000360000000032000000006900000000310000000032000000006b
noncomputable def lq_206 : List Nat := [0, 0, 0, 0, 0, nq_0, nq_1, nq_332, nq_333, nq_272]
noncomputable def Sq_198 : MG := [lq_206, lq_1, lq_1, lq_2, lq_1, lq_1, lq_1, lq_1]
noncomputable def nq_334 : Nat := nat_lit 0x100000000000000000003000000000700000000210000000000
noncomputable def nq_335 : Nat := nat_lit 0x33000000003200000000730000000033000000003e0000000031000000002f0000000031000000006d000000003c0000000033000000002b000000003100000000320000000067000000003c00000000340000000032000000006300000000310000000034000000002e000000003100000000320000000073000000003100000000360000000032000000006900000000310000000032000000006b
noncomputable def lq_207 : List Nat := [0, 0, 0, 0, 0, nq_0, nq_1, nq_334, nq_335, nq_272]
noncomputable def Sq_199 : MG := [lq_207, lq_1, lq_1, lq_2, lq_1, lq_1, lq_1, lq_1]
noncomputable def nq_336 : Nat := nat_lit 0x100000000000000000003000000000700000000220000000000
noncomputable def nq_337 : Nat := nat_lit 0x2e0000000033000000003200000000730000000033000000003e0000000031000000002f0000000031000000006d000000003c0000000033000000002b000000003100000000320000000067000000003c00000000340000000032000000006300000000310000000034000000002e000000003100000000320000000073000000003100000000360000000032000000006900000000310000000032000000006b
noncomputable def lq_208 : List Nat := [0, 0, 0, 0, 0, nq_0, nq_1, nq_336, nq_337, nq_272]
noncomputable def Sq_200 : MG := [lq_208, lq_1, lq_1, lq_2, lq_1, lq_1, lq_1, lq_1]
noncomputable def nq_338 : Nat := nat_lit 0x100000000000000000003000000000700000000230000000000
noncomputable def nq_339 : Nat := nat_lit 0x33000000002e0000000033000000003200000000730000000033000000003e0000000031000000002f0000000031000000006d000000003c0000000033000000002b000000003100000000320000000067000000003c00000000340000000032000000006300000000310000000034000000002e000000003100000000320000000073000000003100000000360000000032000000006900000000310000000032000000006b
noncomputable def lq_209 : List Nat := [0, 0, 0, 0, 0, nq_0, nq_1, nq_338, nq_339, nq_272]
noncomputable def Sq_201 : MG := [lq_209, lq_1, lq_1, lq_2, lq_1, lq_1, lq_1, lq_1]
noncomputable def nq_340 : Nat := nat_lit 0x100000000000000000003000000000700000000240000000000
noncomputable def nq_341 : Nat := nat_lit 0x310000000033000000002e0000000033000000003200000000730000000033000000003e0000000031000000002f0000000031000000006d000000003c0000000033000000002b000000003100000000320000000067000000003c00000000340000000032000000006300000000310000000034000000002e000000003100000000320000000073000000003100000000360000000032000000006900000000310000000032000000006b
noncomputable def lq_210 : List Nat := [0, 0, 0, 0, 0, nq_0, nq_1, nq_340, nq_341, nq_272]
noncomputable def Sq_202 : MG := [lq_210, lq_1, lq_1, lq_2, lq_1, lq_1, lq_1, lq_1]
noncomputable def nq_342 : Nat := nat_lit 0x100000000000000000003000000000700000000250000000000
noncomputable def nq_343 : Nat := nat_lit 0x3c00000000310000000033000000002e0000000033000000003200000000730000000033000000003e0000000031000000002f0000000031000000006d000000003c0000000033000000002b000000003100000000320000000067000000003c00000000340000000032000000006300000000310000000034000000002e000000003100000000320000000073000000003100000000360000000032000000006900000000310000000032000000006b
noncomputable def lq_211 : List Nat := [0, 0, 0, 0, 0, nq_0, nq_1, nq_342, nq_343, nq_272]
noncomputable def Sq_203 : MG := [lq_211, lq_1, lq_1, lq_2, lq_1, lq_1, lq_1, lq_1]
noncomputable def nq_344 : Nat := nat_lit 0x100000000000000000003000000000700000000260000000000
noncomputable def nq_345 : Nat := nat_lit 0x75000000003c00000000310000000033000000002e0000000033000000003200000000730000000033000000003e0000000031000000002f0000000031000000006d000000003c0000000033000000002b000000003100000000320000000067000000003c00000000340000000032000000006300000000310000000034000000002e000000003100000000320000000073000000003100000000360000000032000000006900000000310000000032000000006b
noncomputable def lq_212 : List Nat := [0, 0, 0, 0, 0, nq_0, nq_1, nq_344, nq_345, nq_272]
noncomputable def Sq_204 : MG := [lq_212, lq_1, lq_1, lq_2, lq_1, lq_1, lq_1, lq_1]
noncomputable def nq_346 : Nat := nat_lit 0x100000000000000000003000000000700000000270000000000
noncomputable def nq_347 : Nat := nat_lit 0x320000000075000000003c00000000310000000033000000002e0000000033000000003200000000730000000033000000003e0000000031000000002f0000000031000000006d000000003c0000000033000000002b000000003100000000320000000067000000003c00000000340000000032000000006300000000310000000034000000002e000000003100000000320000000073000000003100000000360000000032000000006900000000310000000032000000006b
noncomputable def lq_213 : List Nat := [0, 0, 0, 0, 0, nq_0, nq_1, nq_346, nq_347, nq_272]
noncomputable def Sq_205 : MG := [lq_213, lq_1, lq_1, lq_2, lq_1, lq_1, lq_1, lq_1]
noncomputable def nq_348 : Nat := nat_lit 0x100000000000000000003000000000700000000280000000000
noncomputable def nq_349 : Nat := nat_lit 0x3100000000320000000075000000003c00000000310000000033000000002e0000000033000000003200000000730000000033000000003e0000000031000000002f0000000031000000006d000000003c0000000033000000002b000000003100000000320000000067000000003c00000000340000000032000000006300000000310000000034000000002e000000003100000000320000000073000000003100000000360000000032000000006900000000310000000032000000006b
noncomputable def lq_214 : List Nat := [0, 0, 0, 0, 0, nq_0, nq_1, nq_348, nq_349, nq_272]
noncomputable def Sq_206 : MG := [lq_214, lq_1, lq_1, lq_2, lq_1, lq_1, lq_1, lq_1]
noncomputable def nq_350 : Nat := nat_lit 0xb00000000000000000007000000002800000000280000000000
noncomputable def nq_351 : Nat := nat_lit 0x15000000000d00000000030000000001000000000b
noncomputable def lq_215 : List Nat := [0, 0, 0, 0, 0, nq_0, nq_1, nq_350, nq_349, nq_351]
noncomputable def Sq_207 : MG := [lq_215, lq_1, lq_1, lq_2, lq_1, lq_1, lq_1, lq_1]
noncomputable def nq_352 : Nat := nat_lit 0xb00000000000000000007000000002900000000280000000000
noncomputable def lq_216 : List Nat := [0, 0, 0, 0, 0, nq_0, nq_1, nq_352, nq_349, nq_351]
noncomputable def nq_353 : Nat := nat_lit 0x300000000010000000003000000000100000000330000000000000000000000000000000000000000000000000b
noncomputable def nq_354 : Nat := nat_lit 0x1000000000100000000010000000003
noncomputable def nq_355 : Nat := nat_lit 0x100000000010000000001000000000d
noncomputable def nq_356 : Nat := nat_lit 0x1000000000100000000010000000015
noncomputable def nq_357 : Nat := nat_lit 0x10000000001000000000100000000010000000001000000000100000000010000000001000000000100000000010000000001000000000100000000010000000001000000000100000000010000000001000000000100000000010000000001000000000100000000010000000001000000000100000000010000000001000000000100000000010000000001000000000000000001
noncomputable def lq_217 : List Nat := [1000001, 4294967296, 1, 0, 0, 0, 1081, 11, 31, 2, nq_353, 2, 11, nq_354, nq_355, nq_356, 3, 1, 2, 2, 1, 151, 4294963697, 4294967296, nq_357, nq_3]
noncomputable def Sq_208 : MG := [lq_216, lq_1, lq_217, lq_2, lq_1, lq_1, lq_1, lq_1]
noncomputable def lq_218 : List Nat := [0, 0, 0, 0, 0, nq_4, nq_1, nq_352, nq_349, nq_351]
noncomputable def Sq_209 : MG := [lq_218, lq_217, lq_217, lq_2, lq_1, lq_1, lq_1, lq_1]
noncomputable def lq_219 : List Nat := [0, 0, 0, 0, 0, nq_4, nq_1, nq_350, nq_349, nq_351]
noncomputable def Sq_210 : MG := [lq_219, lq_217, lq_217, lq_2, lq_1, lq_1, lq_1, lq_1]
noncomputable def nq_358 : Nat := nat_lit 0x300000000000000000002000000001700000000280000000000
noncomputable def nq_359 : Nat := nat_lit 0xe000000001f000000000b0000000003000000000b
noncomputable def lq_220 : List Nat := [0, 0, 0, 0, 0, nq_4, nq_1, nq_358, nq_349, nq_359]
noncomputable def nq_360 : Nat := nat_lit 0xfffff1fb00fffff1f1
noncomputable def lq_221 : List Nat := [1099512727288627777, nq_6, 1, 0, 0, 0, 1199567185904697, 12094627905547, 34084860461087, 3, nq_353, 2, 11, nq_354, nq_355, nq_356, 3, 1, 1099511627778, 1099511627778, 1099511627777, 166026255794327, nq_360, nq_6, nq_357, nq_3]
noncomputable def Sq_211 : MG := [lq_220, lq_217, lq_221, lq_2, lq_1, lq_1, lq_1, lq_1]
noncomputable def nq_361 : Nat := nat_lit 0x300000000000000000002000000001700000000010000000000
noncomputable def lq_222 : List Nat := [0, 0, 0, 0, 0, nq_4, nq_1, nq_361, nq_349, nq_359]
noncomputable def Sq_212 : MG := [lq_222, lq_217, lq_221, lq_2, lq_1, lq_1, lq_1, lq_1]
noncomputable def nq_362 : Nat := nat_lit 0x300000000000000000002000000001700000000020000000000
noncomputable def nq_363 : Nat := nat_lit 0x3100000000320000000075000000003c00000000310000000033000000002e0000000033000000003200000000730000000033000000003e0000000031000000002f0000000031000000006d000000003c0000000033000000002b000000003100000000320000000067000000003c00000000340000000032000000006300000000310000000034000000002e0000000031000000003200000000730000000031000000003600000000320000000069000000003100000000320000000079
noncomputable def lq_223 : List Nat := [0, 0, 0, 0, 0, nq_4, nq_1, nq_362, nq_363, nq_359]
noncomputable def Sq_213 : MG := [lq_223, lq_217, lq_221, lq_2, lq_1, lq_1, lq_1, lq_1]
noncomputable def nq_364 : Nat := nat_lit 0x300000000000000000002000000001700000000030000000000
noncomputable def nq_365 : Nat := nat_lit 0x3100000000320000000075000000003c00000000310000000033000000002e0000000033000000003200000000730000000033000000003e0000000031000000002f0000000031000000006d000000003c0000000033000000002b000000003100000000320000000067000000003c00000000340000000032000000006300000000310000000034000000002e0000000031000000003200000000730000000031000000003600000000320000000069000000003100000000310000000079
noncomputable def lq_224 : List Nat := [0, 0, 0, 0, 0, nq_4, nq_1, nq_364, nq_365, nq_359]
noncomputable def Sq_214 : MG := [lq_224, lq_217, lq_221, lq_2, lq_1, lq_1, lq_1, lq_1]
noncomputable def nq_366 : Nat := nat_lit 0x300000000000000000002000000001700000000040000000000
noncomputable def nq_367 : Nat := nat_lit 0x3100000000320000000075000000003c00000000310000000033000000002e0000000033000000003200000000730000000033000000003e0000000031000000002f0000000031000000006d000000003c0000000033000000002b000000003100000000320000000067000000003c00000000340000000032000000006300000000310000000034000000002e0000000031000000003200000000730000000031000000003600000000320000000069000000003c00000000310000000079
noncomputable def lq_225 : List Nat := [0, 0, 0, 0, 0, nq_4, nq_1, nq_366, nq_367, nq_359]
noncomputable def Sq_215 : MG := [lq_225, lq_217, lq_221, lq_2, lq_1, lq_1, lq_1, lq_1]
noncomputable def nq_368 : Nat := nat_lit 0x300000000000000000002000000001700000000050000000000
noncomputable def nq_369 : Nat := nat_lit 0x3100000000320000000075000000003c00000000310000000033000000002e0000000033000000003200000000730000000033000000003e0000000031000000002f0000000031000000006d000000003c0000000033000000002b000000003100000000320000000067000000003c00000000340000000032000000006300000000310000000034000000002e000000003100000000320000000073000000003100000000360000000032000000006f000000003c00000000310000000079
noncomputable def lq_226 : List Nat := [0, 0, 0, 0, 0, nq_4, nq_1, nq_368, nq_369, nq_359]
noncomputable def Sq_216 : MG := [lq_226, lq_217, lq_221, lq_2, lq_1, lq_1, lq_1, lq_1]
noncomputable def nq_370 : Nat := nat_lit 0x300000000000000000002000000001700000000060000000000
noncomputable def nq_371 : Nat := nat_lit 0x3100000000320000000075000000003c00000000310000000033000000002e0000000033000000003200000000730000000033000000003e0000000031000000002f0000000031000000006d000000003c0000000033000000002b000000003100000000320000000067000000003c00000000340000000032000000006300000000310000000034000000002e000000003100000000320000000073000000003100000000360000000031000000006f000000003c00000000310000000079
noncomputable def lq_227 : List Nat := [0, 0, 0, 0, 0, nq_4, nq_1, nq_370, nq_371, nq_359]
noncomputable def Sq_217 : MG := [lq_227, lq_217, lq_221, lq_2, lq_1, lq_1, lq_1, lq_1]
noncomputable def nq_372 : Nat := nat_lit 0x300000000000000000002000000001700000000070000000000
noncomputable def nq_373 : Nat := nat_lit 0x3100000000320000000075000000003c00000000310000000033000000002e0000000033000000003200000000730000000033000000003e0000000031000000002f0000000031000000006d000000003c0000000033000000002b000000003100000000320000000067000000003c00000000340000000032000000006300000000310000000034000000002e0000000031000000003200000000730000000031000000003b0000000031000000006f000000003c00000000310000000079
noncomputable def lq_228 : List Nat := [0, 0, 0, 0, 0, nq_4, nq_1, nq_372, nq_373, nq_359]
noncomputable def Sq_218 : MG := [lq_228, lq_217, lq_221, lq_2, lq_1, lq_1, lq_1, lq_1]
noncomputable def nq_374 : Nat := nat_lit 0x300000000000000000002000000001700000000080000000000
noncomputable def nq_375 : Nat := nat_lit 0x3100000000320000000075000000003c00000000310000000033000000002e0000000033000000003200000000730000000033000000003e0000000031000000002f0000000031000000006d000000003c0000000033000000002b000000003100000000320000000067000000003c00000000340000000032000000006300000000310000000034000000002e000000003100000000320000000073000000003a000000003b0000000031000000006f000000003c00000000310000000079
noncomputable def lq_229 : List Nat := [0, 0, 0, 0, 0, nq_4, nq_1, nq_374, nq_375, nq_359]
noncomputable def Sq_219 : MG := [lq_229, lq_217, lq_221, lq_2, lq_1, lq_1, lq_1, lq_1]
noncomputable def nq_376 : Nat := nat_lit 0x300000000000000000002000000001700000000090000000000
noncomputable def nq_377 : Nat := nat_lit 0x3100000000320000000075000000003c00000000310000000033000000002e0000000033000000003200000000730000000033000000003e0000000031000000002f0000000031000000006d000000003c0000000033000000002b000000003100000000320000000067000000003c00000000340000000032000000006300000000310000000034000000002e00000000310000000032000000003a000000003a000000003b0000000031000000006f000000003c00000000310000000079
noncomputable def lq_230 : List Nat := [0, 0, 0, 0, 0, nq_4, nq_1, nq_376, nq_377, nq_359]
noncomputable def Sq_220 : MG := [lq_230, lq_217, lq_221, lq_2, lq_1, lq_1, lq_1, lq_1]
noncomputable def nq_378 : Nat := nat_lit 0x3000000000000000000020000000017000000000a0000000000
noncomputable def nq_379 : Nat := nat_lit 0x3100000000320000000075000000003c00000000310000000033000000002e0000000033000000003200000000730000000033000000003e0000000031000000002f0000000031000000006d000000003c0000000033000000002b000000003100000000320000000067000000003c00000000340000000032000000006300000000310000000034000000002e0000000031000000002e000000003a000000003a000000003b0000000031000000006f000000003c00000000310000000079
noncomputable def lq_231 : List Nat := [0, 0, 0, 0, 0, nq_4, nq_1, nq_378, nq_379, nq_359]
noncomputable def Sq_221 : MG := [lq_231, lq_217, lq_221, lq_2, lq_1, lq_1, lq_1, lq_1]
noncomputable def nq_380 : Nat := nat_lit 0x3000000000000000000020000000017000000000b0000000000
noncomputable def nq_381 : Nat := nat_lit 0x3100000000320000000075000000003c00000000310000000033000000002e0000000033000000003200000000730000000033000000003e0000000031000000002f0000000031000000006d000000003c0000000033000000002b000000003100000000320000000067000000003c00000000340000000032000000006300000000310000000034000000002e000000003a000000002e000000003a000000003a000000003b0000000031000000006f000000003c00000000310000000079
noncomputable def lq_232 : List Nat := [0, 0, 0, 0, 0, nq_4, nq_1, nq_380, nq_381, nq_359]
noncomputable def Sq_222 : MG := [lq_232, lq_217, lq_221, lq_2, lq_1, lq_1, lq_1, lq_1]
noncomputable def nq_382 : Nat := nat_lit 0x3000000000000000000020000000017000000000c0000000000
noncomputable def nq_383 : Nat := nat_lit 0x3100000000320000000075000000003c00000000310000000033000000002e0000000033000000003200000000730000000033000000003e0000000031000000002f0000000031000000006d000000003c0000000033000000002b000000003100000000320000000067000000003c00000000340000000032000000006300000000310000000034000000003a000000003a000000002e000000003a000000003a000000003b0000000031000000006f000000003c00000000310000000079
noncomputable def lq_233 : List Nat := [0, 0, 0, 0, 0, nq_4, nq_1, nq_382, nq_383, nq_359]
noncomputable def Sq_223 : MG := [lq_233, lq_217, lq_221, lq_2, lq_1, lq_1, lq_1, lq_1]
noncomputable def nq_384 : Nat := nat_lit 0x6400000000000000000004000000000c000000000c0000000000
noncomputable def nq_385 : Nat := nat_lit 0xe000000001f000000006400000000640000000001
noncomputable def lq_234 : List Nat := [0, 0, 0, 0, 0, nq_4, nq_1, nq_384, nq_383, nq_385]
noncomputable def lq_235 : List Nat := [1099512727287627786, nq_6, 1, 0, 0, 0, 1199567185904697, 12094627905547, 34084860461087, 2, nq_353, 2, 11, nq_354, nq_355, nq_356, 3, 1, 1099511627778, 1099511627778, 1099511627777, 166026255794327, nq_360, nq_6, nq_357, nq_3]
noncomputable def Sq_224 : MG := [lq_234, lq_217, lq_235, lq_2, lq_1, lq_1, lq_1, lq_1]
noncomputable def nq_386 : Nat := nat_lit 0x6400000000000000000004000000000c00000000010000000000
noncomputable def lq_236 : List Nat := [0, 0, 0, 0, 0, nq_4, nq_1, nq_386, nq_383, nq_385]
noncomputable def Sq_225 : MG := [lq_236, lq_217, lq_235, lq_2, lq_1, lq_1, lq_1, lq_1]
noncomputable def nq_387 : Nat := nat_lit 0x6400000000000000000004000000000c00000000020000000000
noncomputable def nq_388 : Nat := nat_lit 0x3100000000320000000075000000003c00000000310000000033000000002e0000000033000000003200000000730000000033000000003e0000000031000000002f0000000031000000006d000000003c0000000033000000002b000000003100000000320000000067000000003c00000000340000000032000000006300000000310000000034000000003a000000003a000000002e000000003a000000003a000000003b0000000031000000006f000000003c0000000031000000006b
noncomputable def lq_237 : List Nat := [0, 0, 0, 0, 0, nq_4, nq_1, nq_387, nq_388, nq_385]
noncomputable def Sq_226 : MG := [lq_237, lq_217, lq_235, lq_2, lq_1, lq_1, lq_1, lq_1]
noncomputable def nq_389 : Nat := nat_lit 0x6400000000000000000004000000000c00000000030000000000
noncomputable def nq_390 : Nat := nat_lit 0x3100000000320000000075000000003c00000000310000000033000000002e0000000033000000003200000000730000000033000000003e0000000031000000002f0000000031000000006d000000003c0000000033000000002b000000003100000000320000000067000000003c00000000340000000032000000006300000000310000000034000000003a000000003a000000002e000000003a000000003a000000003b0000000031000000006f000000003c0000000033000000006b
noncomputable def lq_238 : List Nat := [0, 0, 0, 0, 0, nq_4, nq_1, nq_389, nq_390, nq_385]
noncomputable def Sq_227 : MG := [lq_238, lq_217, lq_235, lq_2, lq_1, lq_1, lq_1, lq_1]
noncomputable def nq_391 : Nat := nat_lit 0x6400000000000000000004000000000c00000000040000000000
noncomputable def nq_392 : Nat := nat_lit 0x3100000000320000000075000000003c00000000310000000033000000002e0000000033000000003200000000730000000033000000003e0000000031000000002f0000000031000000006d000000003c0000000033000000002b000000003100000000320000000067000000003c00000000340000000032000000006300000000310000000034000000003a000000003a000000002e000000003a000000003a000000003b0000000031000000006f00000000310000000033000000006b
noncomputable def lq_239 : List Nat := [0, 0, 0, 0, 0, nq_4, nq_1, nq_391, nq_392, nq_385]
noncomputable def Sq_228 : MG := [lq_239, lq_217, lq_235, lq_2, lq_1, lq_1, lq_1, lq_1]
noncomputable def nq_393 : Nat := nat_lit 0x6400000000000000000004000000000c00000000050000000000
noncomputable def nq_394 : Nat := nat_lit 0x3100000000320000000075000000003c00000000310000000033000000002e0000000033000000003200000000730000000033000000003e0000000031000000002f0000000031000000006d000000003c0000000033000000002b000000003100000000320000000067000000003c00000000340000000032000000006300000000310000000034000000003a000000003a000000002e000000003a000000003a000000003b0000000031000000006900000000310000000033000000006b
noncomputable def lq_240 : List Nat := [0, 0, 0, 0, 0, nq_4, nq_1, nq_393, nq_394, nq_385]
noncomputable def Sq_229 : MG := [lq_240, lq_217, lq_235, lq_2, lq_1, lq_1, lq_1, lq_1]
noncomputable def nq_395 : Nat := nat_lit 0x6400000000000000000004000000000c00000000060000000000
noncomputable def nq_396 : Nat := nat_lit 0x3100000000320000000075000000003c00000000310000000033000000002e0000000033000000003200000000730000000033000000003e0000000031000000002f0000000031000000006d000000003c0000000033000000002b000000003100000000320000000067000000003c00000000340000000032000000006300000000310000000034000000003a000000003a000000002e000000003a000000003a000000003b0000000032000000006900000000310000000033000000006b
noncomputable def lq_241 : List Nat := [0, 0, 0, 0, 0, nq_4, nq_1, nq_395, nq_396, nq_385]
noncomputable def Sq_230 : MG := [lq_241, lq_217, lq_235, lq_2, lq_1, lq_1, lq_1, lq_1]
noncomputable def nq_397 : Nat := nat_lit 0x6400000000000000000004000000000c00000000070000000000
noncomputable def nq_398 : Nat := nat_lit 0x3100000000320000000075000000003c00000000310000000033000000002e0000000033000000003200000000730000000033000000003e0000000031000000002f0000000031000000006d000000003c0000000033000000002b000000003100000000320000000067000000003c00000000340000000032000000006300000000310000000034000000003a000000003a000000002e000000003a000000003a00000000360000000032000000006900000000310000000033000000006b
noncomputable def lq_242 : List Nat := [0, 0, 0, 0, 0, nq_4, nq_1, nq_397, nq_398, nq_385]
noncomputable def Sq_231 : MG := [lq_242, lq_217, lq_235, lq_2, lq_1, lq_1, lq_1, lq_1]
noncomputable def nq_399 : Nat := nat_lit 0x6400000000000000000004000000000c00000000080000000000
noncomputable def nq_400 : Nat := nat_lit 0x3100000000320000000075000000003c00000000310000000033000000002e0000000033000000003200000000730000000033000000003e0000000031000000002f0000000031000000006d000000003c0000000033000000002b000000003100000000320000000067000000003c00000000340000000032000000006300000000310000000034000000003a000000003a000000002e000000003a000000003100000000360000000032000000006900000000310000000033000000006b
noncomputable def lq_243 : List Nat := [0, 0, 0, 0, 0, nq_4, nq_1, nq_399, nq_400, nq_385]
noncomputable def Sq_232 : MG := [lq_243, lq_217, lq_235, lq_2, lq_1, lq_1, lq_1, lq_1]
noncomputable def nq_401 : Nat := nat_lit 0x6400000000000000000004000000000c00000000090000000000
noncomputable def nq_402 : Nat := nat_lit 0x3100000000320000000075000000003c00000000310000000033000000002e0000000033000000003200000000730000000033000000003e0000000031000000002f0000000031000000006d000000003c0000000033000000002b000000003100000000320000000067000000003c00000000340000000032000000006300000000310000000034000000003a000000003a000000002e0000000073000000003100000000360000000032000000006900000000310000000033000000006b
noncomputable def lq_244 : List Nat := [0, 0, 0, 0, 0, nq_4, nq_1, nq_401, nq_402, nq_385]
noncomputable def Sq_233 : MG := [lq_244, lq_217, lq_235, lq_2, lq_1, lq_1, lq_1, lq_1]
noncomputable def nq_403 : Nat := nat_lit 0x6400000000000000000004000000000c000000000a0000000000
noncomputable def nq_404 : Nat := nat_lit 0x3100000000320000000075000000003c00000000310000000033000000002e0000000033000000003200000000730000000033000000003e0000000031000000002f0000000031000000006d000000003c0000000033000000002b000000003100000000320000000067000000003c00000000340000000032000000006300000000310000000034000000003a000000003a000000003a0000000073000000003100000000360000000032000000006900000000310000000033000000006b
noncomputable def lq_245 : List Nat := [0, 0, 0, 0, 0, nq_4, nq_1, nq_403, nq_404, nq_385]
noncomputable def Sq_234 : MG := [lq_245, lq_217, lq_235, lq_2, lq_1, lq_1, lq_1, lq_1]
noncomputable def nq_405 : Nat := nat_lit 0x6400000000000000000004000000000c000000000b0000000000
noncomputable def nq_406 : Nat := nat_lit 0x3100000000320000000075000000003c00000000310000000033000000002e0000000033000000003200000000730000000033000000003e0000000031000000002f0000000031000000006d000000003c0000000033000000002b000000003100000000320000000067000000003c00000000340000000032000000006300000000310000000034000000003a000000002e000000003a0000000073000000003100000000360000000032000000006900000000310000000033000000006b
noncomputable def lq_246 : List Nat := [0, 0, 0, 0, 0, nq_4, nq_1, nq_405, nq_406, nq_385]
noncomputable def Sq_235 : MG := [lq_246, lq_217, lq_235, lq_2, lq_1, lq_1, lq_1, lq_1]
noncomputable def nq_407 : Nat := nat_lit 0x3100000000320000000075000000003c00000000310000000033000000002e0000000033000000003200000000730000000033000000003e0000000031000000002f0000000031000000006d000000003c0000000033000000002b000000003100000000320000000067000000003c000000003400000000320000000063000000003100000000340000000039000000002e000000003a0000000073000000003100000000360000000032000000006900000000310000000033000000006b
noncomputable def lq_247 : List Nat := [0, 0, 0, 0, 0, nq_4, nq_1, nq_384, nq_407, nq_385]
noncomputable def Sq_236 : MG := [lq_247, lq_217, lq_235, lq_2, lq_1, lq_1, lq_1, lq_1]
noncomputable def nq_408 : Nat := nat_lit 0x100000000000000000001000000000c000000000c0000000000
noncomputable def nq_409 : Nat := nat_lit 0x10000000009000000000a00000000970000000015
noncomputable def lq_248 : List Nat := [0, 0, 0, 0, 0, nq_4, nq_1, nq_408, nq_407, nq_409]
noncomputable def Sq_237 : MG := [lq_248, lq_217, lq_235, lq_2, lq_1, lq_1, lq_1, lq_1]
noncomputable def lq_249 : List Nat := [1099512727288627777, nq_6, 1, 0, 0, 0, 1199567185904697, 12094627905547, 34084860461087, 2, nq_353, 2, 11, nq_354, nq_355, nq_356, 3, 1, 1099511627778, 1099511627778, 1099511627777, 166026255794327, nq_360, nq_6, nq_357, nq_3]
noncomputable def Sq_238 : MG := [lq_248, lq_217, lq_249, lq_2, lq_1, lq_1, lq_1, lq_1]
noncomputable def nq_410 : Nat := nat_lit 0x100000000000000000001000000000c00000000010000000000
noncomputable def lq_250 : List Nat := [0, 0, 0, 0, 0, nq_4, nq_1, nq_410, nq_407, nq_409]
noncomputable def Sq_239 : MG := [lq_250, lq_217, lq_249, lq_2, lq_1, lq_1, lq_1, lq_1]
noncomputable def nq_411 : Nat := nat_lit 0x100000000000000000001000000000c00000000020000000000
noncomputable def nq_412 : Nat := nat_lit 0x3100000000320000000075000000003c00000000310000000033000000002e0000000033000000003200000000730000000033000000003e0000000031000000002f0000000031000000006d000000003c0000000033000000002b000000003100000000320000000067000000003c000000003400000000320000000063000000003100000000340000000039000000002e000000003a00000000730000000031000000003600000000320000000069000000003100000000330000000070
noncomputable def lq_251 : List Nat := [0, 0, 0, 0, 0, nq_4, nq_1, nq_411, nq_412, nq_409]
noncomputable def Sq_240 : MG := [lq_251, lq_217, lq_249, lq_2, lq_1, lq_1, lq_1, lq_1]
noncomputable def nq_413 : Nat := nat_lit 0x100000000000000000001000000000c00000000030000000000
noncomputable def nq_414 : Nat := nat_lit 0x3100000000320000000075000000003c00000000310000000033000000002e0000000033000000003200000000730000000033000000003e0000000031000000002f0000000031000000006d000000003c0000000033000000002b000000003100000000320000000067000000003c000000003400000000320000000063000000003100000000340000000039000000002e000000003a00000000730000000031000000003600000000320000000069000000003100000000310000000070
noncomputable def lq_252 : List Nat := [0, 0, 0, 0, 0, nq_4, nq_1, nq_413, nq_414, nq_409]
noncomputable def Sq_241 : MG := [lq_252, lq_217, lq_249, lq_2, lq_1, lq_1, lq_1, lq_1]
noncomputable def nq_415 : Nat := nat_lit 0x100000000000000000001000000000c00000000040000000000
noncomputable def nq_416 : Nat := nat_lit 0x3100000000320000000075000000003c00000000310000000033000000002e0000000033000000003200000000730000000033000000003e0000000031000000002f0000000031000000006d000000003c0000000033000000002b000000003100000000320000000067000000003c000000003400000000320000000063000000003100000000340000000039000000002e000000003a00000000730000000031000000003600000000320000000069000000003f00000000310000000070
noncomputable def lq_253 : List Nat := [0, 0, 0, 0, 0, nq_4, nq_1, nq_415, nq_416, nq_409]
noncomputable def Sq_242 : MG := [lq_253, lq_217, lq_249, lq_2, lq_1, lq_1, lq_1, lq_1]
noncomputable def nq_417 : Nat := nat_lit 0x100000000000000000001000000000c00000000050000000000
noncomputable def nq_418 : Nat := nat_lit 0x3100000000320000000075000000003c00000000310000000033000000002e0000000033000000003200000000730000000033000000003e0000000031000000002f0000000031000000006d000000003c0000000033000000002b000000003100000000320000000067000000003c000000003400000000320000000063000000003100000000340000000039000000002e000000003a00000000730000000031000000003600000000320000000034000000003f00000000310000000070
noncomputable def lq_254 : List Nat := [0, 0, 0, 0, 0, nq_4, nq_1, nq_417, nq_418, nq_409]
noncomputable def Sq_243 : MG := [lq_254, lq_217, lq_249, lq_2, lq_1, lq_1, lq_1, lq_1]
noncomputable def nq_419 : Nat := nat_lit 0x100000000000000000001000000000c00000000060000000000
noncomputable def nq_420 : Nat := nat_lit 0x3100000000320000000075000000003c00000000310000000033000000002e0000000033000000003200000000730000000033000000003e0000000031000000002f0000000031000000006d000000003c0000000033000000002b000000003100000000320000000067000000003c000000003400000000320000000063000000003100000000340000000039000000002e000000003a000000007300000000310000000036000000002c0000000034000000003f00000000310000000070
noncomputable def lq_255 : List Nat := [0, 0, 0, 0, 0, nq_4, nq_1, nq_419, nq_420, nq_409]
noncomputable def Sq_244 : MG := [lq_255, lq_217, lq_249, lq_2, lq_1, lq_1, lq_1, lq_1]
noncomputable def nq_421 : Nat := nat_lit 0x100000000000000000001000000000c00000000070000000000
noncomputable def lq_256 : List Nat := [0, 0, 0, 0, 0, nq_4, nq_1, nq_421, nq_420, nq_409]
noncomputable def Sq_245 : MG := [lq_256, lq_217, lq_249, lq_2, lq_1, lq_1, lq_1, lq_1]
noncomputable def nq_422 : Nat := nat_lit 0x100000000000000000001000000000c00000000080000000000
noncomputable def nq_423 : Nat := nat_lit 0x3100000000320000000075000000003c00000000310000000033000000002e0000000033000000003200000000730000000033000000003e0000000031000000002f0000000031000000006d000000003c0000000033000000002b000000003100000000320000000067000000003c000000003400000000320000000063000000003100000000340000000039000000002e000000003a0000000073000000003c0000000036000000002c0000000034000000003f00000000310000000070
noncomputable def lq_257 : List Nat := [0, 0, 0, 0, 0, nq_4, nq_1, nq_422, nq_423, nq_409]
noncomputable def Sq_246 : MG := [lq_257, lq_217, lq_249, lq_2, lq_1, lq_1, lq_1, lq_1]
noncomputable def nq_424 : Nat := nat_lit 0x100000000000000000001000000000c00000000090000000000
noncomputable def nq_425 : Nat := nat_lit 0x3100000000320000000075000000003c00000000310000000033000000002e0000000033000000003200000000730000000033000000003e0000000031000000002f0000000031000000006d000000003c0000000033000000002b000000003100000000320000000067000000003c000000003400000000320000000063000000003100000000340000000039000000002e000000003a000000006f000000003c0000000036000000002c0000000034000000003f00000000310000000070
noncomputable def lq_258 : List Nat := [0, 0, 0, 0, 0, nq_4, nq_1, nq_424, nq_425, nq_409]
noncomputable def Sq_247 : MG := [lq_258, lq_217, lq_249, lq_2, lq_1, lq_1, lq_1, lq_1]
noncomputable def nq_426 : Nat := nat_lit 0x100000000000000000001000000000c000000000a0000000000
noncomputable def nq_427 : Nat := nat_lit 0x3100000000320000000075000000003c00000000310000000033000000002e0000000033000000003200000000730000000033000000003e0000000031000000002f0000000031000000006d000000003c0000000033000000002b000000003100000000320000000067000000003c000000003400000000320000000063000000003100000000340000000039000000002e0000000031000000006f000000003c0000000036000000002c0000000034000000003f00000000310000000070
noncomputable def lq_259 : List Nat := [0, 0, 0, 0, 0, nq_4, nq_1, nq_426, nq_427, nq_409]
noncomputable def Sq_248 : MG := [lq_259, lq_217, lq_249, lq_2, lq_1, lq_1, lq_1, lq_1]
noncomputable def nq_428 : Nat := nat_lit 0x100000000000000000001000000000c000000000b0000000000
noncomputable def nq_429 : Nat := nat_lit 0x3100000000320000000075000000003c00000000310000000033000000002e0000000033000000003200000000730000000033000000003e0000000031000000002f0000000031000000006d000000003c0000000033000000002b000000003100000000320000000067000000003c000000003400000000320000000063000000003100000000340000000039000000003b0000000031000000006f000000003c0000000036000000002c0000000034000000003f00000000310000000070
noncomputable def lq_260 : List Nat := [0, 0, 0, 0, 0, nq_4, nq_1, nq_428, nq_429, nq_409]
noncomputable def Sq_249 : MG := [lq_260, lq_217, lq_249, lq_2, lq_1, lq_1, lq_1, lq_1]
noncomputable def nq_430 : Nat := nat_lit 0x3100000000320000000075000000003c00000000310000000033000000002e0000000033000000003200000000730000000033000000003e0000000031000000002f0000000031000000006d000000003c0000000033000000002b000000003100000000320000000067000000003c000000003400000000320000000063000000003100000000340000000032000000003b0000000031000000006f000000003c0000000036000000002c0000000034000000003f00000000310000000070
noncomputable def lq_261 : List Nat := [0, 0, 0, 0, 0, nq_4, nq_1, nq_408, nq_430, nq_409]
noncomputable def Sq_250 : MG := [lq_261, lq_217, lq_249, lq_2, lq_1, lq_1, lq_1, lq_1]
noncomputable def nq_431 : Nat := nat_lit 0x100000000000000000001000000000c000000000d0000000000
noncomputable def nq_432 : Nat := nat_lit 0x3100000000320000000075000000003c00000000310000000033000000002e0000000033000000003200000000730000000033000000003e0000000031000000002f0000000031000000006d000000003c0000000033000000002b000000003100000000320000000067000000003c000000003400000000320000000063000000003100000000320000000032000000003b0000000031000000006f000000003c0000000036000000002c0000000034000000003f00000000310000000070
noncomputable def lq_262 : List Nat := [0, 0, 0, 0, 0, nq_4, nq_1, nq_431, nq_432, nq_409]
noncomputable def Sq_251 : MG := [lq_262, lq_217, lq_249, lq_2, lq_1, lq_1, lq_1, lq_1]
noncomputable def nq_433 : Nat := nat_lit 0x100000000000000000001000000000c000000000e0000000000
noncomputable def nq_434 : Nat := nat_lit 0x3100000000320000000075000000003c00000000310000000033000000002e0000000033000000003200000000730000000033000000003e0000000031000000002f0000000031000000006d000000003c0000000033000000002b000000003100000000320000000067000000003c000000003400000000320000000063000000002e00000000320000000032000000003b0000000031000000006f000000003c0000000036000000002c0000000034000000003f00000000310000000070
noncomputable def lq_263 : List Nat := [0, 0, 0, 0, 0, nq_4, nq_1, nq_433, nq_434, nq_409]
noncomputable def Sq_252 : MG := [lq_263, lq_217, lq_249, lq_2, lq_1, lq_1, lq_1, lq_1]
noncomputable def nq_435 : Nat := nat_lit 0x100000000000000000001000000000c000000000f0000000000
noncomputable def nq_436 : Nat := nat_lit 0x3100000000320000000075000000003c00000000310000000033000000002e0000000033000000003200000000730000000033000000003e0000000031000000002f0000000031000000006d000000003c0000000033000000002b000000003100000000320000000067000000003c000000003400000000320000000038000000002e00000000320000000032000000003b0000000031000000006f000000003c0000000036000000002c0000000034000000003f00000000310000000070
noncomputable def lq_264 : List Nat := [0, 0, 0, 0, 0, nq_4, nq_1, nq_435, nq_436, nq_409]
noncomputable def Sq_253 : MG := [lq_264, lq_217, lq_249, lq_2, lq_1, lq_1, lq_1, lq_1]
noncomputable def nq_437 : Nat := nat_lit 0x100000000000000000001000000000c00000000100000000000
noncomputable def lq_265 : List Nat := [0, 0, 0, 0, 0, nq_4, nq_1, nq_437, nq_436, nq_409]
noncomputable def Sq_254 : MG := [lq_265, lq_217, lq_249, lq_2, lq_1, lq_1, lq_1, lq_1]
noncomputable def nq_438 : Nat := nat_lit 0x100000000000000000001000000000c00000000110000000000
noncomputable def nq_439 : Nat := nat_lit 0x3100000000320000000075000000003c00000000310000000033000000002e0000000033000000003200000000730000000033000000003e0000000031000000002f0000000031000000006d000000003c0000000033000000002b000000003100000000320000000067000000003c000000003c00000000320000000038000000002e00000000320000000032000000003b0000000031000000006f000000003c0000000036000000002c0000000034000000003f00000000310000000070
noncomputable def lq_266 : List Nat := [0, 0, 0, 0, 0, nq_4, nq_1, nq_438, nq_439, nq_409]
noncomputable def Sq_255 : MG := [lq_266, lq_217, lq_249, lq_2, lq_1, lq_1, lq_1, lq_1]
noncomputable def nq_440 : Nat := nat_lit 0x100000000000000000001000000000c00000000120000000000
noncomputable def nq_441 : Nat := nat_lit 0x3100000000320000000075000000003c00000000310000000033000000002e0000000033000000003200000000730000000033000000003e0000000031000000002f0000000031000000006d000000003c0000000033000000002b0000000031000000003200000000670000000079000000003c00000000320000000038000000002e00000000320000000032000000003b0000000031000000006f000000003c0000000036000000002c0000000034000000003f00000000310000000070
noncomputable def lq_267 : List Nat := [0, 0, 0, 0, 0, nq_4, nq_1, nq_440, nq_441, nq_409]
noncomputable def Sq_256 : MG := [lq_267, lq_217, lq_249, lq_2, lq_1, lq_1, lq_1, lq_1]
noncomputable def nq_442 : Nat := nat_lit 0x100000000000000000001000000000c00000000130000000000
noncomputable def nq_443 : Nat := nat_lit 0x3100000000320000000075000000003c00000000310000000033000000002e0000000033000000003200000000730000000033000000003e0000000031000000002f0000000031000000006d000000003c0000000033000000002b0000000031000000003200000000310000000079000000003c00000000320000000038000000002e00000000320000000032000000003b0000000031000000006f000000003c0000000036000000002c0000000034000000003f00000000310000000070
noncomputable def lq_268 : List Nat := [0, 0, 0, 0, 0, nq_4, nq_1, nq_442, nq_443, nq_409]
noncomputable def Sq_257 : MG := [lq_268, lq_217, lq_249, lq_2, lq_1, lq_1, lq_1, lq_1]
noncomputable def nq_444 : Nat := nat_lit 0x100000000000000000006000000001400000000130000000000
noncomputable def nq_445 : Nat := nat_lit 0x100000000090000000048000000000c0000000001
noncomputable def lq_269 : List Nat := [0, 0, 0, 0, 0, nq_5, nq_1, nq_444, nq_443, nq_445]
noncomputable def nq_446 : Nat := nat_lit 0x300000000010000000003000000000b000000003d0000000000000000000000000000000000000000000000000b
noncomputable def nq_447 : Nat := nat_lit 0x10000000002000000000100000000010000000001
noncomputable def lq_270 : List Nat := [10, 16, 2, 1, 12, 72, 1081, 11, 31, 2, nq_446, 2, 11, nq_354, nq_355, nq_356, 3, 1, 2, 2, 1, 151, 4294963697, 4294967296, nq_357, nq_447]
noncomputable def nq_448 : Nat := nat_lit 0x1000000000000000010
noncomputable def lq_271 : List Nat := [1099512727287627786, nq_448, 2, 1, 12, 72, 1199567185904697, 12094627905547, 34084860461087, 2, nq_446, 2, 11, nq_354, nq_355, nq_356, 3, 1, 1099511627778, 1099511627778, 1099511627777, 166026255794327, nq_360, nq_6, nq_357, nq_447]
noncomputable def Sq_258 : MG := [lq_269, lq_270, lq_271, lq_2, lq_1, lq_217, lq_1, lq_1]
noncomputable def lq_272 : List Nat := [0, 0, 0, 0, 0, nq_4, nq_1, nq_444, nq_443, nq_445]
noncomputable def lq_273 : List Nat := [1000001, 4294967296, 1, 1, 12, 72, 1081, 11, 31, 2, nq_353, 2, 11, nq_354, nq_355, nq_356, 3, 1, 2, 2, 1, 151, 4294963697, 4294967296, nq_357, nq_3]
noncomputable def Sq_259 : MG := [lq_272, lq_273, lq_271, lq_2, lq_1, lq_217, lq_1, lq_1]
noncomputable def lq_274 : List Nat := [0, 0, 0, 0, 0, nq_0, nq_1, nq_444, nq_443, nq_445]
noncomputable def lq_275 : List Nat := [1000001, 4294967296, 1, 1, 12, 72, 1081, 11, 31, 1, nq_2, 1, 11, nq_354, nq_355, nq_356, 3, 1, 2, 2, 1, 151, 4294963697, 4294967296, nq_357, nq_3]
noncomputable def Sq_260 : MG := [lq_274, lq_275, lq_271, lq_2, lq_1, lq_217, lq_1, lq_1]
noncomputable def nq_449 : Nat := nat_lit 0x100000000000000000006000000001400000000010000000000
noncomputable def lq_276 : List Nat := [0, 0, 0, 0, 0, nq_0, nq_1, nq_449, nq_443, nq_445]
noncomputable def Sq_261 : MG := [lq_276, lq_275, lq_271, lq_2, lq_1, lq_217, lq_1, lq_1]
noncomputable def nq_450 : Nat := nat_lit 0x100000000000000000006000000001400000000020000000000
noncomputable def nq_451 : Nat := nat_lit 0x3100000000320000000075000000003c00000000310000000033000000002e0000000033000000003200000000730000000033000000003e0000000031000000002f0000000031000000006d000000003c0000000033000000002b0000000031000000003200000000310000000079000000003c00000000320000000038000000002e00000000320000000032000000003b0000000031000000006f000000003c0000000036000000002c0000000034000000003f00000000310000000075
noncomputable def lq_277 : List Nat := [0, 0, 0, 0, 0, nq_0, nq_1, nq_450, nq_451, nq_445]
noncomputable def Sq_262 : MG := [lq_277, lq_275, lq_271, lq_2, lq_1, lq_217, lq_1, lq_1]
noncomputable def nq_452 : Nat := nat_lit 0x100000000000000000006000000001400000000030000000000
noncomputable def nq_453 : Nat := nat_lit 0x3100000000320000000075000000003c00000000310000000033000000002e0000000033000000003200000000730000000033000000003e0000000031000000002f0000000031000000006d000000003c0000000033000000002b0000000031000000003200000000310000000079000000003c00000000320000000038000000002e00000000320000000032000000003b0000000031000000006f000000003c0000000036000000002c0000000034000000003f00000000320000000075
noncomputable def lq_278 : List Nat := [0, 0, 0, 0, 0, nq_0, nq_1, nq_452, nq_453, nq_445]
noncomputable def Sq_263 : MG := [lq_278, lq_275, lq_271, lq_2, lq_1, lq_217, lq_1, lq_1]
noncomputable def nq_454 : Nat := nat_lit 0x100000000000000000006000000001400000000040000000000
noncomputable def nq_455 : Nat := nat_lit 0x3100000000320000000075000000003c00000000310000000033000000002e0000000033000000003200000000730000000033000000003e0000000031000000002f0000000031000000006d000000003c0000000033000000002b0000000031000000003200000000310000000079000000003c00000000320000000038000000002e00000000320000000032000000003b0000000031000000006f000000003c0000000036000000002c0000000034000000003c00000000320000000075
noncomputable def lq_279 : List Nat := [0, 0, 0, 0, 0, nq_0, nq_1, nq_454, nq_455, nq_445]
noncomputable def Sq_264 : MG := [lq_279, lq_275, lq_271, lq_2, lq_1, lq_217, lq_1, lq_1]
noncomputable def nq_456 : Nat := nat_lit 0x100000000000000000006000000001400000000050000000000
noncomputable def nq_457 : Nat := nat_lit 0x3100000000320000000075000000003c00000000310000000033000000002e0000000033000000003200000000730000000033000000003e0000000031000000002f0000000031000000006d000000003c0000000033000000002b0000000031000000003200000000310000000079000000003c00000000320000000038000000002e00000000320000000032000000003b0000000031000000006f000000003c0000000036000000002c0000000075000000003c00000000320000000075
noncomputable def lq_280 : List Nat := [0, 0, 0, 0, 0, nq_0, nq_1, nq_456, nq_457, nq_445]
noncomputable def Sq_265 : MG := [lq_280, lq_275, lq_271, lq_2, lq_1, lq_217, lq_1, lq_1]
noncomputable def nq_458 : Nat := nat_lit 0x100000000000000000006000000001400000000060000000000
noncomputable def nq_459 : Nat := nat_lit 0x3100000000320000000075000000003c00000000310000000033000000002e0000000033000000003200000000730000000033000000003e0000000031000000002f0000000031000000006d000000003c0000000033000000002b0000000031000000003200000000310000000079000000003c00000000320000000038000000002e00000000320000000032000000003b0000000031000000006f000000003c000000003600000000320000000075000000003c00000000320000000075
noncomputable def lq_281 : List Nat := [0, 0, 0, 0, 0, nq_0, nq_1, nq_458, nq_459, nq_445]
noncomputable def Sq_266 : MG := [lq_281, lq_275, lq_271, lq_2, lq_1, lq_217, lq_1, lq_1]
noncomputable def nq_460 : Nat := nat_lit 0x100000000000000000006000000001400000000070000000000
noncomputable def nq_461 : Nat := nat_lit 0x3100000000320000000075000000003c00000000310000000033000000002e0000000033000000003200000000730000000033000000003e0000000031000000002f0000000031000000006d000000003c0000000033000000002b0000000031000000003200000000310000000079000000003c00000000320000000038000000002e00000000320000000032000000003b0000000031000000006f000000003c000000003c00000000320000000075000000003c00000000320000000075
noncomputable def lq_282 : List Nat := [0, 0, 0, 0, 0, nq_0, nq_1, nq_460, nq_461, nq_445]
noncomputable def Sq_267 : MG := [lq_282, lq_275, lq_271, lq_2, lq_1, lq_217, lq_1, lq_1]
noncomputable def nq_462 : Nat := nat_lit 0x100000000000000000006000000001400000000080000000000
noncomputable def nq_463 : Nat := nat_lit 0x3100000000320000000075000000003c00000000310000000033000000002e0000000033000000003200000000730000000033000000003e0000000031000000002f0000000031000000006d000000003c0000000033000000002b0000000031000000003200000000310000000079000000003c00000000320000000038000000002e00000000320000000032000000003b0000000031000000006f0000000075000000003c00000000320000000075000000003c00000000320000000075
noncomputable def lq_283 : List Nat := [0, 0, 0, 0, 0, nq_0, nq_1, nq_462, nq_463, nq_445]
noncomputable def Sq_268 : MG := [lq_283, lq_275, lq_271, lq_2, lq_1, lq_217, lq_1, lq_1]
noncomputable def nq_464 : Nat := nat_lit 0x100000000000000000006000000001400000000090000000000
noncomputable def nq_465 : Nat := nat_lit 0x3100000000320000000075000000003c00000000310000000033000000002e0000000033000000003200000000730000000033000000003e0000000031000000002f0000000031000000006d000000003c0000000033000000002b0000000031000000003200000000310000000079000000003c00000000320000000038000000002e00000000320000000032000000003b000000003100000000320000000075000000003c00000000320000000075000000003c00000000320000000075
noncomputable def lq_284 : List Nat := [0, 0, 0, 0, 0, nq_0, nq_1, nq_464, nq_465, nq_445]
noncomputable def Sq_269 : MG := [lq_284, lq_275, lq_271, lq_2, lq_1, lq_217, lq_1, lq_1]
noncomputable def nq_466 : Nat := nat_lit 0x1000000000000000000060000000014000000000a0000000000
noncomputable def nq_467 : Nat := nat_lit 0x3100000000320000000075000000003c00000000310000000033000000002e0000000033000000003200000000730000000033000000003e0000000031000000002f0000000031000000006d000000003c0000000033000000002b0000000031000000003200000000310000000079000000003c00000000320000000038000000002e00000000320000000032000000003b000000003c00000000320000000075000000003c00000000320000000075000000003c00000000320000000075
noncomputable def lq_285 : List Nat := [0, 0, 0, 0, 0, nq_0, nq_1, nq_466, nq_467, nq_445]
noncomputable def Sq_270 : MG := [lq_285, lq_275, lq_271, lq_2, lq_1, lq_217, lq_1, lq_1]
noncomputable def nq_468 : Nat := nat_lit 0x1000000000000000000060000000014000000000b0000000000
noncomputable def nq_469 : Nat := nat_lit 0x3100000000320000000075000000003c00000000310000000033000000002e0000000033000000003200000000730000000033000000003e0000000031000000002f0000000031000000006d000000003c0000000033000000002b0000000031000000003200000000310000000079000000003c00000000320000000038000000002e000000003200000000320000000075000000003c00000000320000000075000000003c00000000320000000075000000003c00000000320000000075
noncomputable def lq_286 : List Nat := [0, 0, 0, 0, 0, nq_0, nq_1, nq_468, nq_469, nq_445]
noncomputable def Sq_271 : MG := [lq_286, lq_275, lq_271, lq_2, lq_1, lq_217, lq_1, lq_1]
noncomputable def nq_470 : Nat := nat_lit 0x1000000000000000000060000000014000000000c0000000000
noncomputable def lq_287 : List Nat := [0, 0, 0, 0, 0, nq_0, nq_1, nq_470, nq_469, nq_445]
noncomputable def Sq_272 : MG := [lq_287, lq_275, lq_271, lq_2, lq_1, lq_217, lq_1, lq_1]
noncomputable def nq_471 : Nat := nat_lit 0x1000000000000000000060000000014000000000d0000000000
noncomputable def nq_472 : Nat := nat_lit 0x3100000000320000000075000000003c00000000310000000033000000002e0000000033000000003200000000730000000033000000003e0000000031000000002f0000000031000000006d000000003c0000000033000000002b0000000031000000003200000000310000000079000000003c00000000320000000038000000002e000000003c00000000320000000075000000003c00000000320000000075000000003c00000000320000000075000000003c00000000320000000075
noncomputable def lq_288 : List Nat := [0, 0, 0, 0, 0, nq_0, nq_1, nq_471, nq_472, nq_445]
noncomputable def Sq_273 : MG := [lq_288, lq_275, lq_271, lq_2, lq_1, lq_217, lq_1, lq_1]
noncomputable def nq_473 : Nat := nat_lit 0x1000000000000000000060000000014000000000e0000000000
noncomputable def nq_474 : Nat := nat_lit 0x3100000000320000000075000000003c00000000310000000033000000002e0000000033000000003200000000730000000033000000003e0000000031000000002f0000000031000000006d000000003c0000000033000000002b0000000031000000003200000000310000000079000000003c000000003200000000380000000075000000003c00000000320000000075000000003c00000000320000000075000000003c00000000320000000075000000003c00000000320000000075
noncomputable def lq_289 : List Nat := [0, 0, 0, 0, 0, nq_0, nq_1, nq_473, nq_474, nq_445]
noncomputable def Sq_274 : MG := [lq_289, lq_275, lq_271, lq_2, lq_1, lq_217, lq_1, lq_1]
noncomputable def nq_475 : Nat := nat_lit 0x1000000000000000000060000000014000000000f0000000000
noncomputable def nq_476 : Nat := nat_lit 0x3100000000320000000075000000003c00000000310000000033000000002e0000000033000000003200000000730000000033000000003e0000000031000000002f0000000031000000006d000000003c0000000033000000002b0000000031000000003200000000310000000079000000003c000000003200000000320000000075000000003c00000000320000000075000000003c00000000320000000075000000003c00000000320000000075000000003c00000000320000000075
noncomputable def lq_290 : List Nat := [0, 0, 0, 0, 0, nq_0, nq_1, nq_475, nq_476, nq_445]
noncomputable def Sq_275 : MG := [lq_290, lq_275, lq_271, lq_2, lq_1, lq_217, lq_1, lq_1]
noncomputable def nq_477 : Nat := nat_lit 0x100000000000000000006000000001400000000100000000000
noncomputable def nq_478 : Nat := nat_lit 0x3100000000320000000075000000003c00000000310000000033000000002e0000000033000000003200000000730000000033000000003e0000000031000000002f0000000031000000006d000000003c0000000033000000002b0000000031000000003200000000310000000079000000003c000000003c00000000320000000075000000003c00000000320000000075000000003c00000000320000000075000000003c00000000320000000075000000003c00000000320000000075
noncomputable def lq_291 : List Nat := [0, 0, 0, 0, 0, nq_0, nq_1, nq_477, nq_478, nq_445]
noncomputable def Sq_276 : MG := [lq_291, lq_275, lq_271, lq_2, lq_1, lq_217, lq_1, lq_1]
noncomputable def nq_479 : Nat := nat_lit 0x100000000000000000006000000001400000000110000000000
noncomputable def nq_480 : Nat := nat_lit 0x3100000000320000000075000000003c00000000310000000033000000002e0000000033000000003200000000730000000033000000003e0000000031000000002f0000000031000000006d000000003c0000000033000000002b00000000310000000032000000003100000000790000000075000000003c00000000320000000075000000003c00000000320000000075000000003c00000000320000000075000000003c00000000320000000075000000003c00000000320000000075
noncomputable def lq_292 : List Nat := [0, 0, 0, 0, 0, nq_0, nq_1, nq_479, nq_480, nq_445]
noncomputable def Sq_277 : MG := [lq_292, lq_275, lq_271, lq_2, lq_1, lq_217, lq_1, lq_1]
noncomputable def nq_481 : Nat := nat_lit 0x100000000000000000006000000001400000000120000000000
noncomputable def nq_482 : Nat := nat_lit 0x3100000000320000000075000000003c00000000310000000033000000002e0000000033000000003200000000730000000033000000003e0000000031000000002f0000000031000000006d000000003c0000000033000000002b00000000310000000032000000003100000000320000000075000000003c00000000320000000075000000003c00000000320000000075000000003c00000000320000000075000000003c00000000320000000075000000003c00000000320000000075
noncomputable def lq_293 : List Nat := [0, 0, 0, 0, 0, nq_0, nq_1, nq_481, nq_482, nq_445]
noncomputable def Sq_278 : MG := [lq_293, lq_275, lq_271, lq_2, lq_1, lq_217, lq_1, lq_1]
noncomputable def nq_483 : Nat := nat_lit 0x3100000000320000000075000000003c00000000310000000033000000002e0000000033000000003200000000730000000033000000003e0000000031000000002f0000000031000000006d000000003c0000000033000000002b00000000310000000032000000003c00000000320000000075000000003c00000000320000000075000000003c00000000320000000075000000003c00000000320000000075000000003c00000000320000000075000000003c00000000320000000075
noncomputable def lq_294 : List Nat := [0, 0, 0, 0, 0, nq_0, nq_1, nq_444, nq_483, nq_445]
noncomputable def Sq_279 : MG := [lq_294, lq_275, lq_271, lq_2, lq_1, lq_217, lq_1, lq_1]
noncomputable def nq_484 : Nat := nat_lit 0x100000000000000000006000000001400000000140000000000
noncomputable def nq_485 : Nat := nat_lit 0x3100000000320000000075000000003c00000000310000000033000000002e0000000033000000003200000000730000000033000000003e0000000031000000002f0000000031000000006d000000003c0000000033000000002b00000000310000000075000000003c00000000320000000075000000003c00000000320000000075000000003c00000000320000000075000000003c00000000320000000075000000003c00000000320000000075000000003c00000000320000000075
noncomputable def lq_295 : List Nat := [0, 0, 0, 0, 0, nq_0, nq_1, nq_484, nq_485, nq_445]
noncomputable def Sq_280 : MG := [lq_295, lq_275, lq_271, lq_2, lq_1, lq_217, lq_1, lq_1]
noncomputable def nq_486 : Nat := nat_lit 0x100000000000000000006000000001400000000150000000000
noncomputable def nq_487 : Nat := nat_lit 0x3100000000320000000075000000003c00000000310000000033000000002e0000000033000000003200000000730000000033000000003e0000000031000000002f0000000031000000006d000000003c0000000033000000002b00000000320000000075000000003c00000000320000000075000000003c00000000320000000075000000003c00000000320000000075000000003c00000000320000000075000000003c00000000320000000075000000003c00000000320000000075
noncomputable def lq_296 : List Nat := [0, 0, 0, 0, 0, nq_0, nq_1, nq_486, nq_487, nq_445]
noncomputable def Sq_281 : MG := [lq_296, lq_275, lq_271, lq_2, lq_1, lq_217, lq_1, lq_1]
noncomputable def nq_488 : Nat := nat_lit 0x100000000000000000006000000001400000000160000000000
noncomputable def nq_489 : Nat := nat_lit 0x3100000000320000000075000000003c00000000310000000033000000002e0000000033000000003200000000730000000033000000003e0000000031000000002f0000000031000000006d000000003c0000000033000000003c00000000320000000075000000003c00000000320000000075000000003c00000000320000000075000000003c00000000320000000075000000003c00000000320000000075000000003c00000000320000000075000000003c00000000320000000075
noncomputable def lq_297 : List Nat := [0, 0, 0, 0, 0, nq_0, nq_1, nq_488, nq_489, nq_445]
noncomputable def Sq_282 : MG := [lq_297, lq_275, lq_271, lq_2, lq_1, lq_217, lq_1, lq_1]
noncomputable def nq_490 : Nat := nat_lit 0x100000000000000000006000000001400000000170000000000
noncomputable def nq_491 : Nat := nat_lit 0x3100000000320000000075000000003c00000000310000000033000000002e0000000033000000003200000000730000000033000000003e0000000031000000002f0000000031000000006d000000003c0000000075000000003c00000000320000000075000000003c00000000320000000075000000003c00000000320000000075000000003c00000000320000000075000000003c00000000320000000075000000003c00000000320000000075000000003c00000000320000000075
noncomputable def lq_298 : List Nat := [0, 0, 0, 0, 0, nq_0, nq_1, nq_490, nq_491, nq_445]
noncomputable def Sq_283 : MG := [lq_298, lq_275, lq_271, lq_2, lq_1, lq_217, lq_1, lq_1]
noncomputable def nq_492 : Nat := nat_lit 0x100000000000000000006000000001400000000180000000000
noncomputable def nq_493 : Nat := nat_lit 0x3100000000320000000075000000003c00000000310000000033000000002e0000000033000000003200000000730000000033000000003e0000000031000000002f0000000031000000006d00000000320000000075000000003c00000000320000000075000000003c00000000320000000075000000003c00000000320000000075000000003c00000000320000000075000000003c00000000320000000075000000003c00000000320000000075000000003c00000000320000000075
noncomputable def lq_299 : List Nat := [0, 0, 0, 0, 0, nq_0, nq_1, nq_492, nq_493, nq_445]
noncomputable def Sq_284 : MG := [lq_299, lq_275, lq_271, lq_2, lq_1, lq_217, lq_1, lq_1]
noncomputable def nq_494 : Nat := nat_lit 0x100000000000000000006000000001400000000190000000000
noncomputable def nq_495 : Nat := nat_lit 0x3100000000320000000075000000003c00000000310000000033000000002e0000000033000000003200000000730000000033000000003e0000000031000000002f0000000031000000003c00000000320000000075000000003c00000000320000000075000000003c00000000320000000075000000003c00000000320000000075000000003c00000000320000000075000000003c00000000320000000075000000003c00000000320000000075000000003c00000000320000000075
noncomputable def lq_300 : List Nat := [0, 0, 0, 0, 0, nq_0, nq_1, nq_494, nq_495, nq_445]
noncomputable def Sq_285 : MG := [lq_300, lq_275, lq_271, lq_2, lq_1, lq_217, lq_1, lq_1]
noncomputable def nq_496 : Nat := nat_lit 0x1000000000000000000060000000014000000001a0000000000
noncomputable def nq_497 : Nat := nat_lit 0x3100000000320000000075000000003c00000000310000000033000000002e0000000033000000003200000000730000000033000000003e0000000031000000002f0000000075000000003c00000000320000000075000000003c00000000320000000075000000003c00000000320000000075000000003c00000000320000000075000000003c00000000320000000075000000003c00000000320000000075000000003c00000000320000000075000000003c00000000320000000075
noncomputable def lq_301 : List Nat := [0, 0, 0, 0, 0, nq_0, nq_1, nq_496, nq_497, nq_445]
noncomputable def Sq_286 : MG := [lq_301, lq_275, lq_271, lq_2, lq_1, lq_217, lq_1, lq_1]
noncomputable def nq_498 : Nat := nat_lit 0x1000000000000000000060000000014000000001b0000000000
noncomputable def nq_499 : Nat := nat_lit 0x3100000000320000000075000000003c00000000310000000033000000002e0000000033000000003200000000730000000033000000003e000000003100000000320000000075000000003c00000000320000000075000000003c00000000320000000075000000003c00000000320000000075000000003c00000000320000000075000000003c00000000320000000075000000003c00000000320000000075000000003c00000000320000000075000000003c00000000320000000075
noncomputable def lq_302 : List Nat := [0, 0, 0, 0, 0, nq_0, nq_1, nq_498, nq_499, nq_445]
noncomputable def Sq_287 : MG := [lq_302, lq_275, lq_271, lq_2, lq_1, lq_217, lq_1, lq_1]
noncomputable def nq_500 : Nat := nat_lit 0x1000000000000000000060000000014000000001c0000000000
noncomputable def nq_501 : Nat := nat_lit 0x3100000000320000000075000000003c00000000310000000033000000002e0000000033000000003200000000730000000033000000003e000000003c00000000320000000075000000003c00000000320000000075000000003c00000000320000000075000000003c00000000320000000075000000003c00000000320000000075000000003c00000000320000000075000000003c00000000320000000075000000003c00000000320000000075000000003c00000000320000000075
noncomputable def lq_303 : List Nat := [0, 0, 0, 0, 0, nq_0, nq_1, nq_500, nq_501, nq_445]
noncomputable def Sq_288 : MG := [lq_303, lq_275, lq_271, lq_2, lq_1, lq_217, lq_1, lq_1]
noncomputable def nq_502 : Nat := nat_lit 0x1000000000000000000060000000014000000001d0000000000
noncomputable def nq_503 : Nat := nat_lit 0x3100000000320000000075000000003c00000000310000000033000000002e00000000330000000032000000007300000000330000000075000000003c00000000320000000075000000003c00000000320000000075000000003c00000000320000000075000000003c00000000320000000075000000003c00000000320000000075000000003c00000000320000000075000000003c00000000320000000075000000003c00000000320000000075000000003c00000000320000000075
noncomputable def lq_304 : List Nat := [0, 0, 0, 0, 0, nq_0, nq_1, nq_502, nq_503, nq_445]
noncomputable def Sq_289 : MG := [lq_304, lq_275, lq_271, lq_2, lq_1, lq_217, lq_1, lq_1]
noncomputable def nq_504 : Nat := nat_lit 0x1000000000000000000060000000014000000001e0000000000
noncomputable def nq_505 : Nat := nat_lit 0x3100000000320000000075000000003c00000000310000000033000000002e00000000330000000032000000007300000000320000000075000000003c00000000320000000075000000003c00000000320000000075000000003c00000000320000000075000000003c00000000320000000075000000003c00000000320000000075000000003c00000000320000000075000000003c00000000320000000075000000003c00000000320000000075000000003c00000000320000000075
noncomputable def lq_305 : List Nat := [0, 0, 0, 0, 0, nq_0, nq_1, nq_504, nq_505, nq_445]
noncomputable def Sq_290 : MG := [lq_305, lq_275, lq_271, lq_2, lq_1, lq_217, lq_1, lq_1]
noncomputable def nq_506 : Nat := nat_lit 0x1000000000000000000060000000014000000001f0000000000
noncomputable def nq_507 : Nat := nat_lit 0x3100000000320000000075000000003c00000000310000000033000000002e00000000330000000032000000003c00000000320000000075000000003c00000000320000000075000000003c00000000320000000075000000003c00000000320000000075000000003c00000000320000000075000000003c00000000320000000075000000003c00000000320000000075000000003c00000000320000000075000000003c00000000320000000075000000003c00000000320000000075
noncomputable def lq_306 : List Nat := [0, 0, 0, 0, 0, nq_0, nq_1, nq_506, nq_507, nq_445]
noncomputable def Sq_291 : MG := [lq_306, lq_275, lq_271, lq_2, lq_1, lq_217, lq_1, lq_1]
noncomputable def nq_508 : Nat := nat_lit 0x100000000000000000006000000001400000000200000000000
noncomputable def nq_509 : Nat := nat_lit 0x3100000000320000000075000000003c00000000310000000033000000002e00000000330000000075000000003c00000000320000000075000000003c00000000320000000075000000003c00000000320000000075000000003c00000000320000000075000000003c00000000320000000075000000003c00000000320000000075000000003c00000000320000000075000000003c00000000320000000075000000003c00000000320000000075000000003c00000000320000000075
noncomputable def lq_307 : List Nat := [0, 0, 0, 0, 0, nq_0, nq_1, nq_508, nq_509, nq_445]
noncomputable def Sq_292 : MG := [lq_307, lq_275, lq_271, lq_2, lq_1, lq_217, lq_1, lq_1]
noncomputable def nq_510 : Nat := nat_lit 0x100000000000000000006000000001400000000210000000000
noncomputable def nq_511 : Nat := nat_lit 0x3100000000320000000075000000003c00000000310000000033000000002e00000000320000000075000000003c00000000320000000075000000003c00000000320000000075000000003c00000000320000000075000000003c00000000320000000075000000003c00000000320000000075000000003c00000000320000000075000000003c00000000320000000075000000003c00000000320000000075000000003c00000000320000000075000000003c00000000320000000075
noncomputable def lq_308 : List Nat := [0, 0, 0, 0, 0, nq_0, nq_1, nq_510, nq_511, nq_445]
noncomputable def Sq_293 : MG := [lq_308, lq_275, lq_271, lq_2, lq_1, lq_217, lq_1, lq_1]
noncomputable def nq_512 : Nat := nat_lit 0x100000000000000000006000000001400000000220000000000
noncomputable def nq_513 : Nat := nat_lit 0x3100000000320000000075000000003c00000000310000000033000000003c00000000320000000075000000003c00000000320000000075000000003c00000000320000000075000000003c00000000320000000075000000003c00000000320000000075000000003c00000000320000000075000000003c00000000320000000075000000003c00000000320000000075000000003c00000000320000000075000000003c00000000320000000075000000003c00000000320000000075
noncomputable def lq_309 : List Nat := [0, 0, 0, 0, 0, nq_0, nq_1, nq_512, nq_513, nq_445]
noncomputable def Sq_294 : MG := [lq_309, lq_275, lq_271, lq_2, lq_1, lq_217, lq_1, lq_1]
noncomputable def nq_514 : Nat := nat_lit 0x100000000000000000006000000001400000000230000000000
noncomputable def nq_515 : Nat := nat_lit 0x3100000000320000000075000000003c00000000310000000075000000003c00000000320000000075000000003c00000000320000000075000000003c00000000320000000075000000003c00000000320000000075000000003c00000000320000000075000000003c00000000320000000075000000003c00000000320000000075000000003c00000000320000000075000000003c00000000320000000075000000003c00000000320000000075000000003c00000000320000000075
noncomputable def lq_310 : List Nat := [0, 0, 0, 0, 0, nq_0, nq_1, nq_514, nq_515, nq_445]
noncomputable def Sq_295 : MG := [lq_310, lq_275, lq_271, lq_2, lq_1, lq_217, lq_1, lq_1]
noncomputable def nq_516 : Nat := nat_lit 0x100000000000000000006000000001400000000240000000000
noncomputable def nq_517 : Nat := nat_lit 0x3100000000320000000075000000003c00000000320000000075000000003c00000000320000000075000000003c00000000320000000075000000003c00000000320000000075000000003c00000000320000000075000000003c00000000320000000075000000003c00000000320000000075000000003c00000000320000000075000000003c00000000320000000075000000003c00000000320000000075000000003c00000000320000000075000000003c00000000320000000075
noncomputable def lq_311 : List Nat := [0, 0, 0, 0, 0, nq_0, nq_1, nq_516, nq_517, nq_445]
noncomputable def Sq_296 : MG := [lq_311, lq_275, lq_271, lq_2, lq_1, lq_217, lq_1, lq_1]
noncomputable def nq_518 : Nat := nat_lit 0x100000000000000000006000000001400000000250000000000
noncomputable def lq_312 : List Nat := [0, 0, 0, 0, 0, nq_0, nq_1, nq_518, nq_517, nq_445]
noncomputable def Sq_297 : MG := [lq_312, lq_275, lq_271, lq_2, lq_1, lq_217, lq_1, lq_1]
noncomputable def nq_519 : Nat := nat_lit 0x100000000000000000006000000001400000000260000000000
noncomputable def lq_313 : List Nat := [0, 0, 0, 0, 0, nq_0, nq_1, nq_519, nq_517, nq_445]
noncomputable def Sq_298 : MG := [lq_313, lq_275, lq_271, lq_2, lq_1, lq_217, lq_1, lq_1]
noncomputable def nq_520 : Nat := nat_lit 0x100000000000000000006000000001400000000270000000000
noncomputable def lq_314 : List Nat := [0, 0, 0, 0, 0, nq_0, nq_1, nq_520, nq_517, nq_445]
noncomputable def Sq_299 : MG := [lq_314, lq_275, lq_271, lq_2, lq_1, lq_217, lq_1, lq_1]
noncomputable def nq_521 : Nat := nat_lit 0x100000000000000000006000000001400000000280000000000
noncomputable def nq_522 : Nat := nat_lit 0x3c00000000320000000075000000003c00000000320000000075000000003c00000000320000000075000000003c00000000320000000075000000003c00000000320000000075000000003c00000000320000000075000000003c00000000320000000075000000003c00000000320000000075000000003c00000000320000000075000000003c00000000320000000075000000003c00000000320000000075000000003c00000000320000000075000000003c00000000320000000075
noncomputable def lq_315 : List Nat := [0, 0, 0, 0, 0, nq_0, nq_1, nq_521, nq_522, nq_445]
noncomputable def Sq_300 : MG := [lq_315, lq_275, lq_271, lq_2, lq_1, lq_217, lq_1, lq_1]
noncomputable def nq_523 : Nat := nat_lit 0x100000000000000000006000000001400000000290000000000
noncomputable def nq_524 : Nat := nat_lit 0x75000000003c00000000320000000075000000003c00000000320000000075000000003c00000000320000000075000000003c00000000320000000075000000003c00000000320000000075000000003c00000000320000000075000000003c00000000320000000075000000003c00000000320000000075000000003c00000000320000000075000000003c00000000320000000075000000003c00000000320000000075000000003c00000000320000000075000000003c00000000320000000075
noncomputable def lq_316 : List Nat := [0, 0, 0, 0, 0, nq_0, nq_1, nq_523, nq_524, nq_445]
noncomputable def Sq_301 : MG := [lq_316, lq_275, lq_271, lq_2, lq_1, lq_217, lq_1, lq_1]
noncomputable def nq_525 : Nat := nat_lit 0x1000000000000000000060000000014000000002a0000000000
noncomputable def nq_526 : Nat := nat_lit 0x320000000075000000003c00000000320000000075000000003c00000000320000000075000000003c00000000320000000075000000003c00000000320000000075000000003c00000000320000000075000000003c00000000320000000075000000003c00000000320000000075000000003c00000000320000000075000000003c00000000320000000075000000003c00000000320000000075000000003c00000000320000000075000000003c00000000320000000075000000003c00000000320000000075
noncomputable def lq_317 : List Nat := [0, 0, 0, 0, 0, nq_0, nq_1, nq_525, nq_526, nq_445]
noncomputable def Sq_302 : MG := [lq_317, lq_275, lq_271, lq_2, lq_1, lq_217, lq_1, lq_1]
noncomputable def nq_527 : Nat := nat_lit 0x1000000000000000000060000000014000000002b0000000000
noncomputable def nq_528 : Nat := nat_lit 0x3c00000000320000000075000000003c00000000320000000075000000003c00000000320000000075000000003c00000000320000000075000000003c00000000320000000075000000003c00000000320000000075000000003c00000000320000000075000000003c00000000320000000075000000003c00000000320000000075000000003c00000000320000000075000000003c00000000320000000075000000003c00000000320000000075000000003c00000000320000000075000000003c00000000320000000075
noncomputable def lq_318 : List Nat := [0, 0, 0, 0, 0, nq_0, nq_1, nq_527, nq_528, nq_445]
noncomputable def Sq_303 : MG := [lq_318, lq_275, lq_271, lq_2, lq_1, lq_217, lq_1, lq_1]
noncomputable def nq_529 : Nat := nat_lit 0x1000000000000000000060000000014000000002c0000000000
noncomputable def nq_530 : Nat := nat_lit 0x75000000003c00000000320000000075000000003c00000000320000000075000000003c00000000320000000075000000003c00000000320000000075000000003c00000000320000000075000000003c00000000320000000075000000003c00000000320000000075000000003c00000000320000000075000000003c00000000320000000075000000003c00000000320000000075000000003c00000000320000000075000000003c00000000320000000075000000003c00000000320000000075000000003c00000000320000000075
noncomputable def lq_319 : List Nat := [0, 0, 0, 0, 0, nq_0, nq_1, nq_529, nq_530, nq_445]
noncomputable def Sq_304 : MG := [lq_319, lq_275, lq_271, lq_2, lq_1, lq_217, lq_1, lq_1]
noncomputable def nq_531 : Nat := nat_lit 0x1000000000000000000060000000014000000002d0000000000
noncomputable def nq_532 : Nat := nat_lit 0x320000000075000000003c00000000320000000075000000003c00000000320000000075000000003c00000000320000000075000000003c00000000320000000075000000003c00000000320000000075000000003c00000000320000000075000000003c00000000320000000075000000003c00000000320000000075000000003c00000000320000000075000000003c00000000320000000075000000003c00000000320000000075000000003c00000000320000000075000000003c00000000320000000075000000003c00000000320000000075
noncomputable def lq_320 : List Nat := [0, 0, 0, 0, 0, nq_0, nq_1, nq_531, nq_532, nq_445]
noncomputable def Sq_305 : MG := [lq_320, lq_275, lq_271, lq_2, lq_1, lq_217, lq_1, lq_1]
noncomputable def nq_533 : Nat := nat_lit 0x1000000000000000000060000000014000000002e0000000000
noncomputable def nq_534 : Nat := nat_lit 0x3c00000000320000000075000000003c00000000320000000075000000003c00000000320000000075000000003c00000000320000000075000000003c00000000320000000075000000003c00000000320000000075000000003c00000000320000000075000000003c00000000320000000075000000003c00000000320000000075000000003c00000000320000000075000000003c00000000320000000075000000003c00000000320000000075000000003c00000000320000000075000000003c00000000320000000075000000003c00000000320000000075
noncomputable def lq_321 : List Nat := [0, 0, 0, 0, 0, nq_0, nq_1, nq_533, nq_534, nq_445]
noncomputable def Sq_306 : MG := [lq_321, lq_275, lq_271, lq_2, lq_1, lq_217, lq_1, lq_1]
noncomputable def nq_535 : Nat := nat_lit 0x1000000000000000000060000000014000000002f0000000000
noncomputable def nq_536 : Nat := nat_lit 0x75000000003c00000000320000000075000000003c00000000320000000075000000003c00000000320000000075000000003c00000000320000000075000000003c00000000320000000075000000003c00000000320000000075000000003c00000000320000000075000000003c00000000320000000075000000003c00000000320000000075000000003c00000000320000000075000000003c00000000320000000075000000003c00000000320000000075000000003c00000000320000000075000000003c00000000320000000075000000003c00000000320000000075
noncomputable def lq_322 : List Nat := [0, 0, 0, 0, 0, nq_0, nq_1, nq_535, nq_536, nq_445]
noncomputable def Sq_307 : MG := [lq_322, lq_275, lq_271, lq_2, lq_1, lq_217, lq_1, lq_1]
noncomputable def nq_537 : Nat := nat_lit 0x100000000000000000006000000001400000000300000000000
noncomputable def nq_538 : Nat := nat_lit 0x320000000075000000003c00000000320000000075000000003c00000000320000000075000000003c00000000320000000075000000003c00000000320000000075000000003c00000000320000000075000000003c00000000320000000075000000003c00000000320000000075000000003c00000000320000000075000000003c00000000320000000075000000003c00000000320000000075000000003c00000000320000000075000000003c00000000320000000075000000003c00000000320000000075000000003c00000000320000000075000000003c00000000320000000075
noncomputable def lq_323 : List Nat := [0, 0, 0, 0, 0, nq_0, nq_1, nq_537, nq_538, nq_445]
noncomputable def Sq_308 : MG := [lq_323, lq_275, lq_271, lq_2, lq_1, lq_217, lq_1, lq_1]
noncomputable def nq_539 : Nat := nat_lit 0x100000000000000000006000000001400000000310000000000
noncomputable def nq_540 : Nat := nat_lit 0x3c00000000320000000075000000003c00000000320000000075000000003c00000000320000000075000000003c00000000320000000075000000003c00000000320000000075000000003c00000000320000000075000000003c00000000320000000075000000003c00000000320000000075000000003c00000000320000000075000000003c00000000320000000075000000003c00000000320000000075000000003c00000000320000000075000000003c00000000320000000075000000003c00000000320000000075000000003c00000000320000000075000000003c00000000320000000075
noncomputable def lq_324 : List Nat := [0, 0, 0, 0, 0, nq_0, nq_1, nq_539, nq_540, nq_445]
noncomputable def Sq_309 : MG := [lq_324, lq_275, lq_271, lq_2, lq_1, lq_217, lq_1, lq_1]
noncomputable def nq_541 : Nat := nat_lit 0x100000000000000000006000000001400000000320000000000
noncomputable def nq_542 : Nat := nat_lit 0x75000000003c00000000320000000075000000003c00000000320000000075000000003c00000000320000000075000000003c00000000320000000075000000003c00000000320000000075000000003c00000000320000000075000000003c00000000320000000075000000003c00000000320000000075000000003c00000000320000000075000000003c00000000320000000075000000003c00000000320000000075000000003c00000000320000000075000000003c00000000320000000075000000003c00000000320000000075000000003c00000000320000000075000000003c00000000320000000075
noncomputable def lq_325 : List Nat := [0, 0, 0, 0, 0, nq_0, nq_1, nq_541, nq_542, nq_445]
noncomputable def Sq_310 : MG := [lq_325, lq_275, lq_271, lq_2, lq_1, lq_217, lq_1, lq_1]
noncomputable def nq_543 : Nat := nat_lit 0x100000000000000000006000000001400000000330000000000
noncomputable def nq_544 : Nat := nat_lit 0x320000000075000000003c00000000320000000075000000003c00000000320000000075000000003c00000000320000000075000000003c00000000320000000075000000003c00000000320000000075000000003c00000000320000000075000000003c00000000320000000075000000003c00000000320000000075000000003c00000000320000000075000000003c00000000320000000075000000003c00000000320000000075000000003c00000000320000000075000000003c00000000320000000075000000003c00000000320000000075000000003c00000000320000000075000000003c00000000320000000075
noncomputable def lq_326 : List Nat := [0, 0, 0, 0, 0, nq_0, nq_1, nq_543, nq_544, nq_445]
noncomputable def Sq_311 : MG := [lq_326, lq_275, lq_271, lq_2, lq_1, lq_217, lq_1, lq_1]
noncomputable def nq_545 : Nat := nat_lit 0x100000000000000000006000000001400000000340000000000
noncomputable def nq_546 : Nat := nat_lit 0x3c00000000320000000075000000003c00000000320000000075000000003c00000000320000000075000000003c00000000320000000075000000003c00000000320000000075000000003c00000000320000000075000000003c00000000320000000075000000003c00000000320000000075000000003c00000000320000000075000000003c00000000320000000075000000003c00000000320000000075000000003c00000000320000000075000000003c00000000320000000075000000003c00000000320000000075000000003c00000000320000000075000000003c00000000320000000075000000003c00000000320000000075
noncomputable def lq_327 : List Nat := [0, 0, 0, 0, 0, nq_0, nq_1, nq_545, nq_546, nq_445]
noncomputable def Sq_312 : MG := [lq_327, lq_275, lq_271, lq_2, lq_1, lq_217, lq_1, lq_1]
noncomputable def nq_547 : Nat := nat_lit 0x100000000000000000006000000001400000000350000000000
noncomputable def nq_548 : Nat := nat_lit 0x75000000003c00000000320000000075000000003c00000000320000000075000000003c00000000320000000075000000003c00000000320000000075000000003c00000000320000000075000000003c00000000320000000075000000003c00000000320000000075000000003c00000000320000000075000000003c00000000320000000075000000003c00000000320000000075000000003c00000000320000000075000000003c00000000320000000075000000003c00000000320000000075000000003c00000000320000000075000000003c00000000320000000075000000003c00000000320000000075000000003c00000000320000000075
noncomputable def lq_328 : List Nat := [0, 0, 0, 0, 0, nq_0, nq_1, nq_547, nq_548, nq_445]
noncomputable def Sq_313 : MG := [lq_328, lq_275, lq_271, lq_2, lq_1, lq_217, lq_1, lq_1]
noncomputable def nq_549 : Nat := nat_lit 0x100000000000000000006000000001400000000360000000000
noncomputable def nq_550 : Nat := nat_lit 0x320000000075000000003c00000000320000000075000000003c00000000320000000075000000003c00000000320000000075000000003c00000000320000000075000000003c00000000320000000075000000003c00000000320000000075000000003c00000000320000000075000000003c00000000320000000075000000003c00000000320000000075000000003c00000000320000000075000000003c00000000320000000075000000003c00000000320000000075000000003c00000000320000000075000000003c00000000320000000075000000003c00000000320000000075000000003c00000000320000000075000000003c00000000320000000075
noncomputable def lq_329 : List Nat := [0, 0, 0, 0, 0, nq_0, nq_1, nq_549, nq_550, nq_445]
noncomputable def Sq_314 : MG := [lq_329, lq_275, lq_271, lq_2, lq_1, lq_217, lq_1, lq_1]
noncomputable def nq_551 : Nat := nat_lit 0x100000000000000000006000000001400000000370000000000
noncomputable def nq_552 : Nat := nat_lit 0x3c00000000320000000075000000003c00000000320000000075000000003c00000000320000000075000000003c00000000320000000075000000003c00000000320000000075000000003c00000000320000000075000000003c00000000320000000075000000003c00000000320000000075000000003c00000000320000000075000000003c00000000320000000075000000003c00000000320000000075000000003c00000000320000000075000000003c00000000320000000075000000003c00000000320000000075000000003c00000000320000000075000000003c00000000320000000075000000003c00000000320000000075000000003c00000000320000000075
noncomputable def lq_330 : List Nat := [0, 0, 0, 0, 0, nq_0, nq_1, nq_551, nq_552, nq_445]
noncomputable def Sq_315 : MG := [lq_330, lq_275, lq_271, lq_2, lq_1, lq_217, lq_1, lq_1]
noncomputable def nq_553 : Nat := nat_lit 0x100000000000000000006000000001400000000380000000000
noncomputable def nq_554 : Nat := nat_lit 0x75000000003c00000000320000000075000000003c00000000320000000075000000003c00000000320000000075000000003c00000000320000000075000000003c00000000320000000075000000003c00000000320000000075000000003c00000000320000000075000000003c00000000320000000075000000003c00000000320000000075000000003c00000000320000000075000000003c00000000320000000075000000003c00000000320000000075000000003c00000000320000000075000000003c00000000320000000075000000003c00000000320000000075000000003c00000000320000000075000000003c00000000320000000075000000003c00000000320000000075
noncomputable def lq_331 : List Nat := [0, 0, 0, 0, 0, nq_0, nq_1, nq_553, nq_554, nq_445]
noncomputable def Sq_316 : MG := [lq_331, lq_275, lq_271, lq_2, lq_1, lq_217, lq_1, lq_1]
noncomputable def nq_555 : Nat := nat_lit 0x100000000000000000006000000001400000000390000000000
noncomputable def nq_556 : Nat := nat_lit 0x320000000075000000003c00000000320000000075000000003c00000000320000000075000000003c00000000320000000075000000003c00000000320000000075000000003c00000000320000000075000000003c00000000320000000075000000003c00000000320000000075000000003c00000000320000000075000000003c00000000320000000075000000003c00000000320000000075000000003c00000000320000000075000000003c00000000320000000075000000003c00000000320000000075000000003c00000000320000000075000000003c00000000320000000075000000003c00000000320000000075000000003c00000000320000000075000000003c00000000320000000075
noncomputable def lq_332 : List Nat := [0, 0, 0, 0, 0, nq_0, nq_1, nq_555, nq_556, nq_445]
noncomputable def Sq_317 : MG := [lq_332, lq_275, lq_271, lq_2, lq_1, lq_217, lq_1, lq_1]
noncomputable def nq_557 : Nat := nat_lit 0x1000000000000000000060000000014000000003a0000000000
noncomputable def nq_558 : Nat := nat_lit 0x3c00000000320000000075000000003c00000000320000000075000000003c00000000320000000075000000003c00000000320000000075000000003c00000000320000000075000000003c00000000320000000075000000003c00000000320000000075000000003c00000000320000000075000000003c00000000320000000075000000003c00000000320000000075000000003c00000000320000000075000000003c00000000320000000075000000003c00000000320000000075000000003c00000000320000000075000000003c00000000320000000075000000003c00000000320000000075000000003c00000000320000000075000000003c00000000320000000075000000003c00000000320000000075
noncomputable def lq_333 : List Nat := [0, 0, 0, 0, 0, nq_0, nq_1, nq_557, nq_558, nq_445]
noncomputable def Sq_318 : MG := [lq_333, lq_275, lq_271, lq_2, lq_1, lq_217, lq_1, lq_1]
noncomputable def nq_559 : Nat := nat_lit 0x1000000000000000000060000000014000000003b0000000000
noncomputable def nq_560 : Nat := nat_lit 0x75000000003c00000000320000000075000000003c00000000320000000075000000003c00000000320000000075000000003c00000000320000000075000000003c00000000320000000075000000003c00000000320000000075000000003c00000000320000000075000000003c00000000320000000075000000003c00000000320000000075000000003c00000000320000000075000000003c00000000320000000075000000003c00000000320000000075000000003c00000000320000000075000000003c00000000320000000075000000003c00000000320000000075000000003c00000000320000000075000000003c00000000320000000075000000003c00000000320000000075000000003c00000000320000000075
noncomputable def lq_334 : List Nat := [0, 0, 0, 0, 0, nq_0, nq_1, nq_559, nq_560, nq_445]
noncomputable def Sq_319 : MG := [lq_334, lq_275, lq_271, lq_2, lq_1, lq_217, lq_1, lq_1]
noncomputable def nq_561 : Nat := nat_lit 0x1000000000000000000060000000014000000003c0000000000
noncomputable def nq_562 : Nat := nat_lit 0x320000000075000000003c00000000320000000075000000003c00000000320000000075000000003c00000000320000000075000000003c00000000320000000075000000003c00000000320000000075000000003c00000000320000000075000000003c00000000320000000075000000003c00000000320000000075000000003c00000000320000000075000000003c00000000320000000075000000003c00000000320000000075000000003c00000000320000000075000000003c00000000320000000075000000003c00000000320000000075000000003c00000000320000000075000000003c00000000320000000075000000003c00000000320000000075000000003c00000000320000000075000000003c00000000320000000075
noncomputable def lq_335 : List Nat := [0, 0, 0, 0, 0, nq_0, nq_1, nq_561, nq_562, nq_445]
noncomputable def Sq_320 : MG := [lq_335, lq_275, lq_271, lq_2, lq_1, lq_217, lq_1, lq_1]
noncomputable def nq_563 : Nat := nat_lit 0x1000000000000000000060000000014000000003d0000000000
noncomputable def nq_564 : Nat := nat_lit 0x3c00000000320000000075000000003c00000000320000000075000000003c00000000320000000075000000003c00000000320000000075000000003c00000000320000000075000000003c00000000320000000075000000003c00000000320000000075000000003c00000000320000000075000000003c00000000320000000075000000003c00000000320000000075000000003c00000000320000000075000000003c00000000320000000075000000003c00000000320000000075000000003c00000000320000000075000000003c00000000320000000075000000003c00000000320000000075000000003c00000000320000000075000000003c00000000320000000075000000003c00000000320000000075000000003c00000000320000000075
noncomputable def lq_336 : List Nat := [0, 0, 0, 0, 0, nq_0, nq_1, nq_563, nq_564, nq_445]
noncomputable def Sq_321 : MG := [lq_336, lq_275, lq_271, lq_2, lq_1, lq_217, lq_1, lq_1]
noncomputable def nq_565 : Nat := nat_lit 0x1000000000000000000060000000014000000003e0000000000
noncomputable def nq_566 : Nat := nat_lit 0x75000000003c00000000320000000075000000003c00000000320000000075000000003c00000000320000000075000000003c00000000320000000075000000003c00000000320000000075000000003c00000000320000000075000000003c00000000320000000075000000003c00000000320000000075000000003c00000000320000000075000000003c00000000320000000075000000003c00000000320000000075000000003c00000000320000000075000000003c00000000320000000075000000003c00000000320000000075000000003c00000000320000000075000000003c00000000320000000075000000003c00000000320000000075000000003c00000000320000000075000000003c00000000320000000075000000003c00000000320000000075
noncomputable def lq_337 : List Nat := [0, 0, 0, 0, 0, nq_0, nq_1, nq_565, nq_566, nq_445]
noncomputable def Sq_322 : MG := [lq_337, lq_275, lq_271, lq_2, lq_1, lq_217, lq_1, lq_1]
noncomputable def nq_567 : Nat := nat_lit 0x1000000000000000000060000000014000000003f0000000000
noncomputable def nq_568 : Nat := nat_lit 0x320000000075000000003c00000000320000000075000000003c00000000320000000075000000003c00000000320000000075000000003c00000000320000000075000000003c00000000320000000075000000003c00000000320000000075000000003c00000000320000000075000000003c00000000320000000075000000003c00000000320000000075000000003c00000000320000000075000000003c00000000320000000075000000003c00000000320000000075000000003c00000000320000000075000000003c00000000320000000075000000003c00000000320000000075000000003c00000000320000000075000000003c00000000320000000075000000003c00000000320000000075000000003c00000000320000000075000000003c00000000320000000075
noncomputable def lq_338 : List Nat := [0, 0, 0, 0, 0, nq_0, nq_1, nq_567, nq_568, nq_445]
noncomputable def Sq_323 : MG := [lq_338, lq_275, lq_271, lq_2, lq_1, lq_217, lq_1, lq_1]
noncomputable def nq_569 : Nat := nat_lit 0x100000000000000000006000000001400000000400000000000
noncomputable def nq_570 : Nat := nat_lit 0x3c00000000320000000075000000003c00000000320000000075000000003c00000000320000000075000000003c00000000320000000075000000003c00000000320000000075000000003c00000000320000000075000000003c00000000320000000075000000003c00000000320000000075000000003c00000000320000000075000000003c00000000320000000075000000003c00000000320000000075000000003c00000000320000000075000000003c00000000320000000075000000003c00000000320000000075000000003c00000000320000000075000000003c00000000320000000075000000003c00000000320000000075000000003c00000000320000000075000000003c00000000320000000075000000003c00000000320000000075000000003c00000000320000000075
noncomputable def lq_339 : List Nat := [0, 0, 0, 0, 0, nq_0, nq_1, nq_569, nq_570, nq_445]
noncomputable def Sq_324 : MG := [lq_339, lq_275, lq_271, lq_2, lq_1, lq_217, lq_1, lq_1]
noncomputable def nq_571 : Nat := nat_lit 0x100000000000000000006000000001400000000410000000000
noncomputable def nq_572 : Nat := nat_lit 0x75000000003c00000000320000000075000000003c00000000320000000075000000003c00000000320000000075000000003c00000000320000000075000000003c00000000320000000075000000003c00000000320000000075000000003c00000000320000000075000000003c00000000320000000075000000003c00000000320000000075000000003c00000000320000000075000000003c00000000320000000075000000003c00000000320000000075000000003c00000000320000000075000000003c00000000320000000075000000003c00000000320000000075000000003c00000000320000000075000000003c00000000320000000075000000003c00000000320000000075000000003c00000000320000000075000000003c00000000320000000075000000003c00000000320000000075
noncomputable def lq_340 : List Nat := [0, 0, 0, 0, 0, nq_0, nq_1, nq_571, nq_572, nq_445]
noncomputable def Sq_325 : MG := [lq_340, lq_275, lq_271, lq_2, lq_1, lq_217, lq_1, lq_1]
noncomputable def nq_573 : Nat := nat_lit 0x100000000000000000006000000001400000000420000000000
noncomputable def nq_574 : Nat := nat_lit 0x320000000075000000003c00000000320000000075000000003c00000000320000000075000000003c00000000320000000075000000003c00000000320000000075000000003c00000000320000000075000000003c00000000320000000075000000003c00000000320000000075000000003c00000000320000000075000000003c00000000320000000075000000003c00000000320000000075000000003c00000000320000000075000000003c00000000320000000075000000003c00000000320000000075000000003c00000000320000000075000000003c00000000320000000075000000003c00000000320000000075000000003c00000000320000000075000000003c00000000320000000075000000003c00000000320000000075000000003c00000000320000000075000000003c00000000320000000075
noncomputable def lq_341 : List Nat := [0, 0, 0, 0, 0, nq_0, nq_1, nq_573, nq_574, nq_445]
noncomputable def Sq_326 : MG := [lq_341, lq_275, lq_271, lq_2, lq_1, lq_217, lq_1, lq_1]
noncomputable def nq_575 : Nat := nat_lit 0x100000000000000000006000000001400000000430000000000
noncomputable def nq_576 : Nat := nat_lit 0x3c00000000320000000075000000003c00000000320000000075000000003c00000000320000000075000000003c00000000320000000075000000003c00000000320000000075000000003c00000000320000000075000000003c00000000320000000075000000003c00000000320000000075000000003c00000000320000000075000000003c00000000320000000075000000003c00000000320000000075000000003c00000000320000000075000000003c00000000320000000075000000003c00000000320000000075000000003c00000000320000000075000000003c00000000320000000075000000003c00000000320000000075000000003c00000000320000000075000000003c00000000320000000075000000003c00000000320000000075000000003c00000000320000000075000000003c00000000320000000075
noncomputable def lq_342 : List Nat := [0, 0, 0, 0, 0, nq_0, nq_1, nq_575, nq_576, nq_445]
noncomputable def Sq_327 : MG := [lq_342, lq_275, lq_271, lq_2, lq_1, lq_217, lq_1, lq_1]
noncomputable def nq_577 : Nat := nat_lit 0x100000000000000000006000000001400000000440000000000
noncomputable def nq_578 : Nat := nat_lit 0x75000000003c00000000320000000075000000003c00000000320000000075000000003c00000000320000000075000000003c00000000320000000075000000003c00000000320000000075000000003c00000000320000000075000000003c00000000320000000075000000003c00000000320000000075000000003c00000000320000000075000000003c00000000320000000075000000003c00000000320000000075000000003c00000000320000000075000000003c00000000320000000075000000003c00000000320000000075000000003c00000000320000000075000000003c00000000320000000075000000003c00000000320000000075000000003c00000000320000000075000000003c00000000320000000075000000003c00000000320000000075000000003c00000000320000000075000000003c00000000320000000075
noncomputable def lq_343 : List Nat := [0, 0, 0, 0, 0, nq_0, nq_1, nq_577, nq_578, nq_445]
noncomputable def Sq_328 : MG := [lq_343, lq_275, lq_271, lq_2, lq_1, lq_217, lq_1, lq_1]
noncomputable def nq_579 : Nat := nat_lit 0x100000000000000000006000000001400000000450000000000
noncomputable def nq_580 : Nat := nat_lit 0x320000000075000000003c00000000320000000075000000003c00000000320000000075000000003c00000000320000000075000000003c00000000320000000075000000003c00000000320000000075000000003c00000000320000000075000000003c00000000320000000075000000003c00000000320000000075000000003c00000000320000000075000000003c00000000320000000075000000003c00000000320000000075000000003c00000000320000000075000000003c00000000320000000075000000003c00000000320000000075000000003c00000000320000000075000000003c00000000320000000075000000003c00000000320000000075000000003c00000000320000000075000000003c00000000320000000075000000003c00000000320000000075000000003c00000000320000000075000000003c00000000320000000075
noncomputable def lq_344 : List Nat := [0, 0, 0, 0, 0, nq_0, nq_1, nq_579, nq_580, nq_445]
noncomputable def Sq_329 : MG := [lq_344, lq_275, lq_271, lq_2, lq_1, lq_217, lq_1, lq_1]
noncomputable def nq_581 : Nat := nat_lit 0x100000000000000000006000000001400000000460000000000
noncomputable def nq_582 : Nat := nat_lit 0x3c00000000320000000075000000003c00000000320000000075000000003c00000000320000000075000000003c00000000320000000075000000003c00000000320000000075000000003c00000000320000000075000000003c00000000320000000075000000003c00000000320000000075000000003c00000000320000000075000000003c00000000320000000075000000003c00000000320000000075000000003c00000000320000000075000000003c00000000320000000075000000003c00000000320000000075000000003c00000000320000000075000000003c00000000320000000075000000003c00000000320000000075000000003c00000000320000000075000000003c00000000320000000075000000003c00000000320000000075000000003c00000000320000000075000000003c00000000320000000075000000003c00000000320000000075
noncomputable def lq_345 : List Nat := [0, 0, 0, 0, 0, nq_0, nq_1, nq_581, nq_582, nq_445]
noncomputable def Sq_330 : MG := [lq_345, lq_275, lq_271, lq_2, lq_1, lq_217, lq_1, lq_1]
noncomputable def nq_583 : Nat := nat_lit 0x100000000000000000006000000001400000000470000000000
noncomputable def nq_584 : Nat := nat_lit 0x75000000003c00000000320000000075000000003c00000000320000000075000000003c00000000320000000075000000003c00000000320000000075000000003c00000000320000000075000000003c00000000320000000075000000003c00000000320000000075000000003c00000000320000000075000000003c00000000320000000075000000003c00000000320000000075000000003c00000000320000000075000000003c00000000320000000075000000003c00000000320000000075000000003c00000000320000000075000000003c00000000320000000075000000003c00000000320000000075000000003c00000000320000000075000000003c00000000320000000075000000003c00000000320000000075000000003c00000000320000000075000000003c00000000320000000075000000003c00000000320000000075000000003c00000000320000000075
noncomputable def lq_346 : List Nat := [0, 0, 0, 0, 0, nq_0, nq_1, nq_583, nq_584, nq_445]
noncomputable def Sq_331 : MG := [lq_346, lq_275, lq_271, lq_2, lq_1, lq_217, lq_1, lq_1]
noncomputable def nq_585 : Nat := nat_lit 0x100000000000000000006000000001400000000480000000000
noncomputable def nq_586 : Nat := nat_lit 0x320000000075000000003c00000000320000000075000000003c00000000320000000075000000003c00000000320000000075000000003c00000000320000000075000000003c00000000320000000075000000003c00000000320000000075000000003c00000000320000000075000000003c00000000320000000075000000003c00000000320000000075000000003c00000000320000000075000000003c00000000320000000075000000003c00000000320000000075000000003c00000000320000000075000000003c00000000320000000075000000003c00000000320000000075000000003c00000000320000000075000000003c00000000320000000075000000003c00000000320000000075000000003c00000000320000000075000000003c00000000320000000075000000003c00000000320000000075000000003c00000000320000000075000000003c00000000320000000075
noncomputable def lq_347 : List Nat := [0, 0, 0, 0, 0, nq_0, nq_1, nq_585, nq_586, nq_445]
noncomputable def Sq_332 : MG := [lq_347, lq_275, lq_271, lq_2, lq_1, lq_217, lq_1, lq_1]
noncomputable def nq_587 : Nat := nat_lit 0x100000000000000000006000000001400000000490000000000
noncomputable def nq_588 : Nat := nat_lit 0x3c00000000320000000075000000003c00000000320000000075000000003c00000000320000000075000000003c00000000320000000075000000003c00000000320000000075000000003c00000000320000000075000000003c00000000320000000075000000003c00000000320000000075000000003c00000000320000000075000000003c00000000320000000075000000003c00000000320000000075000000003c00000000320000000075000000003c00000000320000000075000000003c00000000320000000075000000003c00000000320000000075000000003c00000000320000000075000000003c00000000320000000075000000003c00000000320000000075000000003c00000000320000000075000000003c00000000320000000075000000003c00000000320000000075000000003c00000000320000000075000000003c00000000320000000075000000003c00000000320000000075
noncomputable def lq_348 : List Nat := [0, 0, 0, 0, 0, nq_0, nq_1, nq_587, nq_588, nq_445]
noncomputable def Sq_333 : MG := [lq_348, lq_275, lq_271, lq_2, lq_1, lq_217, lq_1, lq_1]
noncomputable def nq_589 : Nat := nat_lit 0x1000000000000000000060000000014000000004a0000000000
noncomputable def nq_590 : Nat := nat_lit 0x75000000003c00000000320000000075000000003c00000000320000000075000000003c00000000320000000075000000003c00000000320000000075000000003c00000000320000000075000000003c00000000320000000075000000003c00000000320000000075000000003c00000000320000000075000000003c00000000320000000075000000003c00000000320000000075000000003c00000000320000000075000000003c00000000320000000075000000003c00000000320000000075000000003c00000000320000000075000000003c00000000320000000075000000003c00000000320000000075000000003c00000000320000000075000000003c00000000320000000075000000003c00000000320000000075000000003c00000000320000000075000000003c00000000320000000075000000003c00000000320000000075000000003c00000000320000000075000000003c00000000320000000075
noncomputable def lq_349 : List Nat := [0, 0, 0, 0, 0, nq_0, nq_1, nq_589, nq_590, nq_445]
noncomputable def Sq_334 : MG := [lq_349, lq_275, lq_271, lq_2, lq_1, lq_217, lq_1, lq_1]
noncomputable def nq_591 : Nat := nat_lit 0x1000000000000000000060000000014000000004b0000000000
noncomputable def nq_592 : Nat := nat_lit 0x320000000075000000003c00000000320000000075000000003c00000000320000000075000000003c00000000320000000075000000003c00000000320000000075000000003c00000000320000000075000000003c00000000320000000075000000003c00000000320000000075000000003c00000000320000000075000000003c00000000320000000075000000003c00000000320000000075000000003c00000000320000000075000000003c00000000320000000075000000003c00000000320000000075000000003c00000000320000000075000000003c00000000320000000075000000003c00000000320000000075000000003c00000000320000000075000000003c00000000320000000075000000003c00000000320000000075000000003c00000000320000000075000000003c00000000320000000075000000003c00000000320000000075000000003c00000000320000000075000000003c00000000320000000075
noncomputable def lq_350 : List Nat := [0, 0, 0, 0, 0, nq_0, nq_1, nq_591, nq_592, nq_445]
noncomputable def Sq_335 : MG := [lq_350, lq_275, lq_271, lq_2, lq_1, lq_217, lq_1, lq_1]
noncomputable def nq_593 : Nat := nat_lit 0x1000000000000000000060000000014000000004c0000000000
noncomputable def nq_594 : Nat := nat_lit 0x3c00000000320000000075000000003c00000000320000000075000000003c00000000320000000075000000003c00000000320000000075000000003c00000000320000000075000000003c00000000320000000075000000003c00000000320000000075000000003c00000000320000000075000000003c00000000320000000075000000003c00000000320000000075000000003c00000000320000000075000000003c00000000320000000075000000003c00000000320000000075000000003c00000000320000000075000000003c00000000320000000075000000003c00000000320000000075000000003c00000000320000000075000000003c00000000320000000075000000003c00000000320000000075000000003c00000000320000000075000000003c00000000320000000075000000003c00000000320000000075000000003c00000000320000000075000000003c00000000320000000075000000003c00000000320000000075
noncomputable def lq_351 : List Nat := [0, 0, 0, 0, 0, nq_0, nq_1, nq_593, nq_594, nq_445]
noncomputable def Sq_336 : MG := [lq_351, lq_275, lq_271, lq_2, lq_1, lq_217, lq_1, lq_1]
noncomputable def nq_595 : Nat := nat_lit 0x1000000000000000000060000000014000000004d0000000000
noncomputable def nq_596 : Nat := nat_lit 0x75000000003c00000000320000000075000000003c00000000320000000075000000003c00000000320000000075000000003c00000000320000000075000000003c00000000320000000075000000003c00000000320000000075000000003c00000000320000000075000000003c00000000320000000075000000003c00000000320000000075000000003c00000000320000000075000000003c00000000320000000075000000003c00000000320000000075000000003c00000000320000000075000000003c00000000320000000075000000003c00000000320000000075000000003c00000000320000000075000000003c00000000320000000075000000003c00000000320000000075000000003c00000000320000000075000000003c00000000320000000075000000003c00000000320000000075000000003c00000000320000000075000000003c00000000320000000075000000003c00000000320000000075000000003c00000000320000000075
noncomputable def lq_352 : List Nat := [0, 0, 0, 0, 0, nq_0, nq_1, nq_595, nq_596, nq_445]
noncomputable def Sq_337 : MG := [lq_352, lq_275, lq_271, lq_2, lq_1, lq_217, lq_1, lq_1]
noncomputable def nq_597 : Nat := nat_lit 0x1000000000000000000060000000014000000004e0000000000
noncomputable def nq_598 : Nat := nat_lit 0x320000000075000000003c00000000320000000075000000003c00000000320000000075000000003c00000000320000000075000000003c00000000320000000075000000003c00000000320000000075000000003c00000000320000000075000000003c00000000320000000075000000003c00000000320000000075000000003c00000000320000000075000000003c00000000320000000075000000003c00000000320000000075000000003c00000000320000000075000000003c00000000320000000075000000003c00000000320000000075000000003c00000000320000000075000000003c00000000320000000075000000003c00000000320000000075000000003c00000000320000000075000000003c00000000320000000075000000003c00000000320000000075000000003c00000000320000000075000000003c00000000320000000075000000003c00000000320000000075000000003c00000000320000000075000000003c00000000320000000075
noncomputable def lq_353 : List Nat := [0, 0, 0, 0, 0, nq_0, nq_1, nq_597, nq_598, nq_445]
noncomputable def Sq_338 : MG := [lq_353, lq_275, lq_271, lq_2, lq_1, lq_217, lq_1, lq_1]
noncomputable def nq_599 : Nat := nat_lit 0x1000000000000000000060000000014000000004f0000000000
noncomputable def nq_600 : Nat := nat_lit 0x3c00000000320000000075000000003c00000000320000000075000000003c00000000320000000075000000003c00000000320000000075000000003c00000000320000000075000000003c00000000320000000075000000003c00000000320000000075000000003c00000000320000000075000000003c00000000320000000075000000003c00000000320000000075000000003c00000000320000000075000000003c00000000320000000075000000003c00000000320000000075000000003c00000000320000000075000000003c00000000320000000075000000003c00000000320000000075000000003c00000000320000000075000000003c00000000320000000075000000003c00000000320000000075000000003c00000000320000000075000000003c00000000320000000075000000003c00000000320000000075000000003c00000000320000000075000000003c00000000320000000075000000003c00000000320000000075000000003c00000000320000000075
noncomputable def lq_354 : List Nat := [0, 0, 0, 0, 0, nq_0, nq_1, nq_599, nq_600, nq_445]
noncomputable def Sq_339 : MG := [lq_354, lq_275, lq_271, lq_2, lq_1, lq_217, lq_1, lq_1]
noncomputable def nq_601 : Nat := nat_lit 0x100000000000000000006000000001400000000500000000000
noncomputable def nq_602 : Nat := nat_lit 0x75000000003c00000000320000000075000000003c00000000320000000075000000003c00000000320000000075000000003c00000000320000000075000000003c00000000320000000075000000003c00000000320000000075000000003c00000000320000000075000000003c00000000320000000075000000003c00000000320000000075000000003c00000000320000000075000000003c00000000320000000075000000003c00000000320000000075000000003c00000000320000000075000000003c00000000320000000075000000003c00000000320000000075000000003c00000000320000000075000000003c00000000320000000075000000003c00000000320000000075000000003c00000000320000000075000000003c00000000320000000075000000003c00000000320000000075000000003c00000000320000000075000000003c00000000320000000075000000003c00000000320000000075000000003c00000000320000000075000000003c00000000320000000075
noncomputable def lq_355 : List Nat := [0, 0, 0, 0, 0, nq_0, nq_1, nq_601, nq_602, nq_445]
noncomputable def Sq_340 : MG := [lq_355, lq_275, lq_271, lq_2, lq_1, lq_217, lq_1, lq_1]
noncomputable def nq_603 : Nat := nat_lit 0x100000000000000000006000000001400000000510000000000
noncomputable def nq_604 : Nat := nat_lit 0x320000000075000000003c00000000320000000075000000003c00000000320000000075000000003c00000000320000000075000000003c00000000320000000075000000003c00000000320000000075000000003c00000000320000000075000000003c00000000320000000075000000003c00000000320000000075000000003c00000000320000000075000000003c00000000320000000075000000003c00000000320000000075000000003c00000000320000000075000000003c00000000320000000075000000003c00000000320000000075000000003c00000000320000000075000000003c00000000320000000075000000003c00000000320000000075000000003c00000000320000000075000000003c00000000320000000075000000003c00000000320000000075000000003c00000000320000000075000000003c00000000320000000075000000003c00000000320000000075000000003c00000000320000000075000000003c00000000320000000075000000003c00000000320000000075
noncomputable def lq_356 : List Nat := [0, 0, 0, 0, 0, nq_0, nq_1, nq_603, nq_604, nq_445]
noncomputable def Sq_341 : MG := [lq_356, lq_275, lq_271, lq_2, lq_1, lq_217, lq_1, lq_1]
noncomputable def nq_605 : Nat := nat_lit 0x200000000000000000007000000005100000000510000000000
noncomputable def nq_606 : Nat := nat_lit 0x100000000090000000048000000000c0000000002
noncomputable def lq_357 : List Nat := [0, 0, 0, 0, 0, nq_0, nq_1, nq_605, nq_604, nq_606]
noncomputable def Sq_342 : MG := [lq_357, lq_275, lq_271, lq_2, lq_1, lq_217, lq_1, lq_1]
noncomputable def nq_607 : Nat := nat_lit 0x200000000000000000007000000005100000000010000000000
noncomputable def lq_358 : List Nat := [0, 0, 0, 0, 0, nq_0, nq_1, nq_607, nq_604, nq_606]
noncomputable def Sq_343 : MG := [lq_358, lq_275, lq_271, lq_2, lq_1, lq_217, lq_1, lq_1]
noncomputable def nq_608 : Nat := nat_lit 0x200000000000000000007000000005100000000020000000000
noncomputable def nq_609 : Nat := nat_lit 0x320000000075000000003c00000000320000000075000000003c00000000320000000075000000003c00000000320000000075000000003c00000000320000000075000000003c00000000320000000075000000003c00000000320000000075000000003c00000000320000000075000000003c00000000320000000075000000003c00000000320000000075000000003c00000000320000000075000000003c00000000320000000075000000003c00000000320000000075000000003c00000000320000000075000000003c00000000320000000075000000003c00000000320000000075000000003c00000000320000000075000000003c00000000320000000075000000003c00000000320000000075000000003c00000000320000000075000000003c00000000320000000075000000003c00000000320000000075000000003c00000000320000000075000000003c00000000320000000075000000003c00000000320000000075000000003c00000000320000000075000000003c000000003200000003c1
noncomputable def lq_359 : List Nat := [0, 0, 0, 0, 0, nq_0, nq_1, nq_608, nq_609, nq_606]
noncomputable def Sq_344 : MG := [lq_359, lq_275, lq_271, lq_2, lq_1, lq_217, lq_1, lq_1]
noncomputable def nq_610 : Nat := nat_lit 0x200000000000100000000000000000100000000020000000000
noncomputable def lq_360 : List Nat := [0, 0, 0, 0, 0, nq_0, nq_1, nq_610, nq_609, nq_606]
noncomputable def Sq_345 : MG := [lq_360, lq_275, lq_271, lq_2, lq_1, lq_217, lq_1, lq_1]
noncomputable def nq_611 : Nat := nat_lit 0x200000000000100000000000000000100000000010000000000
noncomputable def lq_361 : List Nat := [0, 0, 0, 0, 0, nq_0, nq_1, nq_611, nq_609, nq_606]
noncomputable def Sq_346 : MG := [lq_361, lq_275, lq_271, lq_2, lq_1, lq_217, lq_1, lq_1]
theorem rm0_texts : RM v0 Sq_17 := rm_0 (by decide +kernel)
set_option maxRecDepth 100000 in
set_option maxHeartbeats 40000000 in
theorem run_texts {v : mC} (hK : KK v Sq_17) : TT 1 Sq_346 (b_L_texts v) := by
  unfold b_L_texts
  refine go_bd (c := 1) (S := Sq_21) ?_ (fun r_14 hr_1 K_2 => ?_)
  · unfold f_L_isError
    refine go_bd (c := 0) (S := Sq_17) (k_clearLetter  hK (by decide +kernel)) (fun r_1 hr_3 K_4 => ?_)
    refine go_n (by rw [hr_3] <;> decide +kernel) ?_
    refine go_bd (c := 1) (S := Sq_20) ?_ (fun r_9 hr_5 K_6 => ?_)
    · unfold f_L_types
      refine go_u2 (n := 8191) (a0 := 1) (qi_lit 1) (a1 := 56) (qi_lit 56) (fun self6 hs_9 x3_6 hl_7 x4_6 hl_8 => ?_)
      unfold L_L_types_6
      refine go_n (by rw [hl_8] <;> decide +kernel) ?_
      refine go_ltl (y := 0) (by rw [hl_8] <;> decide +kernel) (fun y18_1 hy_10 => ?_)
      refine go_n (by rw [hl_7] <;> decide +kernel) ?_
      refine go_p (by rw [hy_10] <;> decide +kernel) ?_
      rw [hs_9]
      refine go_u2 (n := 8190) (a0 := 1) (qi_lit 1) (a1 := 48) (show _ = nI 48 by rw [hl_8] <;> decide +kernel) (fun self6 hs_13 x3_6 hl_11 x4_6 hl_12 => ?_)
      unfold L_L_types_6
      refine go_n (by rw [hl_12] <;> decide +kernel) ?_
      refine go_ltl (y := 0) (by rw [hl_12] <;> decide +kernel) (fun y18_1 hy_14 => ?_)
      refine go_n (by rw [hl_11] <;> decide +kernel) ?_
      refine go_p (by rw [hy_14] <;> decide +kernel) ?_
      rw [hs_13]
      refine go_u2 (n := 8189) (a0 := 1) (qi_lit 1) (a1 := 40) (show _ = nI 40 by rw [hl_12] <;> decide +kernel) (fun self6 hs_17 x3_6 hl_15 x4_6 hl_16 => ?_)
      unfold L_L_types_6
      refine go_n (by rw [hl_16] <;> decide +kernel) ?_
      refine go_ltl (y := 0) (by rw [hl_16] <;> decide +kernel) (fun y18_1 hy_18 => ?_)
      refine go_n (by rw [hl_15] <;> decide +kernel) ?_
      refine go_p (by rw [hy_18] <;> decide +kernel) ?_
      rw [hs_17]
      refine go_u2 (n := 8188) (a0 := 1) (qi_lit 1) (a1 := 32) (show _ = nI 32 by rw [hl_16] <;> decide +kernel) (fun self6 hs_21 x3_6 hl_19 x4_6 hl_20 => ?_)
      unfold L_L_types_6
      refine go_n (by rw [hl_20] <;> decide +kernel) ?_
      refine go_ltl (y := 0) (by rw [hl_20] <;> decide +kernel) (fun y18_1 hy_22 => ?_)
      refine go_n (by rw [hl_19] <;> decide +kernel) ?_
      refine go_p (by rw [hy_22] <;> decide +kernel) ?_
      rw [hs_21]
      refine go_u2 (n := 8187) (a0 := 1) (qi_lit 1) (a1 := 24) (show _ = nI 24 by rw [hl_20] <;> decide +kernel) (fun self6 hs_25 x3_6 hl_23 x4_6 hl_24 => ?_)
      unfold L_L_types_6
      refine go_n (by rw [hl_24] <;> decide +kernel) ?_
      refine go_ltl (y := 0) (by rw [hl_24] <;> decide +kernel) (fun y18_1 hy_26 => ?_)
      refine go_n (by rw [hl_23] <;> decide +kernel) ?_
      refine go_p (by rw [hy_26] <;> decide +kernel) ?_
      rw [hs_25]
      refine go_u2 (n := 8186) (a0 := 1) (qi_lit 1) (a1 := 16) (show _ = nI 16 by rw [hl_24] <;> decide +kernel) (fun self6 hs_29 x3_6 hl_27 x4_6 hl_28 => ?_)
      unfold L_L_types_6
      refine go_n (by rw [hl_28] <;> decide +kernel) ?_
      refine go_ltl (y := 106) (by rw [hl_28] <;> decide +kernel) (fun y18_1 hy_30 => ?_)
      refine go_n (by rw [hl_27] <;> decide +kernel) ?_
      refine go_n (by rw [hy_30] <;> decide +kernel) ?_
      refine go_bd (c := 1) (S := Sq_18) (k_type (show _ = nI 106 by rw [hy_30] <;> decide +kernel) (Nat.le_of_ble_eq_true rfl) K_4 (by decide +kernel)) (fun r_35 hr_31 K_32 => ?_)
      refine go_n (by rw [hr_31] <;> decide +kernel) ?_
      rw [hs_29]
      refine go_u2 (n := 8185) (a0 := 1) (qi_lit 1) (a1 := 8) (show _ = nI 8 by rw [hl_28] <;> decide +kernel) (fun self6 hs_35 x3_6 hl_33 x4_6 hl_34 => ?_)
      unfold L_L_types_6
      refine go_n (by rw [hl_34] <;> decide +kernel) ?_
      refine go_ltl (y := 54) (by rw [hl_34] <;> decide +kernel) (fun y18_1 hy_36 => ?_)
      refine go_n (by rw [hl_33] <;> decide +kernel) ?_
      refine go_n (by rw [hy_36] <;> decide +kernel) ?_
      refine go_bd (c := 2) (S := Sq_19) (k_type (show _ = nI 54 by rw [hy_36] <;> decide +kernel) (Nat.le_of_ble_eq_true rfl) K_32 (by decide +kernel)) (fun r_35 hr_37 K_38 => ?_)
      refine go_n (by rw [hr_37] <;> decide +kernel) ?_
      rw [hs_35]
      refine go_u2 (n := 8184) (a0 := 1) (qi_lit 1) (a1 := 0) (show _ = nI 0 by rw [hl_34] <;> decide +kernel) (fun self6 hs_41 x3_6 hl_39 x4_6 hl_40 => ?_)
      unfold L_L_types_6
      refine go_n (by rw [hl_40] <;> decide +kernel) ?_
      refine go_ltl (y := 104) (by rw [hl_40] <;> decide +kernel) (fun y18_1 hy_42 => ?_)
      refine go_n (by rw [hl_39] <;> decide +kernel) ?_
      refine go_n (by rw [hy_42] <;> decide +kernel) ?_
      refine go_bd (c := 3) (S := Sq_20) (k_type (show _ = nI 104 by rw [hy_42] <;> decide +kernel) (Nat.le_of_ble_eq_true rfl) K_38 (by decide +kernel)) (fun r_35 hr_43 K_44 => ?_)
      refine go_n (by rw [hr_43] <;> decide +kernel) ?_
      rw [hs_41]
      refine go_u2 (n := 8183) (a0 := 1) (qi_lit 1) (a1 := 4294967288) (show _ = nI 4294967288 by rw [hl_40] <;> decide +kernel) (fun self6 hs_47 x3_6 hl_45 x4_6 hl_46 => ?_)
      unfold L_L_types_6
      refine go_p (by rw [hl_46] <;> decide +kernel) ?_
      refine go_z (c := 1) (by rw [hl_45] <;> decide +kernel) (by decide) ?_
      exact go_s hl_45 K_44
    refine go_n (by rw [hr_5] <;> decide +kernel) ?_
    refine go_bd (c := 1) (S := Sq_20) ?_ (fun r_17 hr_48 K_49 => ?_)
    · unfold f_L_types
      refine go_u2 (n := 8191) (a0 := 1) (qi_lit 1) (a1 := 56) (qi_lit 56) (fun self6 hs_52 x3_6 hl_50 x4_6 hl_51 => ?_)
      unfold L_L_types_6
      refine go_n (by rw [hl_51] <;> decide +kernel) ?_
      refine go_ltl (y := 0) (by rw [hl_51] <;> decide +kernel) (fun y18_1 hy_53 => ?_)
      refine go_n (by rw [hl_50] <;> decide +kernel) ?_
      refine go_p (by rw [hy_53] <;> decide +kernel) ?_
      rw [hs_52]
      refine go_u2 (n := 8190) (a0 := 1) (qi_lit 1) (a1 := 48) (show _ = nI 48 by rw [hl_51] <;> decide +kernel) (fun self6 hs_56 x3_6 hl_54 x4_6 hl_55 => ?_)
      unfold L_L_types_6
      refine go_n (by rw [hl_55] <;> decide +kernel) ?_
      refine go_ltl (y := 0) (by rw [hl_55] <;> decide +kernel) (fun y18_1 hy_57 => ?_)
      refine go_n (by rw [hl_54] <;> decide +kernel) ?_
      refine go_p (by rw [hy_57] <;> decide +kernel) ?_
      rw [hs_56]
      refine go_u2 (n := 8189) (a0 := 1) (qi_lit 1) (a1 := 40) (show _ = nI 40 by rw [hl_55] <;> decide +kernel) (fun self6 hs_60 x3_6 hl_58 x4_6 hl_59 => ?_)
      unfold L_L_types_6
      refine go_n (by rw [hl_59] <;> decide +kernel) ?_
      refine go_ltl (y := 0) (by rw [hl_59] <;> decide +kernel) (fun y18_1 hy_61 => ?_)
      refine go_n (by rw [hl_58] <;> decide +kernel) ?_
      refine go_p (by rw [hy_61] <;> decide +kernel) ?_
      rw [hs_60]
      refine go_u2 (n := 8188) (a0 := 1) (qi_lit 1) (a1 := 32) (show _ = nI 32 by rw [hl_59] <;> decide +kernel) (fun self6 hs_64 x3_6 hl_62 x4_6 hl_63 => ?_)
      unfold L_L_types_6
      refine go_n (by rw [hl_63] <;> decide +kernel) ?_
      refine go_ltl (y := 0) (by rw [hl_63] <;> decide +kernel) (fun y18_1 hy_65 => ?_)
      refine go_n (by rw [hl_62] <;> decide +kernel) ?_
      refine go_p (by rw [hy_65] <;> decide +kernel) ?_
      rw [hs_64]
      refine go_u2 (n := 8187) (a0 := 1) (qi_lit 1) (a1 := 24) (show _ = nI 24 by rw [hl_63] <;> decide +kernel) (fun self6 hs_68 x3_6 hl_66 x4_6 hl_67 => ?_)
      unfold L_L_types_6
      refine go_n (by rw [hl_67] <;> decide +kernel) ?_
      refine go_ltl (y := 0) (by rw [hl_67] <;> decide +kernel) (fun y18_1 hy_69 => ?_)
      refine go_n (by rw [hl_66] <;> decide +kernel) ?_
      refine go_p (by rw [hy_69] <;> decide +kernel) ?_
      rw [hs_68]
      refine go_u2 (n := 8186) (a0 := 1) (qi_lit 1) (a1 := 16) (show _ = nI 16 by rw [hl_67] <;> decide +kernel) (fun self6 hs_72 x3_6 hl_70 x4_6 hl_71 => ?_)
      unfold L_L_types_6
      refine go_n (by rw [hl_71] <;> decide +kernel) ?_
      refine go_ltl (y := 0) (by rw [hl_71] <;> decide +kernel) (fun y18_1 hy_73 => ?_)
      refine go_n (by rw [hl_70] <;> decide +kernel) ?_
      refine go_p (by rw [hy_73] <;> decide +kernel) ?_
      rw [hs_72]
      refine go_u2 (n := 8185) (a0 := 1) (qi_lit 1) (a1 := 8) (show _ = nI 8 by rw [hl_71] <;> decide +kernel) (fun self6 hs_76 x3_6 hl_74 x4_6 hl_75 => ?_)
      unfold L_L_types_6
      refine go_n (by rw [hl_75] <;> decide +kernel) ?_
      refine go_ltl (y := 0) (by rw [hl_75] <;> decide +kernel) (fun y18_1 hy_77 => ?_)
      refine go_n (by rw [hl_74] <;> decide +kernel) ?_
      refine go_p (by rw [hy_77] <;> decide +kernel) ?_
      rw [hs_76]
      refine go_u2 (n := 8184) (a0 := 1) (qi_lit 1) (a1 := 0) (show _ = nI 0 by rw [hl_75] <;> decide +kernel) (fun self6 hs_80 x3_6 hl_78 x4_6 hl_79 => ?_)
      unfold L_L_types_6
      refine go_n (by rw [hl_79] <;> decide +kernel) ?_
      refine go_ltl (y := 0) (by rw [hl_79] <;> decide +kernel) (fun y18_1 hy_81 => ?_)
      refine go_n (by rw [hl_78] <;> decide +kernel) ?_
      refine go_p (by rw [hy_81] <;> decide +kernel) ?_
      rw [hs_80]
      refine go_u2 (n := 8183) (a0 := 1) (qi_lit 1) (a1 := 4294967288) (show _ = nI 4294967288 by rw [hl_79] <;> decide +kernel) (fun self6 hs_84 x3_6 hl_82 x4_6 hl_83 => ?_)
      unfold L_L_types_6
      refine go_p (by rw [hl_83] <;> decide +kernel) ?_
      refine go_z (c := 1) (by rw [hl_82] <;> decide +kernel) (by decide) ?_
      exact go_s hl_82 K_6
    refine go_n (by rw [hr_48] <;> decide +kernel) ?_
    refine go_bd (c := 2) (S := Sq_21) (k_letterError  K_49 (by decide +kernel)) (fun r_24 hr_85 K_86 => ?_)
    refine go_p (by rw [hr_85] <;> decide +kernel) ?_
    refine go_z1 ?_
    exact go_s (qi_lit 1) K_86
  refine go_n (by rw [hr_1] <;> decide +kernel) ?_
  refine go_bd (c := 1) (S := Sq_26) ?_ (fun r_26 hr_87 K_88 => ?_)
  · unfold f_L_isError
    refine go_bd (c := 3) (S := Sq_22) (k_clearLetter  K_2 (by decide +kernel)) (fun r_1 hr_89 K_90 => ?_)
    refine go_n (by rw [hr_89] <;> decide +kernel) ?_
    refine go_bd (c := 1) (S := Sq_25) ?_ (fun r_9 hr_91 K_92 => ?_)
    · unfold f_L_types
      refine go_u2 (n := 8191) (a0 := 1) (qi_lit 1) (a1 := 56) (qi_lit 56) (fun self6 hs_95 x3_6 hl_93 x4_6 hl_94 => ?_)
      unfold L_L_types_6
      refine go_n (by rw [hl_94] <;> decide +kernel) ?_
      refine go_ltl (y := 0) (by rw [hl_94] <;> decide +kernel) (fun y18_1 hy_96 => ?_)
      refine go_n (by rw [hl_93] <;> decide +kernel) ?_
      refine go_p (by rw [hy_96] <;> decide +kernel) ?_
      rw [hs_95]
      refine go_u2 (n := 8190) (a0 := 1) (qi_lit 1) (a1 := 48) (show _ = nI 48 by rw [hl_94] <;> decide +kernel) (fun self6 hs_99 x3_6 hl_97 x4_6 hl_98 => ?_)
      unfold L_L_types_6
      refine go_n (by rw [hl_98] <;> decide +kernel) ?_
      refine go_ltl (y := 0) (by rw [hl_98] <;> decide +kernel) (fun y18_1 hy_100 => ?_)
      refine go_n (by rw [hl_97] <;> decide +kernel) ?_
      refine go_p (by rw [hy_100] <;> decide +kernel) ?_
      rw [hs_99]
      refine go_u2 (n := 8189) (a0 := 1) (qi_lit 1) (a1 := 40) (show _ = nI 40 by rw [hl_98] <;> decide +kernel) (fun self6 hs_103 x3_6 hl_101 x4_6 hl_102 => ?_)
      unfold L_L_types_6
      refine go_n (by rw [hl_102] <;> decide +kernel) ?_
      refine go_ltl (y := 0) (by rw [hl_102] <;> decide +kernel) (fun y18_1 hy_104 => ?_)
      refine go_n (by rw [hl_101] <;> decide +kernel) ?_
      refine go_p (by rw [hy_104] <;> decide +kernel) ?_
      rw [hs_103]
      refine go_u2 (n := 8188) (a0 := 1) (qi_lit 1) (a1 := 32) (show _ = nI 32 by rw [hl_102] <;> decide +kernel) (fun self6 hs_107 x3_6 hl_105 x4_6 hl_106 => ?_)
      unfold L_L_types_6
      refine go_n (by rw [hl_106] <;> decide +kernel) ?_
      refine go_ltl (y := 0) (by rw [hl_106] <;> decide +kernel) (fun y18_1 hy_108 => ?_)
      refine go_n (by rw [hl_105] <;> decide +kernel) ?_
      refine go_p (by rw [hy_108] <;> decide +kernel) ?_
      rw [hs_107]
      refine go_u2 (n := 8187) (a0 := 1) (qi_lit 1) (a1 := 24) (show _ = nI 24 by rw [hl_106] <;> decide +kernel) (fun self6 hs_111 x3_6 hl_109 x4_6 hl_110 => ?_)
      unfold L_L_types_6
      refine go_n (by rw [hl_110] <;> decide +kernel) ?_
      refine go_ltl (y := 0) (by rw [hl_110] <;> decide +kernel) (fun y18_1 hy_112 => ?_)
      refine go_n (by rw [hl_109] <;> decide +kernel) ?_
      refine go_p (by rw [hy_112] <;> decide +kernel) ?_
      rw [hs_111]
      refine go_u2 (n := 8186) (a0 := 1) (qi_lit 1) (a1 := 16) (show _ = nI 16 by rw [hl_110] <;> decide +kernel) (fun self6 hs_115 x3_6 hl_113 x4_6 hl_114 => ?_)
      unfold L_L_types_6
      refine go_n (by rw [hl_114] <;> decide +kernel) ?_
      refine go_ltl (y := 106) (by rw [hl_114] <;> decide +kernel) (fun y18_1 hy_116 => ?_)
      refine go_n (by rw [hl_113] <;> decide +kernel) ?_
      refine go_n (by rw [hy_116] <;> decide +kernel) ?_
      refine go_bd (c := 1) (S := Sq_23) (k_type (show _ = nI 106 by rw [hy_116] <;> decide +kernel) (Nat.le_of_ble_eq_true rfl) K_90 (by decide +kernel)) (fun r_35 hr_117 K_118 => ?_)
      refine go_n (by rw [hr_117] <;> decide +kernel) ?_
      rw [hs_115]
      refine go_u2 (n := 8185) (a0 := 1) (qi_lit 1) (a1 := 8) (show _ = nI 8 by rw [hl_114] <;> decide +kernel) (fun self6 hs_121 x3_6 hl_119 x4_6 hl_120 => ?_)
      unfold L_L_types_6
      refine go_n (by rw [hl_120] <;> decide +kernel) ?_
      refine go_ltl (y := 55) (by rw [hl_120] <;> decide +kernel) (fun y18_1 hy_122 => ?_)
      refine go_n (by rw [hl_119] <;> decide +kernel) ?_
      refine go_n (by rw [hy_122] <;> decide +kernel) ?_
      refine go_bd (c := 2) (S := Sq_24) (k_type (show _ = nI 55 by rw [hy_122] <;> decide +kernel) (Nat.le_of_ble_eq_true rfl) K_118 (by decide +kernel)) (fun r_35 hr_123 K_124 => ?_)
      refine go_n (by rw [hr_123] <;> decide +kernel) ?_
      rw [hs_121]
      refine go_u2 (n := 8184) (a0 := 1) (qi_lit 1) (a1 := 0) (show _ = nI 0 by rw [hl_120] <;> decide +kernel) (fun self6 hs_127 x3_6 hl_125 x4_6 hl_126 => ?_)
      unfold L_L_types_6
      refine go_n (by rw [hl_126] <;> decide +kernel) ?_
      refine go_ltl (y := 104) (by rw [hl_126] <;> decide +kernel) (fun y18_1 hy_128 => ?_)
      refine go_n (by rw [hl_125] <;> decide +kernel) ?_
      refine go_n (by rw [hy_128] <;> decide +kernel) ?_
      refine go_bd (c := 3) (S := Sq_25) (k_type (show _ = nI 104 by rw [hy_128] <;> decide +kernel) (Nat.le_of_ble_eq_true rfl) K_124 (by decide +kernel)) (fun r_35 hr_129 K_130 => ?_)
      refine go_n (by rw [hr_129] <;> decide +kernel) ?_
      rw [hs_127]
      refine go_u2 (n := 8183) (a0 := 1) (qi_lit 1) (a1 := 4294967288) (show _ = nI 4294967288 by rw [hl_126] <;> decide +kernel) (fun self6 hs_133 x3_6 hl_131 x4_6 hl_132 => ?_)
      unfold L_L_types_6
      refine go_p (by rw [hl_132] <;> decide +kernel) ?_
      refine go_z (c := 1) (by rw [hl_131] <;> decide +kernel) (by decide) ?_
      exact go_s hl_131 K_130
    refine go_n (by rw [hr_91] <;> decide +kernel) ?_
    refine go_bd (c := 1) (S := Sq_25) ?_ (fun r_17 hr_134 K_135 => ?_)
    · unfold f_L_types
      refine go_u2 (n := 8191) (a0 := 1) (qi_lit 1) (a1 := 56) (qi_lit 56) (fun self6 hs_138 x3_6 hl_136 x4_6 hl_137 => ?_)
      unfold L_L_types_6
      refine go_n (by rw [hl_137] <;> decide +kernel) ?_
      refine go_ltl (y := 0) (by rw [hl_137] <;> decide +kernel) (fun y18_1 hy_139 => ?_)
      refine go_n (by rw [hl_136] <;> decide +kernel) ?_
      refine go_p (by rw [hy_139] <;> decide +kernel) ?_
      rw [hs_138]
      refine go_u2 (n := 8190) (a0 := 1) (qi_lit 1) (a1 := 48) (show _ = nI 48 by rw [hl_137] <;> decide +kernel) (fun self6 hs_142 x3_6 hl_140 x4_6 hl_141 => ?_)
      unfold L_L_types_6
      refine go_n (by rw [hl_141] <;> decide +kernel) ?_
      refine go_ltl (y := 0) (by rw [hl_141] <;> decide +kernel) (fun y18_1 hy_143 => ?_)
      refine go_n (by rw [hl_140] <;> decide +kernel) ?_
      refine go_p (by rw [hy_143] <;> decide +kernel) ?_
      rw [hs_142]
      refine go_u2 (n := 8189) (a0 := 1) (qi_lit 1) (a1 := 40) (show _ = nI 40 by rw [hl_141] <;> decide +kernel) (fun self6 hs_146 x3_6 hl_144 x4_6 hl_145 => ?_)
      unfold L_L_types_6
      refine go_n (by rw [hl_145] <;> decide +kernel) ?_
      refine go_ltl (y := 0) (by rw [hl_145] <;> decide +kernel) (fun y18_1 hy_147 => ?_)
      refine go_n (by rw [hl_144] <;> decide +kernel) ?_
      refine go_p (by rw [hy_147] <;> decide +kernel) ?_
      rw [hs_146]
      refine go_u2 (n := 8188) (a0 := 1) (qi_lit 1) (a1 := 32) (show _ = nI 32 by rw [hl_145] <;> decide +kernel) (fun self6 hs_150 x3_6 hl_148 x4_6 hl_149 => ?_)
      unfold L_L_types_6
      refine go_n (by rw [hl_149] <;> decide +kernel) ?_
      refine go_ltl (y := 0) (by rw [hl_149] <;> decide +kernel) (fun y18_1 hy_151 => ?_)
      refine go_n (by rw [hl_148] <;> decide +kernel) ?_
      refine go_p (by rw [hy_151] <;> decide +kernel) ?_
      rw [hs_150]
      refine go_u2 (n := 8187) (a0 := 1) (qi_lit 1) (a1 := 24) (show _ = nI 24 by rw [hl_149] <;> decide +kernel) (fun self6 hs_154 x3_6 hl_152 x4_6 hl_153 => ?_)
      unfold L_L_types_6
      refine go_n (by rw [hl_153] <;> decide +kernel) ?_
      refine go_ltl (y := 0) (by rw [hl_153] <;> decide +kernel) (fun y18_1 hy_155 => ?_)
      refine go_n (by rw [hl_152] <;> decide +kernel) ?_
      refine go_p (by rw [hy_155] <;> decide +kernel) ?_
      rw [hs_154]
      refine go_u2 (n := 8186) (a0 := 1) (qi_lit 1) (a1 := 16) (show _ = nI 16 by rw [hl_153] <;> decide +kernel) (fun self6 hs_158 x3_6 hl_156 x4_6 hl_157 => ?_)
      unfold L_L_types_6
      refine go_n (by rw [hl_157] <;> decide +kernel) ?_
      refine go_ltl (y := 0) (by rw [hl_157] <;> decide +kernel) (fun y18_1 hy_159 => ?_)
      refine go_n (by rw [hl_156] <;> decide +kernel) ?_
      refine go_p (by rw [hy_159] <;> decide +kernel) ?_
      rw [hs_158]
      refine go_u2 (n := 8185) (a0 := 1) (qi_lit 1) (a1 := 8) (show _ = nI 8 by rw [hl_157] <;> decide +kernel) (fun self6 hs_162 x3_6 hl_160 x4_6 hl_161 => ?_)
      unfold L_L_types_6
      refine go_n (by rw [hl_161] <;> decide +kernel) ?_
      refine go_ltl (y := 0) (by rw [hl_161] <;> decide +kernel) (fun y18_1 hy_163 => ?_)
      refine go_n (by rw [hl_160] <;> decide +kernel) ?_
      refine go_p (by rw [hy_163] <;> decide +kernel) ?_
      rw [hs_162]
      refine go_u2 (n := 8184) (a0 := 1) (qi_lit 1) (a1 := 0) (show _ = nI 0 by rw [hl_161] <;> decide +kernel) (fun self6 hs_166 x3_6 hl_164 x4_6 hl_165 => ?_)
      unfold L_L_types_6
      refine go_n (by rw [hl_165] <;> decide +kernel) ?_
      refine go_ltl (y := 0) (by rw [hl_165] <;> decide +kernel) (fun y18_1 hy_167 => ?_)
      refine go_n (by rw [hl_164] <;> decide +kernel) ?_
      refine go_p (by rw [hy_167] <;> decide +kernel) ?_
      rw [hs_166]
      refine go_u2 (n := 8183) (a0 := 1) (qi_lit 1) (a1 := 4294967288) (show _ = nI 4294967288 by rw [hl_165] <;> decide +kernel) (fun self6 hs_170 x3_6 hl_168 x4_6 hl_169 => ?_)
      unfold L_L_types_6
      refine go_p (by rw [hl_169] <;> decide +kernel) ?_
      refine go_z (c := 1) (by rw [hl_168] <;> decide +kernel) (by decide) ?_
      exact go_s hl_168 K_92
    refine go_n (by rw [hr_134] <;> decide +kernel) ?_
    refine go_bd (c := 3) (S := Sq_26) (k_letterError  K_135 (by decide +kernel)) (fun r_24 hr_171 K_172 => ?_)
    refine go_p (by rw [hr_171] <;> decide +kernel) ?_
    refine go_z1 ?_
    exact go_s (qi_lit 1) K_172
  refine go_n (by rw [hr_87] <;> decide +kernel) ?_
  refine go_bd (c := 1) (S := Sq_31) ?_ (fun r_38 hr_173 K_174 => ?_)
  · unfold f_L_isError
    refine go_bd (c := 3) (S := Sq_27) (k_clearLetter  K_88 (by decide +kernel)) (fun r_1 hr_175 K_176 => ?_)
    refine go_n (by rw [hr_175] <;> decide +kernel) ?_
    refine go_bd (c := 1) (S := Sq_30) ?_ (fun r_9 hr_177 K_178 => ?_)
    · unfold f_L_types
      refine go_u2 (n := 8191) (a0 := 1) (qi_lit 1) (a1 := 56) (qi_lit 56) (fun self6 hs_181 x3_6 hl_179 x4_6 hl_180 => ?_)
      unfold L_L_types_6
      refine go_n (by rw [hl_180] <;> decide +kernel) ?_
      refine go_ltl (y := 0) (by rw [hl_180] <;> decide +kernel) (fun y18_1 hy_182 => ?_)
      refine go_n (by rw [hl_179] <;> decide +kernel) ?_
      refine go_p (by rw [hy_182] <;> decide +kernel) ?_
      rw [hs_181]
      refine go_u2 (n := 8190) (a0 := 1) (qi_lit 1) (a1 := 48) (show _ = nI 48 by rw [hl_180] <;> decide +kernel) (fun self6 hs_185 x3_6 hl_183 x4_6 hl_184 => ?_)
      unfold L_L_types_6
      refine go_n (by rw [hl_184] <;> decide +kernel) ?_
      refine go_ltl (y := 0) (by rw [hl_184] <;> decide +kernel) (fun y18_1 hy_186 => ?_)
      refine go_n (by rw [hl_183] <;> decide +kernel) ?_
      refine go_p (by rw [hy_186] <;> decide +kernel) ?_
      rw [hs_185]
      refine go_u2 (n := 8189) (a0 := 1) (qi_lit 1) (a1 := 40) (show _ = nI 40 by rw [hl_184] <;> decide +kernel) (fun self6 hs_189 x3_6 hl_187 x4_6 hl_188 => ?_)
      unfold L_L_types_6
      refine go_n (by rw [hl_188] <;> decide +kernel) ?_
      refine go_ltl (y := 0) (by rw [hl_188] <;> decide +kernel) (fun y18_1 hy_190 => ?_)
      refine go_n (by rw [hl_187] <;> decide +kernel) ?_
      refine go_p (by rw [hy_190] <;> decide +kernel) ?_
      rw [hs_189]
      refine go_u2 (n := 8188) (a0 := 1) (qi_lit 1) (a1 := 32) (show _ = nI 32 by rw [hl_188] <;> decide +kernel) (fun self6 hs_193 x3_6 hl_191 x4_6 hl_192 => ?_)
      unfold L_L_types_6
      refine go_n (by rw [hl_192] <;> decide +kernel) ?_
      refine go_ltl (y := 0) (by rw [hl_192] <;> decide +kernel) (fun y18_1 hy_194 => ?_)
      refine go_n (by rw [hl_191] <;> decide +kernel) ?_
      refine go_p (by rw [hy_194] <;> decide +kernel) ?_
      rw [hs_193]
      refine go_u2 (n := 8187) (a0 := 1) (qi_lit 1) (a1 := 24) (show _ = nI 24 by rw [hl_192] <;> decide +kernel) (fun self6 hs_197 x3_6 hl_195 x4_6 hl_196 => ?_)
      unfold L_L_types_6
      refine go_n (by rw [hl_196] <;> decide +kernel) ?_
      refine go_ltl (y := 0) (by rw [hl_196] <;> decide +kernel) (fun y18_1 hy_198 => ?_)
      refine go_n (by rw [hl_195] <;> decide +kernel) ?_
      refine go_p (by rw [hy_198] <;> decide +kernel) ?_
      rw [hs_197]
      refine go_u2 (n := 8186) (a0 := 1) (qi_lit 1) (a1 := 16) (show _ = nI 16 by rw [hl_196] <;> decide +kernel) (fun self6 hs_201 x3_6 hl_199 x4_6 hl_200 => ?_)
      unfold L_L_types_6
      refine go_n (by rw [hl_200] <;> decide +kernel) ?_
      refine go_ltl (y := 106) (by rw [hl_200] <;> decide +kernel) (fun y18_1 hy_202 => ?_)
      refine go_n (by rw [hl_199] <;> decide +kernel) ?_
      refine go_n (by rw [hy_202] <;> decide +kernel) ?_
      refine go_bd (c := 1) (S := Sq_28) (k_type (show _ = nI 106 by rw [hy_202] <;> decide +kernel) (Nat.le_of_ble_eq_true rfl) K_176 (by decide +kernel)) (fun r_35 hr_203 K_204 => ?_)
      refine go_n (by rw [hr_203] <;> decide +kernel) ?_
      rw [hs_201]
      refine go_u2 (n := 8185) (a0 := 1) (qi_lit 1) (a1 := 8) (show _ = nI 8 by rw [hl_200] <;> decide +kernel) (fun self6 hs_207 x3_6 hl_205 x4_6 hl_206 => ?_)
      unfold L_L_types_6
      refine go_n (by rw [hl_206] <;> decide +kernel) ?_
      refine go_ltl (y := 55) (by rw [hl_206] <;> decide +kernel) (fun y18_1 hy_208 => ?_)
      refine go_n (by rw [hl_205] <;> decide +kernel) ?_
      refine go_n (by rw [hy_208] <;> decide +kernel) ?_
      refine go_bd (c := 2) (S := Sq_29) (k_type (show _ = nI 55 by rw [hy_208] <;> decide +kernel) (Nat.le_of_ble_eq_true rfl) K_204 (by decide +kernel)) (fun r_35 hr_209 K_210 => ?_)
      refine go_n (by rw [hr_209] <;> decide +kernel) ?_
      rw [hs_207]
      refine go_u2 (n := 8184) (a0 := 1) (qi_lit 1) (a1 := 0) (show _ = nI 0 by rw [hl_206] <;> decide +kernel) (fun self6 hs_213 x3_6 hl_211 x4_6 hl_212 => ?_)
      unfold L_L_types_6
      refine go_n (by rw [hl_212] <;> decide +kernel) ?_
      refine go_ltl (y := 49) (by rw [hl_212] <;> decide +kernel) (fun y18_1 hy_214 => ?_)
      refine go_n (by rw [hl_211] <;> decide +kernel) ?_
      refine go_n (by rw [hy_214] <;> decide +kernel) ?_
      refine go_bd (c := 3) (S := Sq_30) (k_type (show _ = nI 49 by rw [hy_214] <;> decide +kernel) (Nat.le_of_ble_eq_true rfl) K_210 (by decide +kernel)) (fun r_35 hr_215 K_216 => ?_)
      refine go_n (by rw [hr_215] <;> decide +kernel) ?_
      rw [hs_213]
      refine go_u2 (n := 8183) (a0 := 1) (qi_lit 1) (a1 := 4294967288) (show _ = nI 4294967288 by rw [hl_212] <;> decide +kernel) (fun self6 hs_219 x3_6 hl_217 x4_6 hl_218 => ?_)
      unfold L_L_types_6
      refine go_p (by rw [hl_218] <;> decide +kernel) ?_
      refine go_z (c := 1) (by rw [hl_217] <;> decide +kernel) (by decide) ?_
      exact go_s hl_217 K_216
    refine go_n (by rw [hr_177] <;> decide +kernel) ?_
    refine go_bd (c := 1) (S := Sq_30) ?_ (fun r_17 hr_220 K_221 => ?_)
    · unfold f_L_types
      refine go_u2 (n := 8191) (a0 := 1) (qi_lit 1) (a1 := 56) (qi_lit 56) (fun self6 hs_224 x3_6 hl_222 x4_6 hl_223 => ?_)
      unfold L_L_types_6
      refine go_n (by rw [hl_223] <;> decide +kernel) ?_
      refine go_ltl (y := 0) (by rw [hl_223] <;> decide +kernel) (fun y18_1 hy_225 => ?_)
      refine go_n (by rw [hl_222] <;> decide +kernel) ?_
      refine go_p (by rw [hy_225] <;> decide +kernel) ?_
      rw [hs_224]
      refine go_u2 (n := 8190) (a0 := 1) (qi_lit 1) (a1 := 48) (show _ = nI 48 by rw [hl_223] <;> decide +kernel) (fun self6 hs_228 x3_6 hl_226 x4_6 hl_227 => ?_)
      unfold L_L_types_6
      refine go_n (by rw [hl_227] <;> decide +kernel) ?_
      refine go_ltl (y := 0) (by rw [hl_227] <;> decide +kernel) (fun y18_1 hy_229 => ?_)
      refine go_n (by rw [hl_226] <;> decide +kernel) ?_
      refine go_p (by rw [hy_229] <;> decide +kernel) ?_
      rw [hs_228]
      refine go_u2 (n := 8189) (a0 := 1) (qi_lit 1) (a1 := 40) (show _ = nI 40 by rw [hl_227] <;> decide +kernel) (fun self6 hs_232 x3_6 hl_230 x4_6 hl_231 => ?_)
      unfold L_L_types_6
      refine go_n (by rw [hl_231] <;> decide +kernel) ?_
      refine go_ltl (y := 0) (by rw [hl_231] <;> decide +kernel) (fun y18_1 hy_233 => ?_)
      refine go_n (by rw [hl_230] <;> decide +kernel) ?_
      refine go_p (by rw [hy_233] <;> decide +kernel) ?_
      rw [hs_232]
      refine go_u2 (n := 8188) (a0 := 1) (qi_lit 1) (a1 := 32) (show _ = nI 32 by rw [hl_231] <;> decide +kernel) (fun self6 hs_236 x3_6 hl_234 x4_6 hl_235 => ?_)
      unfold L_L_types_6
      refine go_n (by rw [hl_235] <;> decide +kernel) ?_
      refine go_ltl (y := 0) (by rw [hl_235] <;> decide +kernel) (fun y18_1 hy_237 => ?_)
      refine go_n (by rw [hl_234] <;> decide +kernel) ?_
      refine go_p (by rw [hy_237] <;> decide +kernel) ?_
      rw [hs_236]
      refine go_u2 (n := 8187) (a0 := 1) (qi_lit 1) (a1 := 24) (show _ = nI 24 by rw [hl_235] <;> decide +kernel) (fun self6 hs_240 x3_6 hl_238 x4_6 hl_239 => ?_)
      unfold L_L_types_6
      refine go_n (by rw [hl_239] <;> decide +kernel) ?_
      refine go_ltl (y := 0) (by rw [hl_239] <;> decide +kernel) (fun y18_1 hy_241 => ?_)
      refine go_n (by rw [hl_238] <;> decide +kernel) ?_
      refine go_p (by rw [hy_241] <;> decide +kernel) ?_
      rw [hs_240]
      refine go_u2 (n := 8186) (a0 := 1) (qi_lit 1) (a1 := 16) (show _ = nI 16 by rw [hl_239] <;> decide +kernel) (fun self6 hs_244 x3_6 hl_242 x4_6 hl_243 => ?_)
      unfold L_L_types_6
      refine go_n (by rw [hl_243] <;> decide +kernel) ?_
      refine go_ltl (y := 0) (by rw [hl_243] <;> decide +kernel) (fun y18_1 hy_245 => ?_)
      refine go_n (by rw [hl_242] <;> decide +kernel) ?_
      refine go_p (by rw [hy_245] <;> decide +kernel) ?_
      rw [hs_244]
      refine go_u2 (n := 8185) (a0 := 1) (qi_lit 1) (a1 := 8) (show _ = nI 8 by rw [hl_243] <;> decide +kernel) (fun self6 hs_248 x3_6 hl_246 x4_6 hl_247 => ?_)
      unfold L_L_types_6
      refine go_n (by rw [hl_247] <;> decide +kernel) ?_
      refine go_ltl (y := 0) (by rw [hl_247] <;> decide +kernel) (fun y18_1 hy_249 => ?_)
      refine go_n (by rw [hl_246] <;> decide +kernel) ?_
      refine go_p (by rw [hy_249] <;> decide +kernel) ?_
      rw [hs_248]
      refine go_u2 (n := 8184) (a0 := 1) (qi_lit 1) (a1 := 0) (show _ = nI 0 by rw [hl_247] <;> decide +kernel) (fun self6 hs_252 x3_6 hl_250 x4_6 hl_251 => ?_)
      unfold L_L_types_6
      refine go_n (by rw [hl_251] <;> decide +kernel) ?_
      refine go_ltl (y := 0) (by rw [hl_251] <;> decide +kernel) (fun y18_1 hy_253 => ?_)
      refine go_n (by rw [hl_250] <;> decide +kernel) ?_
      refine go_p (by rw [hy_253] <;> decide +kernel) ?_
      rw [hs_252]
      refine go_u2 (n := 8183) (a0 := 1) (qi_lit 1) (a1 := 4294967288) (show _ = nI 4294967288 by rw [hl_251] <;> decide +kernel) (fun self6 hs_256 x3_6 hl_254 x4_6 hl_255 => ?_)
      unfold L_L_types_6
      refine go_p (by rw [hl_255] <;> decide +kernel) ?_
      refine go_z (c := 1) (by rw [hl_254] <;> decide +kernel) (by decide) ?_
      exact go_s hl_254 K_178
    refine go_n (by rw [hr_220] <;> decide +kernel) ?_
    refine go_bd (c := 2) (S := Sq_31) (k_letterError  K_221 (by decide +kernel)) (fun r_24 hr_257 K_258 => ?_)
    refine go_p (by rw [hr_257] <;> decide +kernel) ?_
    refine go_z1 ?_
    exact go_s (qi_lit 1) K_258
  refine go_n (by rw [hr_173] <;> decide +kernel) ?_
  refine go_bd (c := 1) (S := Sq_35) ?_ (fun r_50 hr_259 K_260 => ?_)
  · unfold f_L_isError
    refine go_bd (c := 3) (S := Sq_32) (k_clearLetter  K_174 (by decide +kernel)) (fun r_1 hr_261 K_262 => ?_)
    refine go_n (by rw [hr_261] <;> decide +kernel) ?_
    refine go_bd (c := 1) (S := Sq_34) ?_ (fun r_9 hr_263 K_264 => ?_)
    · unfold f_L_types
      refine go_u2 (n := 8191) (a0 := 1) (qi_lit 1) (a1 := 56) (qi_lit 56) (fun self6 hs_267 x3_6 hl_265 x4_6 hl_266 => ?_)
      unfold L_L_types_6
      refine go_n (by rw [hl_266] <;> decide +kernel) ?_
      refine go_ltl (y := 0) (by rw [hl_266] <;> decide +kernel) (fun y18_1 hy_268 => ?_)
      refine go_n (by rw [hl_265] <;> decide +kernel) ?_
      refine go_p (by rw [hy_268] <;> decide +kernel) ?_
      rw [hs_267]
      refine go_u2 (n := 8190) (a0 := 1) (qi_lit 1) (a1 := 48) (show _ = nI 48 by rw [hl_266] <;> decide +kernel) (fun self6 hs_271 x3_6 hl_269 x4_6 hl_270 => ?_)
      unfold L_L_types_6
      refine go_n (by rw [hl_270] <;> decide +kernel) ?_
      refine go_ltl (y := 0) (by rw [hl_270] <;> decide +kernel) (fun y18_1 hy_272 => ?_)
      refine go_n (by rw [hl_269] <;> decide +kernel) ?_
      refine go_p (by rw [hy_272] <;> decide +kernel) ?_
      rw [hs_271]
      refine go_u2 (n := 8189) (a0 := 1) (qi_lit 1) (a1 := 40) (show _ = nI 40 by rw [hl_270] <;> decide +kernel) (fun self6 hs_275 x3_6 hl_273 x4_6 hl_274 => ?_)
      unfold L_L_types_6
      refine go_n (by rw [hl_274] <;> decide +kernel) ?_
      refine go_ltl (y := 0) (by rw [hl_274] <;> decide +kernel) (fun y18_1 hy_276 => ?_)
      refine go_n (by rw [hl_273] <;> decide +kernel) ?_
      refine go_p (by rw [hy_276] <;> decide +kernel) ?_
      rw [hs_275]
      refine go_u2 (n := 8188) (a0 := 1) (qi_lit 1) (a1 := 32) (show _ = nI 32 by rw [hl_274] <;> decide +kernel) (fun self6 hs_279 x3_6 hl_277 x4_6 hl_278 => ?_)
      unfold L_L_types_6
      refine go_n (by rw [hl_278] <;> decide +kernel) ?_
      refine go_ltl (y := 0) (by rw [hl_278] <;> decide +kernel) (fun y18_1 hy_280 => ?_)
      refine go_n (by rw [hl_277] <;> decide +kernel) ?_
      refine go_p (by rw [hy_280] <;> decide +kernel) ?_
      rw [hs_279]
      refine go_u2 (n := 8187) (a0 := 1) (qi_lit 1) (a1 := 24) (show _ = nI 24 by rw [hl_278] <;> decide +kernel) (fun self6 hs_283 x3_6 hl_281 x4_6 hl_282 => ?_)
      unfold L_L_types_6
      refine go_n (by rw [hl_282] <;> decide +kernel) ?_
      refine go_ltl (y := 0) (by rw [hl_282] <;> decide +kernel) (fun y18_1 hy_284 => ?_)
      refine go_n (by rw [hl_281] <;> decide +kernel) ?_
      refine go_p (by rw [hy_284] <;> decide +kernel) ?_
      rw [hs_283]
      refine go_u2 (n := 8186) (a0 := 1) (qi_lit 1) (a1 := 16) (show _ = nI 16 by rw [hl_282] <;> decide +kernel) (fun self6 hs_287 x3_6 hl_285 x4_6 hl_286 => ?_)
      unfold L_L_types_6
      refine go_n (by rw [hl_286] <;> decide +kernel) ?_
      refine go_ltl (y := 0) (by rw [hl_286] <;> decide +kernel) (fun y18_1 hy_288 => ?_)
      refine go_n (by rw [hl_285] <;> decide +kernel) ?_
      refine go_p (by rw [hy_288] <;> decide +kernel) ?_
      rw [hs_287]
      refine go_u2 (n := 8185) (a0 := 1) (qi_lit 1) (a1 := 8) (show _ = nI 8 by rw [hl_286] <;> decide +kernel) (fun self6 hs_291 x3_6 hl_289 x4_6 hl_290 => ?_)
      unfold L_L_types_6
      refine go_n (by rw [hl_290] <;> decide +kernel) ?_
      refine go_ltl (y := 106) (by rw [hl_290] <;> decide +kernel) (fun y18_1 hy_292 => ?_)
      refine go_n (by rw [hl_289] <;> decide +kernel) ?_
      refine go_n (by rw [hy_292] <;> decide +kernel) ?_
      refine go_bd (c := 1) (S := Sq_33) (k_type (show _ = nI 106 by rw [hy_292] <;> decide +kernel) (Nat.le_of_ble_eq_true rfl) K_262 (by decide +kernel)) (fun r_35 hr_293 K_294 => ?_)
      refine go_n (by rw [hr_293] <;> decide +kernel) ?_
      rw [hs_291]
      refine go_u2 (n := 8184) (a0 := 1) (qi_lit 1) (a1 := 0) (show _ = nI 0 by rw [hl_290] <;> decide +kernel) (fun self6 hs_297 x3_6 hl_295 x4_6 hl_296 => ?_)
      unfold L_L_types_6
      refine go_n (by rw [hl_296] <;> decide +kernel) ?_
      refine go_ltl (y := 49) (by rw [hl_296] <;> decide +kernel) (fun y18_1 hy_298 => ?_)
      refine go_n (by rw [hl_295] <;> decide +kernel) ?_
      refine go_n (by rw [hy_298] <;> decide +kernel) ?_
      refine go_bd (c := 2) (S := Sq_34) (k_type (show _ = nI 49 by rw [hy_298] <;> decide +kernel) (Nat.le_of_ble_eq_true rfl) K_294 (by decide +kernel)) (fun r_35 hr_299 K_300 => ?_)
      refine go_n (by rw [hr_299] <;> decide +kernel) ?_
      rw [hs_297]
      refine go_u2 (n := 8183) (a0 := 1) (qi_lit 1) (a1 := 4294967288) (show _ = nI 4294967288 by rw [hl_296] <;> decide +kernel) (fun self6 hs_303 x3_6 hl_301 x4_6 hl_302 => ?_)
      unfold L_L_types_6
      refine go_p (by rw [hl_302] <;> decide +kernel) ?_
      refine go_z (c := 1) (by rw [hl_301] <;> decide +kernel) (by decide) ?_
      exact go_s hl_301 K_300
    refine go_n (by rw [hr_263] <;> decide +kernel) ?_
    refine go_bd (c := 1) (S := Sq_34) ?_ (fun r_17 hr_304 K_305 => ?_)
    · unfold f_L_types
      refine go_u2 (n := 8191) (a0 := 1) (qi_lit 1) (a1 := 56) (qi_lit 56) (fun self6 hs_308 x3_6 hl_306 x4_6 hl_307 => ?_)
      unfold L_L_types_6
      refine go_n (by rw [hl_307] <;> decide +kernel) ?_
      refine go_ltl (y := 0) (by rw [hl_307] <;> decide +kernel) (fun y18_1 hy_309 => ?_)
      refine go_n (by rw [hl_306] <;> decide +kernel) ?_
      refine go_p (by rw [hy_309] <;> decide +kernel) ?_
      rw [hs_308]
      refine go_u2 (n := 8190) (a0 := 1) (qi_lit 1) (a1 := 48) (show _ = nI 48 by rw [hl_307] <;> decide +kernel) (fun self6 hs_312 x3_6 hl_310 x4_6 hl_311 => ?_)
      unfold L_L_types_6
      refine go_n (by rw [hl_311] <;> decide +kernel) ?_
      refine go_ltl (y := 0) (by rw [hl_311] <;> decide +kernel) (fun y18_1 hy_313 => ?_)
      refine go_n (by rw [hl_310] <;> decide +kernel) ?_
      refine go_p (by rw [hy_313] <;> decide +kernel) ?_
      rw [hs_312]
      refine go_u2 (n := 8189) (a0 := 1) (qi_lit 1) (a1 := 40) (show _ = nI 40 by rw [hl_311] <;> decide +kernel) (fun self6 hs_316 x3_6 hl_314 x4_6 hl_315 => ?_)
      unfold L_L_types_6
      refine go_n (by rw [hl_315] <;> decide +kernel) ?_
      refine go_ltl (y := 0) (by rw [hl_315] <;> decide +kernel) (fun y18_1 hy_317 => ?_)
      refine go_n (by rw [hl_314] <;> decide +kernel) ?_
      refine go_p (by rw [hy_317] <;> decide +kernel) ?_
      rw [hs_316]
      refine go_u2 (n := 8188) (a0 := 1) (qi_lit 1) (a1 := 32) (show _ = nI 32 by rw [hl_315] <;> decide +kernel) (fun self6 hs_320 x3_6 hl_318 x4_6 hl_319 => ?_)
      unfold L_L_types_6
      refine go_n (by rw [hl_319] <;> decide +kernel) ?_
      refine go_ltl (y := 0) (by rw [hl_319] <;> decide +kernel) (fun y18_1 hy_321 => ?_)
      refine go_n (by rw [hl_318] <;> decide +kernel) ?_
      refine go_p (by rw [hy_321] <;> decide +kernel) ?_
      rw [hs_320]
      refine go_u2 (n := 8187) (a0 := 1) (qi_lit 1) (a1 := 24) (show _ = nI 24 by rw [hl_319] <;> decide +kernel) (fun self6 hs_324 x3_6 hl_322 x4_6 hl_323 => ?_)
      unfold L_L_types_6
      refine go_n (by rw [hl_323] <;> decide +kernel) ?_
      refine go_ltl (y := 0) (by rw [hl_323] <;> decide +kernel) (fun y18_1 hy_325 => ?_)
      refine go_n (by rw [hl_322] <;> decide +kernel) ?_
      refine go_p (by rw [hy_325] <;> decide +kernel) ?_
      rw [hs_324]
      refine go_u2 (n := 8186) (a0 := 1) (qi_lit 1) (a1 := 16) (show _ = nI 16 by rw [hl_323] <;> decide +kernel) (fun self6 hs_328 x3_6 hl_326 x4_6 hl_327 => ?_)
      unfold L_L_types_6
      refine go_n (by rw [hl_327] <;> decide +kernel) ?_
      refine go_ltl (y := 0) (by rw [hl_327] <;> decide +kernel) (fun y18_1 hy_329 => ?_)
      refine go_n (by rw [hl_326] <;> decide +kernel) ?_
      refine go_p (by rw [hy_329] <;> decide +kernel) ?_
      rw [hs_328]
      refine go_u2 (n := 8185) (a0 := 1) (qi_lit 1) (a1 := 8) (show _ = nI 8 by rw [hl_327] <;> decide +kernel) (fun self6 hs_332 x3_6 hl_330 x4_6 hl_331 => ?_)
      unfold L_L_types_6
      refine go_n (by rw [hl_331] <;> decide +kernel) ?_
      refine go_ltl (y := 0) (by rw [hl_331] <;> decide +kernel) (fun y18_1 hy_333 => ?_)
      refine go_n (by rw [hl_330] <;> decide +kernel) ?_
      refine go_p (by rw [hy_333] <;> decide +kernel) ?_
      rw [hs_332]
      refine go_u2 (n := 8184) (a0 := 1) (qi_lit 1) (a1 := 0) (show _ = nI 0 by rw [hl_331] <;> decide +kernel) (fun self6 hs_336 x3_6 hl_334 x4_6 hl_335 => ?_)
      unfold L_L_types_6
      refine go_n (by rw [hl_335] <;> decide +kernel) ?_
      refine go_ltl (y := 0) (by rw [hl_335] <;> decide +kernel) (fun y18_1 hy_337 => ?_)
      refine go_n (by rw [hl_334] <;> decide +kernel) ?_
      refine go_p (by rw [hy_337] <;> decide +kernel) ?_
      rw [hs_336]
      refine go_u2 (n := 8183) (a0 := 1) (qi_lit 1) (a1 := 4294967288) (show _ = nI 4294967288 by rw [hl_335] <;> decide +kernel) (fun self6 hs_340 x3_6 hl_338 x4_6 hl_339 => ?_)
      unfold L_L_types_6
      refine go_p (by rw [hl_339] <;> decide +kernel) ?_
      refine go_z (c := 1) (by rw [hl_338] <;> decide +kernel) (by decide) ?_
      exact go_s hl_338 K_264
    refine go_n (by rw [hr_304] <;> decide +kernel) ?_
    refine go_bd (c := 2) (S := Sq_35) (k_letterError  K_305 (by decide +kernel)) (fun r_24 hr_341 K_342 => ?_)
    refine go_p (by rw [hr_341] <;> decide +kernel) ?_
    refine go_z1 ?_
    exact go_s (qi_lit 1) K_342
  refine go_n (by rw [hr_259] <;> decide +kernel) ?_
  refine go_bd (c := 1) (S := Sq_39) ?_ (fun r_62 hr_343 K_344 => ?_)
  · unfold f_L_isError
    refine go_bd (c := 2) (S := Sq_36) (k_clearLetter  K_260 (by decide +kernel)) (fun r_1 hr_345 K_346 => ?_)
    refine go_n (by rw [hr_345] <;> decide +kernel) ?_
    refine go_bd (c := 1) (S := Sq_38) ?_ (fun r_9 hr_347 K_348 => ?_)
    · unfold f_L_types
      refine go_u2 (n := 8191) (a0 := 1) (qi_lit 1) (a1 := 56) (qi_lit 56) (fun self6 hs_351 x3_6 hl_349 x4_6 hl_350 => ?_)
      unfold L_L_types_6
      refine go_n (by rw [hl_350] <;> decide +kernel) ?_
      refine go_ltl (y := 0) (by rw [hl_350] <;> decide +kernel) (fun y18_1 hy_352 => ?_)
      refine go_n (by rw [hl_349] <;> decide +kernel) ?_
      refine go_p (by rw [hy_352] <;> decide +kernel) ?_
      rw [hs_351]
      refine go_u2 (n := 8190) (a0 := 1) (qi_lit 1) (a1 := 48) (show _ = nI 48 by rw [hl_350] <;> decide +kernel) (fun self6 hs_355 x3_6 hl_353 x4_6 hl_354 => ?_)
      unfold L_L_types_6
      refine go_n (by rw [hl_354] <;> decide +kernel) ?_
      refine go_ltl (y := 0) (by rw [hl_354] <;> decide +kernel) (fun y18_1 hy_356 => ?_)
      refine go_n (by rw [hl_353] <;> decide +kernel) ?_
      refine go_p (by rw [hy_356] <;> decide +kernel) ?_
      rw [hs_355]
      refine go_u2 (n := 8189) (a0 := 1) (qi_lit 1) (a1 := 40) (show _ = nI 40 by rw [hl_354] <;> decide +kernel) (fun self6 hs_359 x3_6 hl_357 x4_6 hl_358 => ?_)
      unfold L_L_types_6
      refine go_n (by rw [hl_358] <;> decide +kernel) ?_
      refine go_ltl (y := 0) (by rw [hl_358] <;> decide +kernel) (fun y18_1 hy_360 => ?_)
      refine go_n (by rw [hl_357] <;> decide +kernel) ?_
      refine go_p (by rw [hy_360] <;> decide +kernel) ?_
      rw [hs_359]
      refine go_u2 (n := 8188) (a0 := 1) (qi_lit 1) (a1 := 32) (show _ = nI 32 by rw [hl_358] <;> decide +kernel) (fun self6 hs_363 x3_6 hl_361 x4_6 hl_362 => ?_)
      unfold L_L_types_6
      refine go_n (by rw [hl_362] <;> decide +kernel) ?_
      refine go_ltl (y := 0) (by rw [hl_362] <;> decide +kernel) (fun y18_1 hy_364 => ?_)
      refine go_n (by rw [hl_361] <;> decide +kernel) ?_
      refine go_p (by rw [hy_364] <;> decide +kernel) ?_
      rw [hs_363]
      refine go_u2 (n := 8187) (a0 := 1) (qi_lit 1) (a1 := 24) (show _ = nI 24 by rw [hl_362] <;> decide +kernel) (fun self6 hs_367 x3_6 hl_365 x4_6 hl_366 => ?_)
      unfold L_L_types_6
      refine go_n (by rw [hl_366] <;> decide +kernel) ?_
      refine go_ltl (y := 0) (by rw [hl_366] <;> decide +kernel) (fun y18_1 hy_368 => ?_)
      refine go_n (by rw [hl_365] <;> decide +kernel) ?_
      refine go_p (by rw [hy_368] <;> decide +kernel) ?_
      rw [hs_367]
      refine go_u2 (n := 8186) (a0 := 1) (qi_lit 1) (a1 := 16) (show _ = nI 16 by rw [hl_366] <;> decide +kernel) (fun self6 hs_371 x3_6 hl_369 x4_6 hl_370 => ?_)
      unfold L_L_types_6
      refine go_n (by rw [hl_370] <;> decide +kernel) ?_
      refine go_ltl (y := 0) (by rw [hl_370] <;> decide +kernel) (fun y18_1 hy_372 => ?_)
      refine go_n (by rw [hl_369] <;> decide +kernel) ?_
      refine go_p (by rw [hy_372] <;> decide +kernel) ?_
      rw [hs_371]
      refine go_u2 (n := 8185) (a0 := 1) (qi_lit 1) (a1 := 8) (show _ = nI 8 by rw [hl_370] <;> decide +kernel) (fun self6 hs_375 x3_6 hl_373 x4_6 hl_374 => ?_)
      unfold L_L_types_6
      refine go_n (by rw [hl_374] <;> decide +kernel) ?_
      refine go_ltl (y := 102) (by rw [hl_374] <;> decide +kernel) (fun y18_1 hy_376 => ?_)
      refine go_n (by rw [hl_373] <;> decide +kernel) ?_
      refine go_n (by rw [hy_376] <;> decide +kernel) ?_
      refine go_bd (c := 1) (S := Sq_37) (k_type (show _ = nI 102 by rw [hy_376] <;> decide +kernel) (Nat.le_of_ble_eq_true rfl) K_346 (by decide +kernel)) (fun r_35 hr_377 K_378 => ?_)
      refine go_n (by rw [hr_377] <;> decide +kernel) ?_
      rw [hs_375]
      refine go_u2 (n := 8184) (a0 := 1) (qi_lit 1) (a1 := 0) (show _ = nI 0 by rw [hl_374] <;> decide +kernel) (fun self6 hs_381 x3_6 hl_379 x4_6 hl_380 => ?_)
      unfold L_L_types_6
      refine go_n (by rw [hl_380] <;> decide +kernel) ?_
      refine go_ltl (y := 48) (by rw [hl_380] <;> decide +kernel) (fun y18_1 hy_382 => ?_)
      refine go_n (by rw [hl_379] <;> decide +kernel) ?_
      refine go_n (by rw [hy_382] <;> decide +kernel) ?_
      refine go_bd (c := 2) (S := Sq_38) (k_type (show _ = nI 48 by rw [hy_382] <;> decide +kernel) (Nat.le_of_ble_eq_true rfl) K_378 (by decide +kernel)) (fun r_35 hr_383 K_384 => ?_)
      refine go_n (by rw [hr_383] <;> decide +kernel) ?_
      rw [hs_381]
      refine go_u2 (n := 8183) (a0 := 1) (qi_lit 1) (a1 := 4294967288) (show _ = nI 4294967288 by rw [hl_380] <;> decide +kernel) (fun self6 hs_387 x3_6 hl_385 x4_6 hl_386 => ?_)
      unfold L_L_types_6
      refine go_p (by rw [hl_386] <;> decide +kernel) ?_
      refine go_z (c := 1) (by rw [hl_385] <;> decide +kernel) (by decide) ?_
      exact go_s hl_385 K_384
    refine go_n (by rw [hr_347] <;> decide +kernel) ?_
    refine go_bd (c := 1) (S := Sq_38) ?_ (fun r_17 hr_388 K_389 => ?_)
    · unfold f_L_types
      refine go_u2 (n := 8191) (a0 := 1) (qi_lit 1) (a1 := 56) (qi_lit 56) (fun self6 hs_392 x3_6 hl_390 x4_6 hl_391 => ?_)
      unfold L_L_types_6
      refine go_n (by rw [hl_391] <;> decide +kernel) ?_
      refine go_ltl (y := 0) (by rw [hl_391] <;> decide +kernel) (fun y18_1 hy_393 => ?_)
      refine go_n (by rw [hl_390] <;> decide +kernel) ?_
      refine go_p (by rw [hy_393] <;> decide +kernel) ?_
      rw [hs_392]
      refine go_u2 (n := 8190) (a0 := 1) (qi_lit 1) (a1 := 48) (show _ = nI 48 by rw [hl_391] <;> decide +kernel) (fun self6 hs_396 x3_6 hl_394 x4_6 hl_395 => ?_)
      unfold L_L_types_6
      refine go_n (by rw [hl_395] <;> decide +kernel) ?_
      refine go_ltl (y := 0) (by rw [hl_395] <;> decide +kernel) (fun y18_1 hy_397 => ?_)
      refine go_n (by rw [hl_394] <;> decide +kernel) ?_
      refine go_p (by rw [hy_397] <;> decide +kernel) ?_
      rw [hs_396]
      refine go_u2 (n := 8189) (a0 := 1) (qi_lit 1) (a1 := 40) (show _ = nI 40 by rw [hl_395] <;> decide +kernel) (fun self6 hs_400 x3_6 hl_398 x4_6 hl_399 => ?_)
      unfold L_L_types_6
      refine go_n (by rw [hl_399] <;> decide +kernel) ?_
      refine go_ltl (y := 0) (by rw [hl_399] <;> decide +kernel) (fun y18_1 hy_401 => ?_)
      refine go_n (by rw [hl_398] <;> decide +kernel) ?_
      refine go_p (by rw [hy_401] <;> decide +kernel) ?_
      rw [hs_400]
      refine go_u2 (n := 8188) (a0 := 1) (qi_lit 1) (a1 := 32) (show _ = nI 32 by rw [hl_399] <;> decide +kernel) (fun self6 hs_404 x3_6 hl_402 x4_6 hl_403 => ?_)
      unfold L_L_types_6
      refine go_n (by rw [hl_403] <;> decide +kernel) ?_
      refine go_ltl (y := 0) (by rw [hl_403] <;> decide +kernel) (fun y18_1 hy_405 => ?_)
      refine go_n (by rw [hl_402] <;> decide +kernel) ?_
      refine go_p (by rw [hy_405] <;> decide +kernel) ?_
      rw [hs_404]
      refine go_u2 (n := 8187) (a0 := 1) (qi_lit 1) (a1 := 24) (show _ = nI 24 by rw [hl_403] <;> decide +kernel) (fun self6 hs_408 x3_6 hl_406 x4_6 hl_407 => ?_)
      unfold L_L_types_6
      refine go_n (by rw [hl_407] <;> decide +kernel) ?_
      refine go_ltl (y := 0) (by rw [hl_407] <;> decide +kernel) (fun y18_1 hy_409 => ?_)
      refine go_n (by rw [hl_406] <;> decide +kernel) ?_
      refine go_p (by rw [hy_409] <;> decide +kernel) ?_
      rw [hs_408]
      refine go_u2 (n := 8186) (a0 := 1) (qi_lit 1) (a1 := 16) (show _ = nI 16 by rw [hl_407] <;> decide +kernel) (fun self6 hs_412 x3_6 hl_410 x4_6 hl_411 => ?_)
      unfold L_L_types_6
      refine go_n (by rw [hl_411] <;> decide +kernel) ?_
      refine go_ltl (y := 0) (by rw [hl_411] <;> decide +kernel) (fun y18_1 hy_413 => ?_)
      refine go_n (by rw [hl_410] <;> decide +kernel) ?_
      refine go_p (by rw [hy_413] <;> decide +kernel) ?_
      rw [hs_412]
      refine go_u2 (n := 8185) (a0 := 1) (qi_lit 1) (a1 := 8) (show _ = nI 8 by rw [hl_411] <;> decide +kernel) (fun self6 hs_416 x3_6 hl_414 x4_6 hl_415 => ?_)
      unfold L_L_types_6
      refine go_n (by rw [hl_415] <;> decide +kernel) ?_
      refine go_ltl (y := 0) (by rw [hl_415] <;> decide +kernel) (fun y18_1 hy_417 => ?_)
      refine go_n (by rw [hl_414] <;> decide +kernel) ?_
      refine go_p (by rw [hy_417] <;> decide +kernel) ?_
      rw [hs_416]
      refine go_u2 (n := 8184) (a0 := 1) (qi_lit 1) (a1 := 0) (show _ = nI 0 by rw [hl_415] <;> decide +kernel) (fun self6 hs_420 x3_6 hl_418 x4_6 hl_419 => ?_)
      unfold L_L_types_6
      refine go_n (by rw [hl_419] <;> decide +kernel) ?_
      refine go_ltl (y := 0) (by rw [hl_419] <;> decide +kernel) (fun y18_1 hy_421 => ?_)
      refine go_n (by rw [hl_418] <;> decide +kernel) ?_
      refine go_p (by rw [hy_421] <;> decide +kernel) ?_
      rw [hs_420]
      refine go_u2 (n := 8183) (a0 := 1) (qi_lit 1) (a1 := 4294967288) (show _ = nI 4294967288 by rw [hl_419] <;> decide +kernel) (fun self6 hs_424 x3_6 hl_422 x4_6 hl_423 => ?_)
      unfold L_L_types_6
      refine go_p (by rw [hl_423] <;> decide +kernel) ?_
      refine go_z (c := 1) (by rw [hl_422] <;> decide +kernel) (by decide) ?_
      exact go_s hl_422 K_348
    refine go_n (by rw [hr_388] <;> decide +kernel) ?_
    refine go_bd (c := 1) (S := Sq_39) (k_letterError  K_389 (by decide +kernel)) (fun r_24 hr_425 K_426 => ?_)
    refine go_p (by rw [hr_425] <;> decide +kernel) ?_
    refine go_z1 ?_
    exact go_s (qi_lit 1) K_426
  refine go_n (by rw [hr_343] <;> decide +kernel) ?_
  refine go_bd (c := 1) (S := Sq_47) ?_ (fun r_74 hr_427 K_428 => ?_)
  · unfold f_L_isError
    refine go_bd (c := 2) (S := Sq_40) (k_clearLetter  K_344 (by decide +kernel)) (fun r_1 hr_429 K_430 => ?_)
    refine go_n (by rw [hr_429] <;> decide +kernel) ?_
    refine go_bd (c := 1) (S := Sq_46) ?_ (fun r_9 hr_431 K_432 => ?_)
    · unfold f_L_types
      refine go_u2 (n := 8191) (a0 := 1) (qi_lit 1) (a1 := 56) (qi_lit 56) (fun self6 hs_435 x3_6 hl_433 x4_6 hl_434 => ?_)
      unfold L_L_types_6
      refine go_n (by rw [hl_434] <;> decide +kernel) ?_
      refine go_ltl (y := 0) (by rw [hl_434] <;> decide +kernel) (fun y18_1 hy_436 => ?_)
      refine go_n (by rw [hl_433] <;> decide +kernel) ?_
      refine go_p (by rw [hy_436] <;> decide +kernel) ?_
      rw [hs_435]
      refine go_u2 (n := 8190) (a0 := 1) (qi_lit 1) (a1 := 48) (show _ = nI 48 by rw [hl_434] <;> decide +kernel) (fun self6 hs_439 x3_6 hl_437 x4_6 hl_438 => ?_)
      unfold L_L_types_6
      refine go_n (by rw [hl_438] <;> decide +kernel) ?_
      refine go_ltl (y := 0) (by rw [hl_438] <;> decide +kernel) (fun y18_1 hy_440 => ?_)
      refine go_n (by rw [hl_437] <;> decide +kernel) ?_
      refine go_p (by rw [hy_440] <;> decide +kernel) ?_
      rw [hs_439]
      refine go_u2 (n := 8189) (a0 := 1) (qi_lit 1) (a1 := 40) (show _ = nI 40 by rw [hl_438] <;> decide +kernel) (fun self6 hs_443 x3_6 hl_441 x4_6 hl_442 => ?_)
      unfold L_L_types_6
      refine go_n (by rw [hl_442] <;> decide +kernel) ?_
      refine go_ltl (y := 102) (by rw [hl_442] <;> decide +kernel) (fun y18_1 hy_444 => ?_)
      refine go_n (by rw [hl_441] <;> decide +kernel) ?_
      refine go_n (by rw [hy_444] <;> decide +kernel) ?_
      refine go_bd (c := 1) (S := Sq_41) (k_type (show _ = nI 102 by rw [hy_444] <;> decide +kernel) (Nat.le_of_ble_eq_true rfl) K_430 (by decide +kernel)) (fun r_35 hr_445 K_446 => ?_)
      refine go_n (by rw [hr_445] <;> decide +kernel) ?_
      rw [hs_443]
      refine go_u2 (n := 8188) (a0 := 1) (qi_lit 1) (a1 := 32) (show _ = nI 32 by rw [hl_442] <;> decide +kernel) (fun self6 hs_449 x3_6 hl_447 x4_6 hl_448 => ?_)
      unfold L_L_types_6
      refine go_n (by rw [hl_448] <;> decide +kernel) ?_
      refine go_ltl (y := 49) (by rw [hl_448] <;> decide +kernel) (fun y18_1 hy_450 => ?_)
      refine go_n (by rw [hl_447] <;> decide +kernel) ?_
      refine go_n (by rw [hy_450] <;> decide +kernel) ?_
      refine go_bd (c := 2) (S := Sq_42) (k_type (show _ = nI 49 by rw [hy_450] <;> decide +kernel) (Nat.le_of_ble_eq_true rfl) K_446 (by decide +kernel)) (fun r_35 hr_451 K_452 => ?_)
      refine go_n (by rw [hr_451] <;> decide +kernel) ?_
      rw [hs_449]
      refine go_u2 (n := 8187) (a0 := 1) (qi_lit 1) (a1 := 24) (show _ = nI 24 by rw [hl_448] <;> decide +kernel) (fun self6 hs_455 x3_6 hl_453 x4_6 hl_454 => ?_)
      unfold L_L_types_6
      refine go_n (by rw [hl_454] <;> decide +kernel) ?_
      refine go_ltl (y := 48) (by rw [hl_454] <;> decide +kernel) (fun y18_1 hy_456 => ?_)
      refine go_n (by rw [hl_453] <;> decide +kernel) ?_
      refine go_n (by rw [hy_456] <;> decide +kernel) ?_
      refine go_bd (c := 3) (S := Sq_43) (k_type (show _ = nI 48 by rw [hy_456] <;> decide +kernel) (Nat.le_of_ble_eq_true rfl) K_452 (by decide +kernel)) (fun r_35 hr_457 K_458 => ?_)
      refine go_n (by rw [hr_457] <;> decide +kernel) ?_
      rw [hs_455]
      refine go_u2 (n := 8186) (a0 := 1) (qi_lit 1) (a1 := 16) (show _ = nI 16 by rw [hl_454] <;> decide +kernel) (fun self6 hs_461 x3_6 hl_459 x4_6 hl_460 => ?_)
      unfold L_L_types_6
      refine go_n (by rw [hl_460] <;> decide +kernel) ?_
      refine go_ltl (y := 48) (by rw [hl_460] <;> decide +kernel) (fun y18_1 hy_462 => ?_)
      refine go_n (by rw [hl_459] <;> decide +kernel) ?_
      refine go_n (by rw [hy_462] <;> decide +kernel) ?_
      refine go_bd (c := 4) (S := Sq_44) (k_type (show _ = nI 48 by rw [hy_462] <;> decide +kernel) (Nat.le_of_ble_eq_true rfl) K_458 (by decide +kernel)) (fun r_35 hr_463 K_464 => ?_)
      refine go_n (by rw [hr_463] <;> decide +kernel) ?_
      rw [hs_461]
      refine go_u2 (n := 8185) (a0 := 1) (qi_lit 1) (a1 := 8) (show _ = nI 8 by rw [hl_460] <;> decide +kernel) (fun self6 hs_467 x3_6 hl_465 x4_6 hl_466 => ?_)
      unfold L_L_types_6
      refine go_n (by rw [hl_466] <;> decide +kernel) ?_
      refine go_ltl (y := 48) (by rw [hl_466] <;> decide +kernel) (fun y18_1 hy_468 => ?_)
      refine go_n (by rw [hl_465] <;> decide +kernel) ?_
      refine go_n (by rw [hy_468] <;> decide +kernel) ?_
      refine go_bd (c := 5) (S := Sq_45) (k_type (show _ = nI 48 by rw [hy_468] <;> decide +kernel) (Nat.le_of_ble_eq_true rfl) K_464 (by decide +kernel)) (fun r_35 hr_469 K_470 => ?_)
      refine go_n (by rw [hr_469] <;> decide +kernel) ?_
      rw [hs_467]
      refine go_u2 (n := 8184) (a0 := 1) (qi_lit 1) (a1 := 0) (show _ = nI 0 by rw [hl_466] <;> decide +kernel) (fun self6 hs_473 x3_6 hl_471 x4_6 hl_472 => ?_)
      unfold L_L_types_6
      refine go_n (by rw [hl_472] <;> decide +kernel) ?_
      refine go_ltl (y := 48) (by rw [hl_472] <;> decide +kernel) (fun y18_1 hy_474 => ?_)
      refine go_n (by rw [hl_471] <;> decide +kernel) ?_
      refine go_n (by rw [hy_474] <;> decide +kernel) ?_
      refine go_bd (c := 6) (S := Sq_46) (k_type (show _ = nI 48 by rw [hy_474] <;> decide +kernel) (Nat.le_of_ble_eq_true rfl) K_470 (by decide +kernel)) (fun r_35 hr_475 K_476 => ?_)
      refine go_n (by rw [hr_475] <;> decide +kernel) ?_
      rw [hs_473]
      refine go_u2 (n := 8183) (a0 := 1) (qi_lit 1) (a1 := 4294967288) (show _ = nI 4294967288 by rw [hl_472] <;> decide +kernel) (fun self6 hs_479 x3_6 hl_477 x4_6 hl_478 => ?_)
      unfold L_L_types_6
      refine go_p (by rw [hl_478] <;> decide +kernel) ?_
      refine go_z (c := 1) (by rw [hl_477] <;> decide +kernel) (by decide) ?_
      exact go_s hl_477 K_476
    refine go_n (by rw [hr_431] <;> decide +kernel) ?_
    refine go_bd (c := 1) (S := Sq_46) ?_ (fun r_17 hr_480 K_481 => ?_)
    · unfold f_L_types
      refine go_u2 (n := 8191) (a0 := 1) (qi_lit 1) (a1 := 56) (qi_lit 56) (fun self6 hs_484 x3_6 hl_482 x4_6 hl_483 => ?_)
      unfold L_L_types_6
      refine go_n (by rw [hl_483] <;> decide +kernel) ?_
      refine go_ltl (y := 0) (by rw [hl_483] <;> decide +kernel) (fun y18_1 hy_485 => ?_)
      refine go_n (by rw [hl_482] <;> decide +kernel) ?_
      refine go_p (by rw [hy_485] <;> decide +kernel) ?_
      rw [hs_484]
      refine go_u2 (n := 8190) (a0 := 1) (qi_lit 1) (a1 := 48) (show _ = nI 48 by rw [hl_483] <;> decide +kernel) (fun self6 hs_488 x3_6 hl_486 x4_6 hl_487 => ?_)
      unfold L_L_types_6
      refine go_n (by rw [hl_487] <;> decide +kernel) ?_
      refine go_ltl (y := 0) (by rw [hl_487] <;> decide +kernel) (fun y18_1 hy_489 => ?_)
      refine go_n (by rw [hl_486] <;> decide +kernel) ?_
      refine go_p (by rw [hy_489] <;> decide +kernel) ?_
      rw [hs_488]
      refine go_u2 (n := 8189) (a0 := 1) (qi_lit 1) (a1 := 40) (show _ = nI 40 by rw [hl_487] <;> decide +kernel) (fun self6 hs_492 x3_6 hl_490 x4_6 hl_491 => ?_)
      unfold L_L_types_6
      refine go_n (by rw [hl_491] <;> decide +kernel) ?_
      refine go_ltl (y := 0) (by rw [hl_491] <;> decide +kernel) (fun y18_1 hy_493 => ?_)
      refine go_n (by rw [hl_490] <;> decide +kernel) ?_
      refine go_p (by rw [hy_493] <;> decide +kernel) ?_
      rw [hs_492]
      refine go_u2 (n := 8188) (a0 := 1) (qi_lit 1) (a1 := 32) (show _ = nI 32 by rw [hl_491] <;> decide +kernel) (fun self6 hs_496 x3_6 hl_494 x4_6 hl_495 => ?_)
      unfold L_L_types_6
      refine go_n (by rw [hl_495] <;> decide +kernel) ?_
      refine go_ltl (y := 0) (by rw [hl_495] <;> decide +kernel) (fun y18_1 hy_497 => ?_)
      refine go_n (by rw [hl_494] <;> decide +kernel) ?_
      refine go_p (by rw [hy_497] <;> decide +kernel) ?_
      rw [hs_496]
      refine go_u2 (n := 8187) (a0 := 1) (qi_lit 1) (a1 := 24) (show _ = nI 24 by rw [hl_495] <;> decide +kernel) (fun self6 hs_500 x3_6 hl_498 x4_6 hl_499 => ?_)
      unfold L_L_types_6
      refine go_n (by rw [hl_499] <;> decide +kernel) ?_
      refine go_ltl (y := 0) (by rw [hl_499] <;> decide +kernel) (fun y18_1 hy_501 => ?_)
      refine go_n (by rw [hl_498] <;> decide +kernel) ?_
      refine go_p (by rw [hy_501] <;> decide +kernel) ?_
      rw [hs_500]
      refine go_u2 (n := 8186) (a0 := 1) (qi_lit 1) (a1 := 16) (show _ = nI 16 by rw [hl_499] <;> decide +kernel) (fun self6 hs_504 x3_6 hl_502 x4_6 hl_503 => ?_)
      unfold L_L_types_6
      refine go_n (by rw [hl_503] <;> decide +kernel) ?_
      refine go_ltl (y := 0) (by rw [hl_503] <;> decide +kernel) (fun y18_1 hy_505 => ?_)
      refine go_n (by rw [hl_502] <;> decide +kernel) ?_
      refine go_p (by rw [hy_505] <;> decide +kernel) ?_
      rw [hs_504]
      refine go_u2 (n := 8185) (a0 := 1) (qi_lit 1) (a1 := 8) (show _ = nI 8 by rw [hl_503] <;> decide +kernel) (fun self6 hs_508 x3_6 hl_506 x4_6 hl_507 => ?_)
      unfold L_L_types_6
      refine go_n (by rw [hl_507] <;> decide +kernel) ?_
      refine go_ltl (y := 0) (by rw [hl_507] <;> decide +kernel) (fun y18_1 hy_509 => ?_)
      refine go_n (by rw [hl_506] <;> decide +kernel) ?_
      refine go_p (by rw [hy_509] <;> decide +kernel) ?_
      rw [hs_508]
      refine go_u2 (n := 8184) (a0 := 1) (qi_lit 1) (a1 := 0) (show _ = nI 0 by rw [hl_507] <;> decide +kernel) (fun self6 hs_512 x3_6 hl_510 x4_6 hl_511 => ?_)
      unfold L_L_types_6
      refine go_n (by rw [hl_511] <;> decide +kernel) ?_
      refine go_ltl (y := 0) (by rw [hl_511] <;> decide +kernel) (fun y18_1 hy_513 => ?_)
      refine go_n (by rw [hl_510] <;> decide +kernel) ?_
      refine go_p (by rw [hy_513] <;> decide +kernel) ?_
      rw [hs_512]
      refine go_u2 (n := 8183) (a0 := 1) (qi_lit 1) (a1 := 4294967288) (show _ = nI 4294967288 by rw [hl_511] <;> decide +kernel) (fun self6 hs_516 x3_6 hl_514 x4_6 hl_515 => ?_)
      unfold L_L_types_6
      refine go_p (by rw [hl_515] <;> decide +kernel) ?_
      refine go_z (c := 1) (by rw [hl_514] <;> decide +kernel) (by decide) ?_
      exact go_s hl_514 K_432
    refine go_n (by rw [hr_480] <;> decide +kernel) ?_
    refine go_bd (c := 5) (S := Sq_47) (k_letterError  K_481 (by decide +kernel)) (fun r_24 hr_517 K_518 => ?_)
    refine go_p (by rw [hr_517] <;> decide +kernel) ?_
    refine go_z1 ?_
    exact go_s (qi_lit 1) K_518
  refine go_n (by rw [hr_427] <;> decide +kernel) ?_
  refine go_bd (c := 1) (S := Sq_52) ?_ (fun r_86 hr_519 K_520 => ?_)
  · unfold f_L_isError
    refine go_bd (c := 6) (S := Sq_48) (k_clearLetter  K_428 (by decide +kernel)) (fun r_1 hr_521 K_522 => ?_)
    refine go_n (by rw [hr_521] <;> decide +kernel) ?_
    refine go_bd (c := 1) (S := Sq_51) ?_ (fun r_9 hr_523 K_524 => ?_)
    · unfold f_L_types
      refine go_u2 (n := 8191) (a0 := 1) (qi_lit 1) (a1 := 56) (qi_lit 56) (fun self6 hs_527 x3_6 hl_525 x4_6 hl_526 => ?_)
      unfold L_L_types_6
      refine go_n (by rw [hl_526] <;> decide +kernel) ?_
      refine go_ltl (y := 0) (by rw [hl_526] <;> decide +kernel) (fun y18_1 hy_528 => ?_)
      refine go_n (by rw [hl_525] <;> decide +kernel) ?_
      refine go_p (by rw [hy_528] <;> decide +kernel) ?_
      rw [hs_527]
      refine go_u2 (n := 8190) (a0 := 1) (qi_lit 1) (a1 := 48) (show _ = nI 48 by rw [hl_526] <;> decide +kernel) (fun self6 hs_531 x3_6 hl_529 x4_6 hl_530 => ?_)
      unfold L_L_types_6
      refine go_n (by rw [hl_530] <;> decide +kernel) ?_
      refine go_ltl (y := 0) (by rw [hl_530] <;> decide +kernel) (fun y18_1 hy_532 => ?_)
      refine go_n (by rw [hl_529] <;> decide +kernel) ?_
      refine go_p (by rw [hy_532] <;> decide +kernel) ?_
      rw [hs_531]
      refine go_u2 (n := 8189) (a0 := 1) (qi_lit 1) (a1 := 40) (show _ = nI 40 by rw [hl_530] <;> decide +kernel) (fun self6 hs_535 x3_6 hl_533 x4_6 hl_534 => ?_)
      unfold L_L_types_6
      refine go_n (by rw [hl_534] <;> decide +kernel) ?_
      refine go_ltl (y := 0) (by rw [hl_534] <;> decide +kernel) (fun y18_1 hy_536 => ?_)
      refine go_n (by rw [hl_533] <;> decide +kernel) ?_
      refine go_p (by rw [hy_536] <;> decide +kernel) ?_
      rw [hs_535]
      refine go_u2 (n := 8188) (a0 := 1) (qi_lit 1) (a1 := 32) (show _ = nI 32 by rw [hl_534] <;> decide +kernel) (fun self6 hs_539 x3_6 hl_537 x4_6 hl_538 => ?_)
      unfold L_L_types_6
      refine go_n (by rw [hl_538] <;> decide +kernel) ?_
      refine go_ltl (y := 0) (by rw [hl_538] <;> decide +kernel) (fun y18_1 hy_540 => ?_)
      refine go_n (by rw [hl_537] <;> decide +kernel) ?_
      refine go_p (by rw [hy_540] <;> decide +kernel) ?_
      rw [hs_539]
      refine go_u2 (n := 8187) (a0 := 1) (qi_lit 1) (a1 := 24) (show _ = nI 24 by rw [hl_538] <;> decide +kernel) (fun self6 hs_543 x3_6 hl_541 x4_6 hl_542 => ?_)
      unfold L_L_types_6
      refine go_n (by rw [hl_542] <;> decide +kernel) ?_
      refine go_ltl (y := 0) (by rw [hl_542] <;> decide +kernel) (fun y18_1 hy_544 => ?_)
      refine go_n (by rw [hl_541] <;> decide +kernel) ?_
      refine go_p (by rw [hy_544] <;> decide +kernel) ?_
      rw [hs_543]
      refine go_u2 (n := 8186) (a0 := 1) (qi_lit 1) (a1 := 16) (show _ = nI 16 by rw [hl_542] <;> decide +kernel) (fun self6 hs_547 x3_6 hl_545 x4_6 hl_546 => ?_)
      unfold L_L_types_6
      refine go_n (by rw [hl_546] <;> decide +kernel) ?_
      refine go_ltl (y := 108) (by rw [hl_546] <;> decide +kernel) (fun y18_1 hy_548 => ?_)
      refine go_n (by rw [hl_545] <;> decide +kernel) ?_
      refine go_n (by rw [hy_548] <;> decide +kernel) ?_
      refine go_bd (c := 1) (S := Sq_49) (k_type (show _ = nI 108 by rw [hy_548] <;> decide +kernel) (Nat.le_of_ble_eq_true rfl) K_522 (by decide +kernel)) (fun r_35 hr_549 K_550 => ?_)
      refine go_n (by rw [hr_549] <;> decide +kernel) ?_
      rw [hs_547]
      refine go_u2 (n := 8185) (a0 := 1) (qi_lit 1) (a1 := 8) (show _ = nI 8 by rw [hl_546] <;> decide +kernel) (fun self6 hs_553 x3_6 hl_551 x4_6 hl_552 => ?_)
      unfold L_L_types_6
      refine go_n (by rw [hl_552] <;> decide +kernel) ?_
      refine go_ltl (y := 50) (by rw [hl_552] <;> decide +kernel) (fun y18_1 hy_554 => ?_)
      refine go_n (by rw [hl_551] <;> decide +kernel) ?_
      refine go_n (by rw [hy_554] <;> decide +kernel) ?_
      refine go_bd (c := 2) (S := Sq_50) (k_type (show _ = nI 50 by rw [hy_554] <;> decide +kernel) (Nat.le_of_ble_eq_true rfl) K_550 (by decide +kernel)) (fun r_35 hr_555 K_556 => ?_)
      refine go_n (by rw [hr_555] <;> decide +kernel) ?_
      rw [hs_553]
      refine go_u2 (n := 8184) (a0 := 1) (qi_lit 1) (a1 := 0) (show _ = nI 0 by rw [hl_552] <;> decide +kernel) (fun self6 hs_559 x3_6 hl_557 x4_6 hl_558 => ?_)
      unfold L_L_types_6
      refine go_n (by rw [hl_558] <;> decide +kernel) ?_
      refine go_ltl (y := 48) (by rw [hl_558] <;> decide +kernel) (fun y18_1 hy_560 => ?_)
      refine go_n (by rw [hl_557] <;> decide +kernel) ?_
      refine go_n (by rw [hy_560] <;> decide +kernel) ?_
      refine go_bd (c := 3) (S := Sq_51) (k_type (show _ = nI 48 by rw [hy_560] <;> decide +kernel) (Nat.le_of_ble_eq_true rfl) K_556 (by decide +kernel)) (fun r_35 hr_561 K_562 => ?_)
      refine go_n (by rw [hr_561] <;> decide +kernel) ?_
      rw [hs_559]
      refine go_u2 (n := 8183) (a0 := 1) (qi_lit 1) (a1 := 4294967288) (show _ = nI 4294967288 by rw [hl_558] <;> decide +kernel) (fun self6 hs_565 x3_6 hl_563 x4_6 hl_564 => ?_)
      unfold L_L_types_6
      refine go_p (by rw [hl_564] <;> decide +kernel) ?_
      refine go_z (c := 1) (by rw [hl_563] <;> decide +kernel) (by decide) ?_
      exact go_s hl_563 K_562
    refine go_n (by rw [hr_523] <;> decide +kernel) ?_
    refine go_bd (c := 1) (S := Sq_51) ?_ (fun r_17 hr_566 K_567 => ?_)
    · unfold f_L_types
      refine go_u2 (n := 8191) (a0 := 1) (qi_lit 1) (a1 := 56) (qi_lit 56) (fun self6 hs_570 x3_6 hl_568 x4_6 hl_569 => ?_)
      unfold L_L_types_6
      refine go_n (by rw [hl_569] <;> decide +kernel) ?_
      refine go_ltl (y := 0) (by rw [hl_569] <;> decide +kernel) (fun y18_1 hy_571 => ?_)
      refine go_n (by rw [hl_568] <;> decide +kernel) ?_
      refine go_p (by rw [hy_571] <;> decide +kernel) ?_
      rw [hs_570]
      refine go_u2 (n := 8190) (a0 := 1) (qi_lit 1) (a1 := 48) (show _ = nI 48 by rw [hl_569] <;> decide +kernel) (fun self6 hs_574 x3_6 hl_572 x4_6 hl_573 => ?_)
      unfold L_L_types_6
      refine go_n (by rw [hl_573] <;> decide +kernel) ?_
      refine go_ltl (y := 0) (by rw [hl_573] <;> decide +kernel) (fun y18_1 hy_575 => ?_)
      refine go_n (by rw [hl_572] <;> decide +kernel) ?_
      refine go_p (by rw [hy_575] <;> decide +kernel) ?_
      rw [hs_574]
      refine go_u2 (n := 8189) (a0 := 1) (qi_lit 1) (a1 := 40) (show _ = nI 40 by rw [hl_573] <;> decide +kernel) (fun self6 hs_578 x3_6 hl_576 x4_6 hl_577 => ?_)
      unfold L_L_types_6
      refine go_n (by rw [hl_577] <;> decide +kernel) ?_
      refine go_ltl (y := 0) (by rw [hl_577] <;> decide +kernel) (fun y18_1 hy_579 => ?_)
      refine go_n (by rw [hl_576] <;> decide +kernel) ?_
      refine go_p (by rw [hy_579] <;> decide +kernel) ?_
      rw [hs_578]
      refine go_u2 (n := 8188) (a0 := 1) (qi_lit 1) (a1 := 32) (show _ = nI 32 by rw [hl_577] <;> decide +kernel) (fun self6 hs_582 x3_6 hl_580 x4_6 hl_581 => ?_)
      unfold L_L_types_6
      refine go_n (by rw [hl_581] <;> decide +kernel) ?_
      refine go_ltl (y := 0) (by rw [hl_581] <;> decide +kernel) (fun y18_1 hy_583 => ?_)
      refine go_n (by rw [hl_580] <;> decide +kernel) ?_
      refine go_p (by rw [hy_583] <;> decide +kernel) ?_
      rw [hs_582]
      refine go_u2 (n := 8187) (a0 := 1) (qi_lit 1) (a1 := 24) (show _ = nI 24 by rw [hl_581] <;> decide +kernel) (fun self6 hs_586 x3_6 hl_584 x4_6 hl_585 => ?_)
      unfold L_L_types_6
      refine go_n (by rw [hl_585] <;> decide +kernel) ?_
      refine go_ltl (y := 0) (by rw [hl_585] <;> decide +kernel) (fun y18_1 hy_587 => ?_)
      refine go_n (by rw [hl_584] <;> decide +kernel) ?_
      refine go_p (by rw [hy_587] <;> decide +kernel) ?_
      rw [hs_586]
      refine go_u2 (n := 8186) (a0 := 1) (qi_lit 1) (a1 := 16) (show _ = nI 16 by rw [hl_585] <;> decide +kernel) (fun self6 hs_590 x3_6 hl_588 x4_6 hl_589 => ?_)
      unfold L_L_types_6
      refine go_n (by rw [hl_589] <;> decide +kernel) ?_
      refine go_ltl (y := 0) (by rw [hl_589] <;> decide +kernel) (fun y18_1 hy_591 => ?_)
      refine go_n (by rw [hl_588] <;> decide +kernel) ?_
      refine go_p (by rw [hy_591] <;> decide +kernel) ?_
      rw [hs_590]
      refine go_u2 (n := 8185) (a0 := 1) (qi_lit 1) (a1 := 8) (show _ = nI 8 by rw [hl_589] <;> decide +kernel) (fun self6 hs_594 x3_6 hl_592 x4_6 hl_593 => ?_)
      unfold L_L_types_6
      refine go_n (by rw [hl_593] <;> decide +kernel) ?_
      refine go_ltl (y := 0) (by rw [hl_593] <;> decide +kernel) (fun y18_1 hy_595 => ?_)
      refine go_n (by rw [hl_592] <;> decide +kernel) ?_
      refine go_p (by rw [hy_595] <;> decide +kernel) ?_
      rw [hs_594]
      refine go_u2 (n := 8184) (a0 := 1) (qi_lit 1) (a1 := 0) (show _ = nI 0 by rw [hl_593] <;> decide +kernel) (fun self6 hs_598 x3_6 hl_596 x4_6 hl_597 => ?_)
      unfold L_L_types_6
      refine go_n (by rw [hl_597] <;> decide +kernel) ?_
      refine go_ltl (y := 0) (by rw [hl_597] <;> decide +kernel) (fun y18_1 hy_599 => ?_)
      refine go_n (by rw [hl_596] <;> decide +kernel) ?_
      refine go_p (by rw [hy_599] <;> decide +kernel) ?_
      rw [hs_598]
      refine go_u2 (n := 8183) (a0 := 1) (qi_lit 1) (a1 := 4294967288) (show _ = nI 4294967288 by rw [hl_597] <;> decide +kernel) (fun self6 hs_602 x3_6 hl_600 x4_6 hl_601 => ?_)
      unfold L_L_types_6
      refine go_p (by rw [hl_601] <;> decide +kernel) ?_
      refine go_z (c := 1) (by rw [hl_600] <;> decide +kernel) (by decide) ?_
      exact go_s hl_600 K_524
    refine go_n (by rw [hr_566] <;> decide +kernel) ?_
    refine go_bd (c := 2) (S := Sq_52) (k_letterError  K_567 (by decide +kernel)) (fun r_24 hr_603 K_604 => ?_)
    refine go_p (by rw [hr_603] <;> decide +kernel) ?_
    refine go_z1 ?_
    exact go_s (qi_lit 1) K_604
  refine go_n (by rw [hr_519] <;> decide +kernel) ?_
  refine go_bd (c := 1) (S := Sq_58) ?_ (fun r_98 hr_605 K_606 => ?_)
  · unfold f_L_isError
    refine go_bd (c := 3) (S := Sq_53) (k_clearLetter  K_520 (by decide +kernel)) (fun r_1 hr_607 K_608 => ?_)
    refine go_n (by rw [hr_607] <;> decide +kernel) ?_
    refine go_bd (c := 1) (S := Sq_57) ?_ (fun r_9 hr_609 K_610 => ?_)
    · unfold f_L_types
      refine go_u2 (n := 8191) (a0 := 1) (qi_lit 1) (a1 := 56) (qi_lit 56) (fun self6 hs_613 x3_6 hl_611 x4_6 hl_612 => ?_)
      unfold L_L_types_6
      refine go_n (by rw [hl_612] <;> decide +kernel) ?_
      refine go_ltl (y := 0) (by rw [hl_612] <;> decide +kernel) (fun y18_1 hy_614 => ?_)
      refine go_n (by rw [hl_611] <;> decide +kernel) ?_
      refine go_p (by rw [hy_614] <;> decide +kernel) ?_
      rw [hs_613]
      refine go_u2 (n := 8190) (a0 := 1) (qi_lit 1) (a1 := 48) (show _ = nI 48 by rw [hl_612] <;> decide +kernel) (fun self6 hs_617 x3_6 hl_615 x4_6 hl_616 => ?_)
      unfold L_L_types_6
      refine go_n (by rw [hl_616] <;> decide +kernel) ?_
      refine go_ltl (y := 0) (by rw [hl_616] <;> decide +kernel) (fun y18_1 hy_618 => ?_)
      refine go_n (by rw [hl_615] <;> decide +kernel) ?_
      refine go_p (by rw [hy_618] <;> decide +kernel) ?_
      rw [hs_617]
      refine go_u2 (n := 8189) (a0 := 1) (qi_lit 1) (a1 := 40) (show _ = nI 40 by rw [hl_616] <;> decide +kernel) (fun self6 hs_621 x3_6 hl_619 x4_6 hl_620 => ?_)
      unfold L_L_types_6
      refine go_n (by rw [hl_620] <;> decide +kernel) ?_
      refine go_ltl (y := 0) (by rw [hl_620] <;> decide +kernel) (fun y18_1 hy_622 => ?_)
      refine go_n (by rw [hl_619] <;> decide +kernel) ?_
      refine go_p (by rw [hy_622] <;> decide +kernel) ?_
      rw [hs_621]
      refine go_u2 (n := 8188) (a0 := 1) (qi_lit 1) (a1 := 32) (show _ = nI 32 by rw [hl_620] <;> decide +kernel) (fun self6 hs_625 x3_6 hl_623 x4_6 hl_624 => ?_)
      unfold L_L_types_6
      refine go_n (by rw [hl_624] <;> decide +kernel) ?_
      refine go_ltl (y := 0) (by rw [hl_624] <;> decide +kernel) (fun y18_1 hy_626 => ?_)
      refine go_n (by rw [hl_623] <;> decide +kernel) ?_
      refine go_p (by rw [hy_626] <;> decide +kernel) ?_
      rw [hs_625]
      refine go_u2 (n := 8187) (a0 := 1) (qi_lit 1) (a1 := 24) (show _ = nI 24 by rw [hl_624] <;> decide +kernel) (fun self6 hs_629 x3_6 hl_627 x4_6 hl_628 => ?_)
      unfold L_L_types_6
      refine go_n (by rw [hl_628] <;> decide +kernel) ?_
      refine go_ltl (y := 106) (by rw [hl_628] <;> decide +kernel) (fun y18_1 hy_630 => ?_)
      refine go_n (by rw [hl_627] <;> decide +kernel) ?_
      refine go_n (by rw [hy_630] <;> decide +kernel) ?_
      refine go_bd (c := 1) (S := Sq_54) (k_type (show _ = nI 106 by rw [hy_630] <;> decide +kernel) (Nat.le_of_ble_eq_true rfl) K_608 (by decide +kernel)) (fun r_35 hr_631 K_632 => ?_)
      refine go_n (by rw [hr_631] <;> decide +kernel) ?_
      rw [hs_629]
      refine go_u2 (n := 8186) (a0 := 1) (qi_lit 1) (a1 := 16) (show _ = nI 16 by rw [hl_628] <;> decide +kernel) (fun self6 hs_635 x3_6 hl_633 x4_6 hl_634 => ?_)
      unfold L_L_types_6
      refine go_n (by rw [hl_634] <;> decide +kernel) ?_
      refine go_ltl (y := 57) (by rw [hl_634] <;> decide +kernel) (fun y18_1 hy_636 => ?_)
      refine go_n (by rw [hl_633] <;> decide +kernel) ?_
      refine go_n (by rw [hy_636] <;> decide +kernel) ?_
      refine go_bd (c := 2) (S := Sq_55) (k_type (show _ = nI 57 by rw [hy_636] <;> decide +kernel) (Nat.le_of_ble_eq_true rfl) K_632 (by decide +kernel)) (fun r_35 hr_637 K_638 => ?_)
      refine go_n (by rw [hr_637] <;> decide +kernel) ?_
      rw [hs_635]
      refine go_u2 (n := 8185) (a0 := 1) (qi_lit 1) (a1 := 8) (show _ = nI 8 by rw [hl_634] <;> decide +kernel) (fun self6 hs_641 x3_6 hl_639 x4_6 hl_640 => ?_)
      unfold L_L_types_6
      refine go_n (by rw [hl_640] <;> decide +kernel) ?_
      refine go_ltl (y := 104) (by rw [hl_640] <;> decide +kernel) (fun y18_1 hy_642 => ?_)
      refine go_n (by rw [hl_639] <;> decide +kernel) ?_
      refine go_n (by rw [hy_642] <;> decide +kernel) ?_
      refine go_bd (c := 3) (S := Sq_56) (k_type (show _ = nI 104 by rw [hy_642] <;> decide +kernel) (Nat.le_of_ble_eq_true rfl) K_638 (by decide +kernel)) (fun r_35 hr_643 K_644 => ?_)
      refine go_n (by rw [hr_643] <;> decide +kernel) ?_
      rw [hs_641]
      refine go_u2 (n := 8184) (a0 := 1) (qi_lit 1) (a1 := 0) (show _ = nI 0 by rw [hl_640] <;> decide +kernel) (fun self6 hs_647 x3_6 hl_645 x4_6 hl_646 => ?_)
      unfold L_L_types_6
      refine go_n (by rw [hl_646] <;> decide +kernel) ?_
      refine go_ltl (y := 50) (by rw [hl_646] <;> decide +kernel) (fun y18_1 hy_648 => ?_)
      refine go_n (by rw [hl_645] <;> decide +kernel) ?_
      refine go_n (by rw [hy_648] <;> decide +kernel) ?_
      refine go_bd (c := 4) (S := Sq_57) (k_type (show _ = nI 50 by rw [hy_648] <;> decide +kernel) (Nat.le_of_ble_eq_true rfl) K_644 (by decide +kernel)) (fun r_35 hr_649 K_650 => ?_)
      refine go_n (by rw [hr_649] <;> decide +kernel) ?_
      rw [hs_647]
      refine go_u2 (n := 8183) (a0 := 1) (qi_lit 1) (a1 := 4294967288) (show _ = nI 4294967288 by rw [hl_646] <;> decide +kernel) (fun self6 hs_653 x3_6 hl_651 x4_6 hl_652 => ?_)
      unfold L_L_types_6
      refine go_p (by rw [hl_652] <;> decide +kernel) ?_
      refine go_z (c := 1) (by rw [hl_651] <;> decide +kernel) (by decide) ?_
      exact go_s hl_651 K_650
    refine go_n (by rw [hr_609] <;> decide +kernel) ?_
    refine go_bd (c := 1) (S := Sq_57) ?_ (fun r_17 hr_654 K_655 => ?_)
    · unfold f_L_types
      refine go_u2 (n := 8191) (a0 := 1) (qi_lit 1) (a1 := 56) (qi_lit 56) (fun self6 hs_658 x3_6 hl_656 x4_6 hl_657 => ?_)
      unfold L_L_types_6
      refine go_n (by rw [hl_657] <;> decide +kernel) ?_
      refine go_ltl (y := 0) (by rw [hl_657] <;> decide +kernel) (fun y18_1 hy_659 => ?_)
      refine go_n (by rw [hl_656] <;> decide +kernel) ?_
      refine go_p (by rw [hy_659] <;> decide +kernel) ?_
      rw [hs_658]
      refine go_u2 (n := 8190) (a0 := 1) (qi_lit 1) (a1 := 48) (show _ = nI 48 by rw [hl_657] <;> decide +kernel) (fun self6 hs_662 x3_6 hl_660 x4_6 hl_661 => ?_)
      unfold L_L_types_6
      refine go_n (by rw [hl_661] <;> decide +kernel) ?_
      refine go_ltl (y := 0) (by rw [hl_661] <;> decide +kernel) (fun y18_1 hy_663 => ?_)
      refine go_n (by rw [hl_660] <;> decide +kernel) ?_
      refine go_p (by rw [hy_663] <;> decide +kernel) ?_
      rw [hs_662]
      refine go_u2 (n := 8189) (a0 := 1) (qi_lit 1) (a1 := 40) (show _ = nI 40 by rw [hl_661] <;> decide +kernel) (fun self6 hs_666 x3_6 hl_664 x4_6 hl_665 => ?_)
      unfold L_L_types_6
      refine go_n (by rw [hl_665] <;> decide +kernel) ?_
      refine go_ltl (y := 0) (by rw [hl_665] <;> decide +kernel) (fun y18_1 hy_667 => ?_)
      refine go_n (by rw [hl_664] <;> decide +kernel) ?_
      refine go_p (by rw [hy_667] <;> decide +kernel) ?_
      rw [hs_666]
      refine go_u2 (n := 8188) (a0 := 1) (qi_lit 1) (a1 := 32) (show _ = nI 32 by rw [hl_665] <;> decide +kernel) (fun self6 hs_670 x3_6 hl_668 x4_6 hl_669 => ?_)
      unfold L_L_types_6
      refine go_n (by rw [hl_669] <;> decide +kernel) ?_
      refine go_ltl (y := 0) (by rw [hl_669] <;> decide +kernel) (fun y18_1 hy_671 => ?_)
      refine go_n (by rw [hl_668] <;> decide +kernel) ?_
      refine go_p (by rw [hy_671] <;> decide +kernel) ?_
      rw [hs_670]
      refine go_u2 (n := 8187) (a0 := 1) (qi_lit 1) (a1 := 24) (show _ = nI 24 by rw [hl_669] <;> decide +kernel) (fun self6 hs_674 x3_6 hl_672 x4_6 hl_673 => ?_)
      unfold L_L_types_6
      refine go_n (by rw [hl_673] <;> decide +kernel) ?_
      refine go_ltl (y := 0) (by rw [hl_673] <;> decide +kernel) (fun y18_1 hy_675 => ?_)
      refine go_n (by rw [hl_672] <;> decide +kernel) ?_
      refine go_p (by rw [hy_675] <;> decide +kernel) ?_
      rw [hs_674]
      refine go_u2 (n := 8186) (a0 := 1) (qi_lit 1) (a1 := 16) (show _ = nI 16 by rw [hl_673] <;> decide +kernel) (fun self6 hs_678 x3_6 hl_676 x4_6 hl_677 => ?_)
      unfold L_L_types_6
      refine go_n (by rw [hl_677] <;> decide +kernel) ?_
      refine go_ltl (y := 0) (by rw [hl_677] <;> decide +kernel) (fun y18_1 hy_679 => ?_)
      refine go_n (by rw [hl_676] <;> decide +kernel) ?_
      refine go_p (by rw [hy_679] <;> decide +kernel) ?_
      rw [hs_678]
      refine go_u2 (n := 8185) (a0 := 1) (qi_lit 1) (a1 := 8) (show _ = nI 8 by rw [hl_677] <;> decide +kernel) (fun self6 hs_682 x3_6 hl_680 x4_6 hl_681 => ?_)
      unfold L_L_types_6
      refine go_n (by rw [hl_681] <;> decide +kernel) ?_
      refine go_ltl (y := 0) (by rw [hl_681] <;> decide +kernel) (fun y18_1 hy_683 => ?_)
      refine go_n (by rw [hl_680] <;> decide +kernel) ?_
      refine go_p (by rw [hy_683] <;> decide +kernel) ?_
      rw [hs_682]
      refine go_u2 (n := 8184) (a0 := 1) (qi_lit 1) (a1 := 0) (show _ = nI 0 by rw [hl_681] <;> decide +kernel) (fun self6 hs_686 x3_6 hl_684 x4_6 hl_685 => ?_)
      unfold L_L_types_6
      refine go_n (by rw [hl_685] <;> decide +kernel) ?_
      refine go_ltl (y := 0) (by rw [hl_685] <;> decide +kernel) (fun y18_1 hy_687 => ?_)
      refine go_n (by rw [hl_684] <;> decide +kernel) ?_
      refine go_p (by rw [hy_687] <;> decide +kernel) ?_
      rw [hs_686]
      refine go_u2 (n := 8183) (a0 := 1) (qi_lit 1) (a1 := 4294967288) (show _ = nI 4294967288 by rw [hl_685] <;> decide +kernel) (fun self6 hs_690 x3_6 hl_688 x4_6 hl_689 => ?_)
      unfold L_L_types_6
      refine go_p (by rw [hl_689] <;> decide +kernel) ?_
      refine go_z (c := 1) (by rw [hl_688] <;> decide +kernel) (by decide) ?_
      exact go_s hl_688 K_610
    refine go_n (by rw [hr_654] <;> decide +kernel) ?_
    refine go_bd (c := 4) (S := Sq_58) (k_letterError  K_655 (by decide +kernel)) (fun r_24 hr_691 K_692 => ?_)
    refine go_p (by rw [hr_691] <;> decide +kernel) ?_
    refine go_z1 ?_
    exact go_s (qi_lit 1) K_692
  refine go_n (by rw [hr_605] <;> decide +kernel) ?_
  refine go_bd (c := 1) (S := Sq_63) ?_ (fun r_110 hr_693 K_694 => ?_)
  · unfold f_L_isError
    refine go_bd (c := 4) (S := Sq_59) (k_clearLetter  K_606 (by decide +kernel)) (fun r_1 hr_695 K_696 => ?_)
    refine go_n (by rw [hr_695] <;> decide +kernel) ?_
    refine go_bd (c := 1) (S := Sq_63) ?_ (fun r_9 hr_697 K_698 => ?_)
    · unfold f_L_types
      refine go_u2 (n := 8191) (a0 := 1) (qi_lit 1) (a1 := 56) (qi_lit 56) (fun self6 hs_701 x3_6 hl_699 x4_6 hl_700 => ?_)
      unfold L_L_types_6
      refine go_n (by rw [hl_700] <;> decide +kernel) ?_
      refine go_ltl (y := 0) (by rw [hl_700] <;> decide +kernel) (fun y18_1 hy_702 => ?_)
      refine go_n (by rw [hl_699] <;> decide +kernel) ?_
      refine go_p (by rw [hy_702] <;> decide +kernel) ?_
      rw [hs_701]
      refine go_u2 (n := 8190) (a0 := 1) (qi_lit 1) (a1 := 48) (show _ = nI 48 by rw [hl_700] <;> decide +kernel) (fun self6 hs_705 x3_6 hl_703 x4_6 hl_704 => ?_)
      unfold L_L_types_6
      refine go_n (by rw [hl_704] <;> decide +kernel) ?_
      refine go_ltl (y := 0) (by rw [hl_704] <;> decide +kernel) (fun y18_1 hy_706 => ?_)
      refine go_n (by rw [hl_703] <;> decide +kernel) ?_
      refine go_p (by rw [hy_706] <;> decide +kernel) ?_
      rw [hs_705]
      refine go_u2 (n := 8189) (a0 := 1) (qi_lit 1) (a1 := 40) (show _ = nI 40 by rw [hl_704] <;> decide +kernel) (fun self6 hs_709 x3_6 hl_707 x4_6 hl_708 => ?_)
      unfold L_L_types_6
      refine go_n (by rw [hl_708] <;> decide +kernel) ?_
      refine go_ltl (y := 0) (by rw [hl_708] <;> decide +kernel) (fun y18_1 hy_710 => ?_)
      refine go_n (by rw [hl_707] <;> decide +kernel) ?_
      refine go_p (by rw [hy_710] <;> decide +kernel) ?_
      rw [hs_709]
      refine go_u2 (n := 8188) (a0 := 1) (qi_lit 1) (a1 := 32) (show _ = nI 32 by rw [hl_708] <;> decide +kernel) (fun self6 hs_713 x3_6 hl_711 x4_6 hl_712 => ?_)
      unfold L_L_types_6
      refine go_n (by rw [hl_712] <;> decide +kernel) ?_
      refine go_ltl (y := 106) (by rw [hl_712] <;> decide +kernel) (fun y18_1 hy_714 => ?_)
      refine go_n (by rw [hl_711] <;> decide +kernel) ?_
      refine go_n (by rw [hy_714] <;> decide +kernel) ?_
      refine go_bd (c := 1) (S := Sq_60) (k_type (show _ = nI 106 by rw [hy_714] <;> decide +kernel) (Nat.le_of_ble_eq_true rfl) K_696 (by decide +kernel)) (fun r_35 hr_715 K_716 => ?_)
      refine go_n (by rw [hr_715] <;> decide +kernel) ?_
      rw [hs_713]
      refine go_u2 (n := 8187) (a0 := 1) (qi_lit 1) (a1 := 24) (show _ = nI 24 by rw [hl_712] <;> decide +kernel) (fun self6 hs_719 x3_6 hl_717 x4_6 hl_718 => ?_)
      unfold L_L_types_6
      refine go_n (by rw [hl_718] <;> decide +kernel) ?_
      refine go_ltl (y := 57) (by rw [hl_718] <;> decide +kernel) (fun y18_1 hy_720 => ?_)
      refine go_n (by rw [hl_717] <;> decide +kernel) ?_
      refine go_n (by rw [hy_720] <;> decide +kernel) ?_
      refine go_bd (c := 2) (S := Sq_61) (k_type (show _ = nI 57 by rw [hy_720] <;> decide +kernel) (Nat.le_of_ble_eq_true rfl) K_716 (by decide +kernel)) (fun r_35 hr_721 K_722 => ?_)
      refine go_n (by rw [hr_721] <;> decide +kernel) ?_
      rw [hs_719]
      refine go_u2 (n := 8186) (a0 := 1) (qi_lit 1) (a1 := 16) (show _ = nI 16 by rw [hl_718] <;> decide +kernel) (fun self6 hs_725 x3_6 hl_723 x4_6 hl_724 => ?_)
      unfold L_L_types_6
      refine go_n (by rw [hl_724] <;> decide +kernel) ?_
      refine go_ltl (y := 104) (by rw [hl_724] <;> decide +kernel) (fun y18_1 hy_726 => ?_)
      refine go_n (by rw [hl_723] <;> decide +kernel) ?_
      refine go_n (by rw [hy_726] <;> decide +kernel) ?_
      refine go_bd (c := 3) (S := Sq_62) (k_type (show _ = nI 104 by rw [hy_726] <;> decide +kernel) (Nat.le_of_ble_eq_true rfl) K_722 (by decide +kernel)) (fun r_35 hr_727 K_728 => ?_)
      refine go_n (by rw [hr_727] <;> decide +kernel) ?_
      rw [hs_725]
      refine go_u2 (n := 8185) (a0 := 1) (qi_lit 1) (a1 := 8) (show _ = nI 8 by rw [hl_724] <;> decide +kernel) (fun self6 hs_731 x3_6 hl_729 x4_6 hl_730 => ?_)
      unfold L_L_types_6
      refine go_n (by rw [hl_730] <;> decide +kernel) ?_
      refine go_ltl (y := 50) (by rw [hl_730] <;> decide +kernel) (fun y18_1 hy_732 => ?_)
      refine go_n (by rw [hl_729] <;> decide +kernel) ?_
      refine go_n (by rw [hy_732] <;> decide +kernel) ?_
      refine go_bd (c := 4) (S := Sq_58) (k_type (show _ = nI 50 by rw [hy_732] <;> decide +kernel) (Nat.le_of_ble_eq_true rfl) K_728 (by decide +kernel)) (fun r_35 hr_733 K_734 => ?_)
      refine go_n (by rw [hr_733] <;> decide +kernel) ?_
      rw [hs_731]
      refine go_u2 (n := 8184) (a0 := 1) (qi_lit 1) (a1 := 0) (show _ = nI 0 by rw [hl_730] <;> decide +kernel) (fun self6 hs_737 x3_6 hl_735 x4_6 hl_736 => ?_)
      unfold L_L_types_6
      refine go_n (by rw [hl_736] <;> decide +kernel) ?_
      refine go_ltl (y := 50) (by rw [hl_736] <;> decide +kernel) (fun y18_1 hy_738 => ?_)
      refine go_n (by rw [hl_735] <;> decide +kernel) ?_
      refine go_n (by rw [hy_738] <;> decide +kernel) ?_
      refine go_bd (c := 5) (S := Sq_63) (k_type (show _ = nI 50 by rw [hy_738] <;> decide +kernel) (Nat.le_of_ble_eq_true rfl) K_734 (by decide +kernel)) (fun r_35 hr_739 K_740 => ?_)
      refine go_n (by rw [hr_739] <;> decide +kernel) ?_
      rw [hs_737]
      refine go_u2 (n := 8183) (a0 := 1) (qi_lit 1) (a1 := 4294967288) (show _ = nI 4294967288 by rw [hl_736] <;> decide +kernel) (fun self6 hs_743 x3_6 hl_741 x4_6 hl_742 => ?_)
      unfold L_L_types_6
      refine go_p (by rw [hl_742] <;> decide +kernel) ?_
      refine go_z (c := 1) (by rw [hl_741] <;> decide +kernel) (by decide) ?_
      exact go_s hl_741 K_740
    refine go_n (by rw [hr_697] <;> decide +kernel) ?_
    refine go_bd (c := 1) (S := Sq_63) ?_ (fun r_17 hr_744 K_745 => ?_)
    · unfold f_L_types
      refine go_u2 (n := 8191) (a0 := 1) (qi_lit 1) (a1 := 56) (qi_lit 56) (fun self6 hs_748 x3_6 hl_746 x4_6 hl_747 => ?_)
      unfold L_L_types_6
      refine go_n (by rw [hl_747] <;> decide +kernel) ?_
      refine go_ltl (y := 0) (by rw [hl_747] <;> decide +kernel) (fun y18_1 hy_749 => ?_)
      refine go_n (by rw [hl_746] <;> decide +kernel) ?_
      refine go_p (by rw [hy_749] <;> decide +kernel) ?_
      rw [hs_748]
      refine go_u2 (n := 8190) (a0 := 1) (qi_lit 1) (a1 := 48) (show _ = nI 48 by rw [hl_747] <;> decide +kernel) (fun self6 hs_752 x3_6 hl_750 x4_6 hl_751 => ?_)
      unfold L_L_types_6
      refine go_n (by rw [hl_751] <;> decide +kernel) ?_
      refine go_ltl (y := 0) (by rw [hl_751] <;> decide +kernel) (fun y18_1 hy_753 => ?_)
      refine go_n (by rw [hl_750] <;> decide +kernel) ?_
      refine go_p (by rw [hy_753] <;> decide +kernel) ?_
      rw [hs_752]
      refine go_u2 (n := 8189) (a0 := 1) (qi_lit 1) (a1 := 40) (show _ = nI 40 by rw [hl_751] <;> decide +kernel) (fun self6 hs_756 x3_6 hl_754 x4_6 hl_755 => ?_)
      unfold L_L_types_6
      refine go_n (by rw [hl_755] <;> decide +kernel) ?_
      refine go_ltl (y := 0) (by rw [hl_755] <;> decide +kernel) (fun y18_1 hy_757 => ?_)
      refine go_n (by rw [hl_754] <;> decide +kernel) ?_
      refine go_p (by rw [hy_757] <;> decide +kernel) ?_
      rw [hs_756]
      refine go_u2 (n := 8188) (a0 := 1) (qi_lit 1) (a1 := 32) (show _ = nI 32 by rw [hl_755] <;> decide +kernel) (fun self6 hs_760 x3_6 hl_758 x4_6 hl_759 => ?_)
      unfold L_L_types_6
      refine go_n (by rw [hl_759] <;> decide +kernel) ?_
      refine go_ltl (y := 0) (by rw [hl_759] <;> decide +kernel) (fun y18_1 hy_761 => ?_)
      refine go_n (by rw [hl_758] <;> decide +kernel) ?_
      refine go_p (by rw [hy_761] <;> decide +kernel) ?_
      rw [hs_760]
      refine go_u2 (n := 8187) (a0 := 1) (qi_lit 1) (a1 := 24) (show _ = nI 24 by rw [hl_759] <;> decide +kernel) (fun self6 hs_764 x3_6 hl_762 x4_6 hl_763 => ?_)
      unfold L_L_types_6
      refine go_n (by rw [hl_763] <;> decide +kernel) ?_
      refine go_ltl (y := 0) (by rw [hl_763] <;> decide +kernel) (fun y18_1 hy_765 => ?_)
      refine go_n (by rw [hl_762] <;> decide +kernel) ?_
      refine go_p (by rw [hy_765] <;> decide +kernel) ?_
      rw [hs_764]
      refine go_u2 (n := 8186) (a0 := 1) (qi_lit 1) (a1 := 16) (show _ = nI 16 by rw [hl_763] <;> decide +kernel) (fun self6 hs_768 x3_6 hl_766 x4_6 hl_767 => ?_)
      unfold L_L_types_6
      refine go_n (by rw [hl_767] <;> decide +kernel) ?_
      refine go_ltl (y := 0) (by rw [hl_767] <;> decide +kernel) (fun y18_1 hy_769 => ?_)
      refine go_n (by rw [hl_766] <;> decide +kernel) ?_
      refine go_p (by rw [hy_769] <;> decide +kernel) ?_
      rw [hs_768]
      refine go_u2 (n := 8185) (a0 := 1) (qi_lit 1) (a1 := 8) (show _ = nI 8 by rw [hl_767] <;> decide +kernel) (fun self6 hs_772 x3_6 hl_770 x4_6 hl_771 => ?_)
      unfold L_L_types_6
      refine go_n (by rw [hl_771] <;> decide +kernel) ?_
      refine go_ltl (y := 0) (by rw [hl_771] <;> decide +kernel) (fun y18_1 hy_773 => ?_)
      refine go_n (by rw [hl_770] <;> decide +kernel) ?_
      refine go_p (by rw [hy_773] <;> decide +kernel) ?_
      rw [hs_772]
      refine go_u2 (n := 8184) (a0 := 1) (qi_lit 1) (a1 := 0) (show _ = nI 0 by rw [hl_771] <;> decide +kernel) (fun self6 hs_776 x3_6 hl_774 x4_6 hl_775 => ?_)
      unfold L_L_types_6
      refine go_n (by rw [hl_775] <;> decide +kernel) ?_
      refine go_ltl (y := 0) (by rw [hl_775] <;> decide +kernel) (fun y18_1 hy_777 => ?_)
      refine go_n (by rw [hl_774] <;> decide +kernel) ?_
      refine go_p (by rw [hy_777] <;> decide +kernel) ?_
      rw [hs_776]
      refine go_u2 (n := 8183) (a0 := 1) (qi_lit 1) (a1 := 4294967288) (show _ = nI 4294967288 by rw [hl_775] <;> decide +kernel) (fun self6 hs_780 x3_6 hl_778 x4_6 hl_779 => ?_)
      unfold L_L_types_6
      refine go_p (by rw [hl_779] <;> decide +kernel) ?_
      refine go_z (c := 1) (by rw [hl_778] <;> decide +kernel) (by decide) ?_
      exact go_s hl_778 K_698
    refine go_n (by rw [hr_744] <;> decide +kernel) ?_
    refine go_bd (c := 4) (S := Sq_63) (k_letterError  K_745 (by decide +kernel)) (fun r_24 hr_781 K_782 => ?_)
    refine go_p (by rw [hr_781] <;> decide +kernel) ?_
    refine go_z1 ?_
    exact go_s (qi_lit 1) K_782
  refine go_n (by rw [hr_693] <;> decide +kernel) ?_
  refine go_bd (c := 1) (S := Sq_75) ?_ (fun r_125 hr_783 K_784 => ?_)
  · unfold f_L_isError
    refine go_bd (c := 5) (S := Sq_64) (k_clearLetter  K_694 (by decide +kernel)) (fun r_1 hr_785 K_786 => ?_)
    refine go_n (by rw [hr_785] <;> decide +kernel) ?_
    refine go_bd (c := 1) (S := Sq_72) ?_ (fun r_9 hr_787 K_788 => ?_)
    · unfold f_L_types
      refine go_u2 (n := 8191) (a0 := 1) (qi_lit 1) (a1 := 56) (qi_lit 56) (fun self6 hs_791 x3_6 hl_789 x4_6 hl_790 => ?_)
      unfold L_L_types_6
      refine go_n (by rw [hl_790] <;> decide +kernel) ?_
      refine go_ltl (y := 106) (by rw [hl_790] <;> decide +kernel) (fun y18_1 hy_792 => ?_)
      refine go_n (by rw [hl_789] <;> decide +kernel) ?_
      refine go_n (by rw [hy_792] <;> decide +kernel) ?_
      refine go_bd (c := 1) (S := Sq_65) (k_type (show _ = nI 106 by rw [hy_792] <;> decide +kernel) (Nat.le_of_ble_eq_true rfl) K_786 (by decide +kernel)) (fun r_35 hr_793 K_794 => ?_)
      refine go_n (by rw [hr_793] <;> decide +kernel) ?_
      rw [hs_791]
      refine go_u2 (n := 8190) (a0 := 1) (qi_lit 1) (a1 := 48) (show _ = nI 48 by rw [hl_790] <;> decide +kernel) (fun self6 hs_797 x3_6 hl_795 x4_6 hl_796 => ?_)
      unfold L_L_types_6
      refine go_n (by rw [hl_796] <;> decide +kernel) ?_
      refine go_ltl (y := 57) (by rw [hl_796] <;> decide +kernel) (fun y18_1 hy_798 => ?_)
      refine go_n (by rw [hl_795] <;> decide +kernel) ?_
      refine go_n (by rw [hy_798] <;> decide +kernel) ?_
      refine go_bd (c := 2) (S := Sq_66) (k_type (show _ = nI 57 by rw [hy_798] <;> decide +kernel) (Nat.le_of_ble_eq_true rfl) K_794 (by decide +kernel)) (fun r_35 hr_799 K_800 => ?_)
      refine go_n (by rw [hr_799] <;> decide +kernel) ?_
      rw [hs_797]
      refine go_u2 (n := 8189) (a0 := 1) (qi_lit 1) (a1 := 40) (show _ = nI 40 by rw [hl_796] <;> decide +kernel) (fun self6 hs_803 x3_6 hl_801 x4_6 hl_802 => ?_)
      unfold L_L_types_6
      refine go_n (by rw [hl_802] <;> decide +kernel) ?_
      refine go_ltl (y := 104) (by rw [hl_802] <;> decide +kernel) (fun y18_1 hy_804 => ?_)
      refine go_n (by rw [hl_801] <;> decide +kernel) ?_
      refine go_n (by rw [hy_804] <;> decide +kernel) ?_
      refine go_bd (c := 3) (S := Sq_67) (k_type (show _ = nI 104 by rw [hy_804] <;> decide +kernel) (Nat.le_of_ble_eq_true rfl) K_800 (by decide +kernel)) (fun r_35 hr_805 K_806 => ?_)
      refine go_n (by rw [hr_805] <;> decide +kernel) ?_
      rw [hs_803]
      refine go_u2 (n := 8188) (a0 := 1) (qi_lit 1) (a1 := 32) (show _ = nI 32 by rw [hl_802] <;> decide +kernel) (fun self6 hs_809 x3_6 hl_807 x4_6 hl_808 => ?_)
      unfold L_L_types_6
      refine go_n (by rw [hl_808] <;> decide +kernel) ?_
      refine go_ltl (y := 57) (by rw [hl_808] <;> decide +kernel) (fun y18_1 hy_810 => ?_)
      refine go_n (by rw [hl_807] <;> decide +kernel) ?_
      refine go_n (by rw [hy_810] <;> decide +kernel) ?_
      refine go_bd (c := 4) (S := Sq_68) (k_type (show _ = nI 57 by rw [hy_810] <;> decide +kernel) (Nat.le_of_ble_eq_true rfl) K_806 (by decide +kernel)) (fun r_35 hr_811 K_812 => ?_)
      refine go_n (by rw [hr_811] <;> decide +kernel) ?_
      rw [hs_809]
      refine go_u2 (n := 8187) (a0 := 1) (qi_lit 1) (a1 := 24) (show _ = nI 24 by rw [hl_808] <;> decide +kernel) (fun self6 hs_815 x3_6 hl_813 x4_6 hl_814 => ?_)
      unfold L_L_types_6
      refine go_n (by rw [hl_814] <;> decide +kernel) ?_
      refine go_ltl (y := 48) (by rw [hl_814] <;> decide +kernel) (fun y18_1 hy_816 => ?_)
      refine go_n (by rw [hl_813] <;> decide +kernel) ?_
      refine go_n (by rw [hy_816] <;> decide +kernel) ?_
      refine go_bd (c := 5) (S := Sq_69) (k_type (show _ = nI 48 by rw [hy_816] <;> decide +kernel) (Nat.le_of_ble_eq_true rfl) K_812 (by decide +kernel)) (fun r_35 hr_817 K_818 => ?_)
      refine go_n (by rw [hr_817] <;> decide +kernel) ?_
      rw [hs_815]
      refine go_u2 (n := 8186) (a0 := 1) (qi_lit 1) (a1 := 16) (show _ = nI 16 by rw [hl_814] <;> decide +kernel) (fun self6 hs_821 x3_6 hl_819 x4_6 hl_820 => ?_)
      unfold L_L_types_6
      refine go_n (by rw [hl_820] <;> decide +kernel) ?_
      refine go_ltl (y := 114) (by rw [hl_820] <;> decide +kernel) (fun y18_1 hy_822 => ?_)
      refine go_n (by rw [hl_819] <;> decide +kernel) ?_
      refine go_n (by rw [hy_822] <;> decide +kernel) ?_
      refine go_bd (c := 6) (S := Sq_70) (k_type (show _ = nI 114 by rw [hy_822] <;> decide +kernel) (Nat.le_of_ble_eq_true rfl) K_818 (by decide +kernel)) (fun r_35 hr_823 K_824 => ?_)
      refine go_n (by rw [hr_823] <;> decide +kernel) ?_
      rw [hs_821]
      refine go_u2 (n := 8185) (a0 := 1) (qi_lit 1) (a1 := 8) (show _ = nI 8 by rw [hl_820] <;> decide +kernel) (fun self6 hs_827 x3_6 hl_825 x4_6 hl_826 => ?_)
      unfold L_L_types_6
      refine go_n (by rw [hl_826] <;> decide +kernel) ?_
      refine go_ltl (y := 53) (by rw [hl_826] <;> decide +kernel) (fun y18_1 hy_828 => ?_)
      refine go_n (by rw [hl_825] <;> decide +kernel) ?_
      refine go_n (by rw [hy_828] <;> decide +kernel) ?_
      refine go_bd (c := 7) (S := Sq_71) (k_type (show _ = nI 53 by rw [hy_828] <;> decide +kernel) (Nat.le_of_ble_eq_true rfl) K_824 (by decide +kernel)) (fun r_35 hr_829 K_830 => ?_)
      refine go_n (by rw [hr_829] <;> decide +kernel) ?_
      rw [hs_827]
      refine go_u2 (n := 8184) (a0 := 1) (qi_lit 1) (a1 := 0) (show _ = nI 0 by rw [hl_826] <;> decide +kernel) (fun self6 hs_833 x3_6 hl_831 x4_6 hl_832 => ?_)
      unfold L_L_types_6
      refine go_n (by rw [hl_832] <;> decide +kernel) ?_
      refine go_ltl (y := 45) (by rw [hl_832] <;> decide +kernel) (fun y18_1 hy_834 => ?_)
      refine go_n (by rw [hl_831] <;> decide +kernel) ?_
      refine go_n (by rw [hy_834] <;> decide +kernel) ?_
      refine go_bd (c := 8) (S := Sq_72) (k_type (show _ = nI 45 by rw [hy_834] <;> decide +kernel) (Nat.le_of_ble_eq_true rfl) K_830 (by decide +kernel)) (fun r_35 hr_835 K_836 => ?_)
      refine go_n (by rw [hr_835] <;> decide +kernel) ?_
      rw [hs_833]
      refine go_u2 (n := 8183) (a0 := 1) (qi_lit 1) (a1 := 4294967288) (show _ = nI 4294967288 by rw [hl_832] <;> decide +kernel) (fun self6 hs_839 x3_6 hl_837 x4_6 hl_838 => ?_)
      unfold L_L_types_6
      refine go_p (by rw [hl_838] <;> decide +kernel) ?_
      refine go_z (c := 1) (by rw [hl_837] <;> decide +kernel) (by decide) ?_
      exact go_s hl_837 K_836
    refine go_n (by rw [hr_787] <;> decide +kernel) ?_
    refine go_bd (c := 1) (S := Sq_74) ?_ (fun r_17 hr_840 K_841 => ?_)
    · unfold f_L_types
      refine go_u2 (n := 8191) (a0 := 1) (qi_lit 1) (a1 := 56) (qi_lit 56) (fun self6 hs_844 x3_6 hl_842 x4_6 hl_843 => ?_)
      unfold L_L_types_6
      refine go_n (by rw [hl_843] <;> decide +kernel) ?_
      refine go_ltl (y := 0) (by rw [hl_843] <;> decide +kernel) (fun y18_1 hy_845 => ?_)
      refine go_n (by rw [hl_842] <;> decide +kernel) ?_
      refine go_p (by rw [hy_845] <;> decide +kernel) ?_
      rw [hs_844]
      refine go_u2 (n := 8190) (a0 := 1) (qi_lit 1) (a1 := 48) (show _ = nI 48 by rw [hl_843] <;> decide +kernel) (fun self6 hs_848 x3_6 hl_846 x4_6 hl_847 => ?_)
      unfold L_L_types_6
      refine go_n (by rw [hl_847] <;> decide +kernel) ?_
      refine go_ltl (y := 0) (by rw [hl_847] <;> decide +kernel) (fun y18_1 hy_849 => ?_)
      refine go_n (by rw [hl_846] <;> decide +kernel) ?_
      refine go_p (by rw [hy_849] <;> decide +kernel) ?_
      rw [hs_848]
      refine go_u2 (n := 8189) (a0 := 1) (qi_lit 1) (a1 := 40) (show _ = nI 40 by rw [hl_847] <;> decide +kernel) (fun self6 hs_852 x3_6 hl_850 x4_6 hl_851 => ?_)
      unfold L_L_types_6
      refine go_n (by rw [hl_851] <;> decide +kernel) ?_
      refine go_ltl (y := 0) (by rw [hl_851] <;> decide +kernel) (fun y18_1 hy_853 => ?_)
      refine go_n (by rw [hl_850] <;> decide +kernel) ?_
      refine go_p (by rw [hy_853] <;> decide +kernel) ?_
      rw [hs_852]
      refine go_u2 (n := 8188) (a0 := 1) (qi_lit 1) (a1 := 32) (show _ = nI 32 by rw [hl_851] <;> decide +kernel) (fun self6 hs_856 x3_6 hl_854 x4_6 hl_855 => ?_)
      unfold L_L_types_6
      refine go_n (by rw [hl_855] <;> decide +kernel) ?_
      refine go_ltl (y := 0) (by rw [hl_855] <;> decide +kernel) (fun y18_1 hy_857 => ?_)
      refine go_n (by rw [hl_854] <;> decide +kernel) ?_
      refine go_p (by rw [hy_857] <;> decide +kernel) ?_
      rw [hs_856]
      refine go_u2 (n := 8187) (a0 := 1) (qi_lit 1) (a1 := 24) (show _ = nI 24 by rw [hl_855] <;> decide +kernel) (fun self6 hs_860 x3_6 hl_858 x4_6 hl_859 => ?_)
      unfold L_L_types_6
      refine go_n (by rw [hl_859] <;> decide +kernel) ?_
      refine go_ltl (y := 0) (by rw [hl_859] <;> decide +kernel) (fun y18_1 hy_861 => ?_)
      refine go_n (by rw [hl_858] <;> decide +kernel) ?_
      refine go_p (by rw [hy_861] <;> decide +kernel) ?_
      rw [hs_860]
      refine go_u2 (n := 8186) (a0 := 1) (qi_lit 1) (a1 := 16) (show _ = nI 16 by rw [hl_859] <;> decide +kernel) (fun self6 hs_864 x3_6 hl_862 x4_6 hl_863 => ?_)
      unfold L_L_types_6
      refine go_n (by rw [hl_863] <;> decide +kernel) ?_
      refine go_ltl (y := 0) (by rw [hl_863] <;> decide +kernel) (fun y18_1 hy_865 => ?_)
      refine go_n (by rw [hl_862] <;> decide +kernel) ?_
      refine go_p (by rw [hy_865] <;> decide +kernel) ?_
      rw [hs_864]
      refine go_u2 (n := 8185) (a0 := 1) (qi_lit 1) (a1 := 8) (show _ = nI 8 by rw [hl_863] <;> decide +kernel) (fun self6 hs_868 x3_6 hl_866 x4_6 hl_867 => ?_)
      unfold L_L_types_6
      refine go_n (by rw [hl_867] <;> decide +kernel) ?_
      refine go_ltl (y := 52) (by rw [hl_867] <;> decide +kernel) (fun y18_1 hy_869 => ?_)
      refine go_n (by rw [hl_866] <;> decide +kernel) ?_
      refine go_n (by rw [hy_869] <;> decide +kernel) ?_
      refine go_bd (c := 9) (S := Sq_73) (k_type (show _ = nI 52 by rw [hy_869] <;> decide +kernel) (Nat.le_of_ble_eq_true rfl) K_788 (by decide +kernel)) (fun r_35 hr_870 K_871 => ?_)
      refine go_n (by rw [hr_870] <;> decide +kernel) ?_
      rw [hs_868]
      refine go_u2 (n := 8184) (a0 := 1) (qi_lit 1) (a1 := 0) (show _ = nI 0 by rw [hl_867] <;> decide +kernel) (fun self6 hs_874 x3_6 hl_872 x4_6 hl_873 => ?_)
      unfold L_L_types_6
      refine go_n (by rw [hl_873] <;> decide +kernel) ?_
      refine go_ltl (y := 57) (by rw [hl_873] <;> decide +kernel) (fun y18_1 hy_875 => ?_)
      refine go_n (by rw [hl_872] <;> decide +kernel) ?_
      refine go_n (by rw [hy_875] <;> decide +kernel) ?_
      refine go_bd (c := 10) (S := Sq_74) (k_type (show _ = nI 57 by rw [hy_875] <;> decide +kernel) (Nat.le_of_ble_eq_true rfl) K_871 (by decide +kernel)) (fun r_35 hr_876 K_877 => ?_)
      refine go_n (by rw [hr_876] <;> decide +kernel) ?_
      rw [hs_874]
      refine go_u2 (n := 8183) (a0 := 1) (qi_lit 1) (a1 := 4294967288) (show _ = nI 4294967288 by rw [hl_873] <;> decide +kernel) (fun self6 hs_880 x3_6 hl_878 x4_6 hl_879 => ?_)
      unfold L_L_types_6
      refine go_p (by rw [hl_879] <;> decide +kernel) ?_
      refine go_z (c := 1) (by rw [hl_878] <;> decide +kernel) (by decide) ?_
      exact go_s hl_878 K_877
    refine go_n (by rw [hr_840] <;> decide +kernel) ?_
    refine go_bd (c := 9) (S := Sq_75) (k_letterError  K_841 (by decide +kernel)) (fun r_24 hr_881 K_882 => ?_)
    refine go_p (by rw [hr_881] <;> decide +kernel) ?_
    refine go_z1 ?_
    exact go_s (qi_lit 1) K_882
  refine go_n (by rw [hr_783] <;> decide +kernel) ?_
  refine go_bd (c := 1) (S := Sq_89) ?_ (fun r_142 hr_883 K_884 => ?_)
  · unfold f_L_isError
    refine go_bd (c := 10) (S := Sq_76) (k_clearLetter  K_784 (by decide +kernel)) (fun r_1 hr_885 K_886 => ?_)
    refine go_n (by rw [hr_885] <;> decide +kernel) ?_
    refine go_bd (c := 1) (S := Sq_84) ?_ (fun r_9 hr_887 K_888 => ?_)
    · unfold f_L_types
      refine go_u2 (n := 8191) (a0 := 1) (qi_lit 1) (a1 := 56) (qi_lit 56) (fun self6 hs_891 x3_6 hl_889 x4_6 hl_890 => ?_)
      unfold L_L_types_6
      refine go_n (by rw [hl_890] <;> decide +kernel) ?_
      refine go_ltl (y := 106) (by rw [hl_890] <;> decide +kernel) (fun y18_1 hy_892 => ?_)
      refine go_n (by rw [hl_889] <;> decide +kernel) ?_
      refine go_n (by rw [hy_892] <;> decide +kernel) ?_
      refine go_bd (c := 1) (S := Sq_77) (k_type (show _ = nI 106 by rw [hy_892] <;> decide +kernel) (Nat.le_of_ble_eq_true rfl) K_886 (by decide +kernel)) (fun r_35 hr_893 K_894 => ?_)
      refine go_n (by rw [hr_893] <;> decide +kernel) ?_
      rw [hs_891]
      refine go_u2 (n := 8190) (a0 := 1) (qi_lit 1) (a1 := 48) (show _ = nI 48 by rw [hl_890] <;> decide +kernel) (fun self6 hs_897 x3_6 hl_895 x4_6 hl_896 => ?_)
      unfold L_L_types_6
      refine go_n (by rw [hl_896] <;> decide +kernel) ?_
      refine go_ltl (y := 57) (by rw [hl_896] <;> decide +kernel) (fun y18_1 hy_898 => ?_)
      refine go_n (by rw [hl_895] <;> decide +kernel) ?_
      refine go_n (by rw [hy_898] <;> decide +kernel) ?_
      refine go_bd (c := 2) (S := Sq_78) (k_type (show _ = nI 57 by rw [hy_898] <;> decide +kernel) (Nat.le_of_ble_eq_true rfl) K_894 (by decide +kernel)) (fun r_35 hr_899 K_900 => ?_)
      refine go_n (by rw [hr_899] <;> decide +kernel) ?_
      rw [hs_897]
      refine go_u2 (n := 8189) (a0 := 1) (qi_lit 1) (a1 := 40) (show _ = nI 40 by rw [hl_896] <;> decide +kernel) (fun self6 hs_903 x3_6 hl_901 x4_6 hl_902 => ?_)
      unfold L_L_types_6
      refine go_n (by rw [hl_902] <;> decide +kernel) ?_
      refine go_ltl (y := 104) (by rw [hl_902] <;> decide +kernel) (fun y18_1 hy_904 => ?_)
      refine go_n (by rw [hl_901] <;> decide +kernel) ?_
      refine go_n (by rw [hy_904] <;> decide +kernel) ?_
      refine go_bd (c := 3) (S := Sq_79) (k_type (show _ = nI 104 by rw [hy_904] <;> decide +kernel) (Nat.le_of_ble_eq_true rfl) K_900 (by decide +kernel)) (fun r_35 hr_905 K_906 => ?_)
      refine go_n (by rw [hr_905] <;> decide +kernel) ?_
      rw [hs_903]
      refine go_u2 (n := 8188) (a0 := 1) (qi_lit 1) (a1 := 32) (show _ = nI 32 by rw [hl_902] <;> decide +kernel) (fun self6 hs_909 x3_6 hl_907 x4_6 hl_908 => ?_)
      unfold L_L_types_6
      refine go_n (by rw [hl_908] <;> decide +kernel) ?_
      refine go_ltl (y := 57) (by rw [hl_908] <;> decide +kernel) (fun y18_1 hy_910 => ?_)
      refine go_n (by rw [hl_907] <;> decide +kernel) ?_
      refine go_n (by rw [hy_910] <;> decide +kernel) ?_
      refine go_bd (c := 4) (S := Sq_80) (k_type (show _ = nI 57 by rw [hy_910] <;> decide +kernel) (Nat.le_of_ble_eq_true rfl) K_906 (by decide +kernel)) (fun r_35 hr_911 K_912 => ?_)
      refine go_n (by rw [hr_911] <;> decide +kernel) ?_
      rw [hs_909]
      refine go_u2 (n := 8187) (a0 := 1) (qi_lit 1) (a1 := 24) (show _ = nI 24 by rw [hl_908] <;> decide +kernel) (fun self6 hs_915 x3_6 hl_913 x4_6 hl_914 => ?_)
      unfold L_L_types_6
      refine go_n (by rw [hl_914] <;> decide +kernel) ?_
      refine go_ltl (y := 48) (by rw [hl_914] <;> decide +kernel) (fun y18_1 hy_916 => ?_)
      refine go_n (by rw [hl_913] <;> decide +kernel) ?_
      refine go_n (by rw [hy_916] <;> decide +kernel) ?_
      refine go_bd (c := 5) (S := Sq_81) (k_type (show _ = nI 48 by rw [hy_916] <;> decide +kernel) (Nat.le_of_ble_eq_true rfl) K_912 (by decide +kernel)) (fun r_35 hr_917 K_918 => ?_)
      refine go_n (by rw [hr_917] <;> decide +kernel) ?_
      rw [hs_915]
      refine go_u2 (n := 8186) (a0 := 1) (qi_lit 1) (a1 := 16) (show _ = nI 16 by rw [hl_914] <;> decide +kernel) (fun self6 hs_921 x3_6 hl_919 x4_6 hl_920 => ?_)
      unfold L_L_types_6
      refine go_n (by rw [hl_920] <;> decide +kernel) ?_
      refine go_ltl (y := 114) (by rw [hl_920] <;> decide +kernel) (fun y18_1 hy_922 => ?_)
      refine go_n (by rw [hl_919] <;> decide +kernel) ?_
      refine go_n (by rw [hy_922] <;> decide +kernel) ?_
      refine go_bd (c := 6) (S := Sq_82) (k_type (show _ = nI 114 by rw [hy_922] <;> decide +kernel) (Nat.le_of_ble_eq_true rfl) K_918 (by decide +kernel)) (fun r_35 hr_923 K_924 => ?_)
      refine go_n (by rw [hr_923] <;> decide +kernel) ?_
      rw [hs_921]
      refine go_u2 (n := 8185) (a0 := 1) (qi_lit 1) (a1 := 8) (show _ = nI 8 by rw [hl_920] <;> decide +kernel) (fun self6 hs_927 x3_6 hl_925 x4_6 hl_926 => ?_)
      unfold L_L_types_6
      refine go_n (by rw [hl_926] <;> decide +kernel) ?_
      refine go_ltl (y := 53) (by rw [hl_926] <;> decide +kernel) (fun y18_1 hy_928 => ?_)
      refine go_n (by rw [hl_925] <;> decide +kernel) ?_
      refine go_n (by rw [hy_928] <;> decide +kernel) ?_
      refine go_bd (c := 7) (S := Sq_83) (k_type (show _ = nI 53 by rw [hy_928] <;> decide +kernel) (Nat.le_of_ble_eq_true rfl) K_924 (by decide +kernel)) (fun r_35 hr_929 K_930 => ?_)
      refine go_n (by rw [hr_929] <;> decide +kernel) ?_
      rw [hs_927]
      refine go_u2 (n := 8184) (a0 := 1) (qi_lit 1) (a1 := 0) (show _ = nI 0 by rw [hl_926] <;> decide +kernel) (fun self6 hs_933 x3_6 hl_931 x4_6 hl_932 => ?_)
      unfold L_L_types_6
      refine go_n (by rw [hl_932] <;> decide +kernel) ?_
      refine go_ltl (y := 45) (by rw [hl_932] <;> decide +kernel) (fun y18_1 hy_934 => ?_)
      refine go_n (by rw [hl_931] <;> decide +kernel) ?_
      refine go_n (by rw [hy_934] <;> decide +kernel) ?_
      refine go_bd (c := 8) (S := Sq_84) (k_type (show _ = nI 45 by rw [hy_934] <;> decide +kernel) (Nat.le_of_ble_eq_true rfl) K_930 (by decide +kernel)) (fun r_35 hr_935 K_936 => ?_)
      refine go_n (by rw [hr_935] <;> decide +kernel) ?_
      rw [hs_933]
      refine go_u2 (n := 8183) (a0 := 1) (qi_lit 1) (a1 := 4294967288) (show _ = nI 4294967288 by rw [hl_932] <;> decide +kernel) (fun self6 hs_939 x3_6 hl_937 x4_6 hl_938 => ?_)
      unfold L_L_types_6
      refine go_p (by rw [hl_938] <;> decide +kernel) ?_
      refine go_z (c := 1) (by rw [hl_937] <;> decide +kernel) (by decide) ?_
      exact go_s hl_937 K_936
    refine go_n (by rw [hr_887] <;> decide +kernel) ?_
    refine go_bd (c := 1) (S := Sq_88) ?_ (fun r_17 hr_940 K_941 => ?_)
    · unfold f_L_types
      refine go_u2 (n := 8191) (a0 := 1) (qi_lit 1) (a1 := 56) (qi_lit 56) (fun self6 hs_944 x3_6 hl_942 x4_6 hl_943 => ?_)
      unfold L_L_types_6
      refine go_n (by rw [hl_943] <;> decide +kernel) ?_
      refine go_ltl (y := 0) (by rw [hl_943] <;> decide +kernel) (fun y18_1 hy_945 => ?_)
      refine go_n (by rw [hl_942] <;> decide +kernel) ?_
      refine go_p (by rw [hy_945] <;> decide +kernel) ?_
      rw [hs_944]
      refine go_u2 (n := 8190) (a0 := 1) (qi_lit 1) (a1 := 48) (show _ = nI 48 by rw [hl_943] <;> decide +kernel) (fun self6 hs_948 x3_6 hl_946 x4_6 hl_947 => ?_)
      unfold L_L_types_6
      refine go_n (by rw [hl_947] <;> decide +kernel) ?_
      refine go_ltl (y := 0) (by rw [hl_947] <;> decide +kernel) (fun y18_1 hy_949 => ?_)
      refine go_n (by rw [hl_946] <;> decide +kernel) ?_
      refine go_p (by rw [hy_949] <;> decide +kernel) ?_
      rw [hs_948]
      refine go_u2 (n := 8189) (a0 := 1) (qi_lit 1) (a1 := 40) (show _ = nI 40 by rw [hl_947] <;> decide +kernel) (fun self6 hs_952 x3_6 hl_950 x4_6 hl_951 => ?_)
      unfold L_L_types_6
      refine go_n (by rw [hl_951] <;> decide +kernel) ?_
      refine go_ltl (y := 0) (by rw [hl_951] <;> decide +kernel) (fun y18_1 hy_953 => ?_)
      refine go_n (by rw [hl_950] <;> decide +kernel) ?_
      refine go_p (by rw [hy_953] <;> decide +kernel) ?_
      rw [hs_952]
      refine go_u2 (n := 8188) (a0 := 1) (qi_lit 1) (a1 := 32) (show _ = nI 32 by rw [hl_951] <;> decide +kernel) (fun self6 hs_956 x3_6 hl_954 x4_6 hl_955 => ?_)
      unfold L_L_types_6
      refine go_n (by rw [hl_955] <;> decide +kernel) ?_
      refine go_ltl (y := 0) (by rw [hl_955] <;> decide +kernel) (fun y18_1 hy_957 => ?_)
      refine go_n (by rw [hl_954] <;> decide +kernel) ?_
      refine go_p (by rw [hy_957] <;> decide +kernel) ?_
      rw [hs_956]
      refine go_u2 (n := 8187) (a0 := 1) (qi_lit 1) (a1 := 24) (show _ = nI 24 by rw [hl_955] <;> decide +kernel) (fun self6 hs_960 x3_6 hl_958 x4_6 hl_959 => ?_)
      unfold L_L_types_6
      refine go_n (by rw [hl_959] <;> decide +kernel) ?_
      refine go_ltl (y := 52) (by rw [hl_959] <;> decide +kernel) (fun y18_1 hy_961 => ?_)
      refine go_n (by rw [hl_958] <;> decide +kernel) ?_
      refine go_n (by rw [hy_961] <;> decide +kernel) ?_
      refine go_bd (c := 9) (S := Sq_85) (k_type (show _ = nI 52 by rw [hy_961] <;> decide +kernel) (Nat.le_of_ble_eq_true rfl) K_888 (by decide +kernel)) (fun r_35 hr_962 K_963 => ?_)
      refine go_n (by rw [hr_962] <;> decide +kernel) ?_
      rw [hs_960]
      refine go_u2 (n := 8186) (a0 := 1) (qi_lit 1) (a1 := 16) (show _ = nI 16 by rw [hl_959] <;> decide +kernel) (fun self6 hs_966 x3_6 hl_964 x4_6 hl_965 => ?_)
      unfold L_L_types_6
      refine go_n (by rw [hl_965] <;> decide +kernel) ?_
      refine go_ltl (y := 98) (by rw [hl_965] <;> decide +kernel) (fun y18_1 hy_967 => ?_)
      refine go_n (by rw [hl_964] <;> decide +kernel) ?_
      refine go_n (by rw [hy_967] <;> decide +kernel) ?_
      refine go_bd (c := 10) (S := Sq_86) (k_type (show _ = nI 98 by rw [hy_967] <;> decide +kernel) (Nat.le_of_ble_eq_true rfl) K_963 (by decide +kernel)) (fun r_35 hr_968 K_969 => ?_)
      refine go_n (by rw [hr_968] <;> decide +kernel) ?_
      rw [hs_966]
      refine go_u2 (n := 8185) (a0 := 1) (qi_lit 1) (a1 := 8) (show _ = nI 8 by rw [hl_965] <;> decide +kernel) (fun self6 hs_972 x3_6 hl_970 x4_6 hl_971 => ?_)
      unfold L_L_types_6
      refine go_n (by rw [hl_971] <;> decide +kernel) ?_
      refine go_ltl (y := 49) (by rw [hl_971] <;> decide +kernel) (fun y18_1 hy_973 => ?_)
      refine go_n (by rw [hl_970] <;> decide +kernel) ?_
      refine go_n (by rw [hy_973] <;> decide +kernel) ?_
      refine go_bd (c := 11) (S := Sq_87) (k_type (show _ = nI 49 by rw [hy_973] <;> decide +kernel) (Nat.le_of_ble_eq_true rfl) K_969 (by decide +kernel)) (fun r_35 hr_974 K_975 => ?_)
      refine go_n (by rw [hr_974] <;> decide +kernel) ?_
      rw [hs_972]
      refine go_u2 (n := 8184) (a0 := 1) (qi_lit 1) (a1 := 0) (show _ = nI 0 by rw [hl_971] <;> decide +kernel) (fun self6 hs_978 x3_6 hl_976 x4_6 hl_977 => ?_)
      unfold L_L_types_6
      refine go_n (by rw [hl_977] <;> decide +kernel) ?_
      refine go_ltl (y := 49) (by rw [hl_977] <;> decide +kernel) (fun y18_1 hy_979 => ?_)
      refine go_n (by rw [hl_976] <;> decide +kernel) ?_
      refine go_n (by rw [hy_979] <;> decide +kernel) ?_
      refine go_bd (c := 12) (S := Sq_88) (k_type (show _ = nI 49 by rw [hy_979] <;> decide +kernel) (Nat.le_of_ble_eq_true rfl) K_975 (by decide +kernel)) (fun r_35 hr_980 K_981 => ?_)
      refine go_n (by rw [hr_980] <;> decide +kernel) ?_
      rw [hs_978]
      refine go_u2 (n := 8183) (a0 := 1) (qi_lit 1) (a1 := 4294967288) (show _ = nI 4294967288 by rw [hl_977] <;> decide +kernel) (fun self6 hs_984 x3_6 hl_982 x4_6 hl_983 => ?_)
      unfold L_L_types_6
      refine go_p (by rw [hl_983] <;> decide +kernel) ?_
      refine go_z (c := 1) (by rw [hl_982] <;> decide +kernel) (by decide) ?_
      exact go_s hl_982 K_981
    refine go_n (by rw [hr_940] <;> decide +kernel) ?_
    refine go_bd (c := 11) (S := Sq_89) (k_letterError  K_941 (by decide +kernel)) (fun r_24 hr_985 K_986 => ?_)
    refine go_p (by rw [hr_985] <;> decide +kernel) ?_
    refine go_z1 ?_
    exact go_s (qi_lit 1) K_986
  refine go_n (by rw [hr_883] <;> decide +kernel) ?_
  refine go_bd (c := 1) (S := Sq_95) ?_ (fun r_154 hr_987 K_988 => ?_)
  · unfold f_L_isError
    refine go_bd (c := 12) (S := Sq_90) (k_clearLetter  K_884 (by decide +kernel)) (fun r_1 hr_989 K_990 => ?_)
    refine go_n (by rw [hr_989] <;> decide +kernel) ?_
    refine go_bd (c := 1) (S := Sq_94) ?_ (fun r_9 hr_991 K_992 => ?_)
    · unfold f_L_types
      refine go_u2 (n := 8191) (a0 := 1) (qi_lit 1) (a1 := 56) (qi_lit 56) (fun self6 hs_995 x3_6 hl_993 x4_6 hl_994 => ?_)
      unfold L_L_types_6
      refine go_n (by rw [hl_994] <;> decide +kernel) ?_
      refine go_ltl (y := 0) (by rw [hl_994] <;> decide +kernel) (fun y18_1 hy_996 => ?_)
      refine go_n (by rw [hl_993] <;> decide +kernel) ?_
      refine go_p (by rw [hy_996] <;> decide +kernel) ?_
      rw [hs_995]
      refine go_u2 (n := 8190) (a0 := 1) (qi_lit 1) (a1 := 48) (show _ = nI 48 by rw [hl_994] <;> decide +kernel) (fun self6 hs_999 x3_6 hl_997 x4_6 hl_998 => ?_)
      unfold L_L_types_6
      refine go_n (by rw [hl_998] <;> decide +kernel) ?_
      refine go_ltl (y := 0) (by rw [hl_998] <;> decide +kernel) (fun y18_1 hy_1000 => ?_)
      refine go_n (by rw [hl_997] <;> decide +kernel) ?_
      refine go_p (by rw [hy_1000] <;> decide +kernel) ?_
      rw [hs_999]
      refine go_u2 (n := 8189) (a0 := 1) (qi_lit 1) (a1 := 40) (show _ = nI 40 by rw [hl_998] <;> decide +kernel) (fun self6 hs_1003 x3_6 hl_1001 x4_6 hl_1002 => ?_)
      unfold L_L_types_6
      refine go_n (by rw [hl_1002] <;> decide +kernel) ?_
      refine go_ltl (y := 0) (by rw [hl_1002] <;> decide +kernel) (fun y18_1 hy_1004 => ?_)
      refine go_n (by rw [hl_1001] <;> decide +kernel) ?_
      refine go_p (by rw [hy_1004] <;> decide +kernel) ?_
      rw [hs_1003]
      refine go_u2 (n := 8188) (a0 := 1) (qi_lit 1) (a1 := 32) (show _ = nI 32 by rw [hl_1002] <;> decide +kernel) (fun self6 hs_1007 x3_6 hl_1005 x4_6 hl_1006 => ?_)
      unfold L_L_types_6
      refine go_n (by rw [hl_1006] <;> decide +kernel) ?_
      refine go_ltl (y := 0) (by rw [hl_1006] <;> decide +kernel) (fun y18_1 hy_1008 => ?_)
      refine go_n (by rw [hl_1005] <;> decide +kernel) ?_
      refine go_p (by rw [hy_1008] <;> decide +kernel) ?_
      rw [hs_1007]
      refine go_u2 (n := 8187) (a0 := 1) (qi_lit 1) (a1 := 24) (show _ = nI 24 by rw [hl_1006] <;> decide +kernel) (fun self6 hs_1011 x3_6 hl_1009 x4_6 hl_1010 => ?_)
      unfold L_L_types_6
      refine go_n (by rw [hl_1010] <;> decide +kernel) ?_
      refine go_ltl (y := 116) (by rw [hl_1010] <;> decide +kernel) (fun y18_1 hy_1012 => ?_)
      refine go_n (by rw [hl_1009] <;> decide +kernel) ?_
      refine go_n (by rw [hy_1012] <;> decide +kernel) ?_
      refine go_bd (c := 1) (S := Sq_91) (k_type (show _ = nI 116 by rw [hy_1012] <;> decide +kernel) (Nat.le_of_ble_eq_true rfl) K_990 (by decide +kernel)) (fun r_35 hr_1013 K_1014 => ?_)
      refine go_n (by rw [hr_1013] <;> decide +kernel) ?_
      rw [hs_1011]
      refine go_u2 (n := 8186) (a0 := 1) (qi_lit 1) (a1 := 16) (show _ = nI 16 by rw [hl_1010] <;> decide +kernel) (fun self6 hs_1017 x3_6 hl_1015 x4_6 hl_1016 => ?_)
      unfold L_L_types_6
      refine go_n (by rw [hl_1016] <;> decide +kernel) ?_
      refine go_ltl (y := 49) (by rw [hl_1016] <;> decide +kernel) (fun y18_1 hy_1018 => ?_)
      refine go_n (by rw [hl_1015] <;> decide +kernel) ?_
      refine go_n (by rw [hy_1018] <;> decide +kernel) ?_
      refine go_bd (c := 2) (S := Sq_92) (k_type (show _ = nI 49 by rw [hy_1018] <;> decide +kernel) (Nat.le_of_ble_eq_true rfl) K_1014 (by decide +kernel)) (fun r_35 hr_1019 K_1020 => ?_)
      refine go_n (by rw [hr_1019] <;> decide +kernel) ?_
      rw [hs_1017]
      refine go_u2 (n := 8185) (a0 := 1) (qi_lit 1) (a1 := 8) (show _ = nI 8 by rw [hl_1016] <;> decide +kernel) (fun self6 hs_1023 x3_6 hl_1021 x4_6 hl_1022 => ?_)
      unfold L_L_types_6
      refine go_n (by rw [hl_1022] <;> decide +kernel) ?_
      refine go_ltl (y := 48) (by rw [hl_1022] <;> decide +kernel) (fun y18_1 hy_1024 => ?_)
      refine go_n (by rw [hl_1021] <;> decide +kernel) ?_
      refine go_n (by rw [hy_1024] <;> decide +kernel) ?_
      refine go_bd (c := 3) (S := Sq_93) (k_type (show _ = nI 48 by rw [hy_1024] <;> decide +kernel) (Nat.le_of_ble_eq_true rfl) K_1020 (by decide +kernel)) (fun r_35 hr_1025 K_1026 => ?_)
      refine go_n (by rw [hr_1025] <;> decide +kernel) ?_
      rw [hs_1023]
      refine go_u2 (n := 8184) (a0 := 1) (qi_lit 1) (a1 := 0) (show _ = nI 0 by rw [hl_1022] <;> decide +kernel) (fun self6 hs_1029 x3_6 hl_1027 x4_6 hl_1028 => ?_)
      unfold L_L_types_6
      refine go_n (by rw [hl_1028] <;> decide +kernel) ?_
      refine go_ltl (y := 48) (by rw [hl_1028] <;> decide +kernel) (fun y18_1 hy_1030 => ?_)
      refine go_n (by rw [hl_1027] <;> decide +kernel) ?_
      refine go_n (by rw [hy_1030] <;> decide +kernel) ?_
      refine go_bd (c := 4) (S := Sq_94) (k_type (show _ = nI 48 by rw [hy_1030] <;> decide +kernel) (Nat.le_of_ble_eq_true rfl) K_1026 (by decide +kernel)) (fun r_35 hr_1031 K_1032 => ?_)
      refine go_n (by rw [hr_1031] <;> decide +kernel) ?_
      rw [hs_1029]
      refine go_u2 (n := 8183) (a0 := 1) (qi_lit 1) (a1 := 4294967288) (show _ = nI 4294967288 by rw [hl_1028] <;> decide +kernel) (fun self6 hs_1035 x3_6 hl_1033 x4_6 hl_1034 => ?_)
      unfold L_L_types_6
      refine go_p (by rw [hl_1034] <;> decide +kernel) ?_
      refine go_z (c := 1) (by rw [hl_1033] <;> decide +kernel) (by decide) ?_
      exact go_s hl_1033 K_1032
    refine go_n (by rw [hr_991] <;> decide +kernel) ?_
    refine go_bd (c := 1) (S := Sq_94) ?_ (fun r_17 hr_1036 K_1037 => ?_)
    · unfold f_L_types
      refine go_u2 (n := 8191) (a0 := 1) (qi_lit 1) (a1 := 56) (qi_lit 56) (fun self6 hs_1040 x3_6 hl_1038 x4_6 hl_1039 => ?_)
      unfold L_L_types_6
      refine go_n (by rw [hl_1039] <;> decide +kernel) ?_
      refine go_ltl (y := 0) (by rw [hl_1039] <;> decide +kernel) (fun y18_1 hy_1041 => ?_)
      refine go_n (by rw [hl_1038] <;> decide +kernel) ?_
      refine go_p (by rw [hy_1041] <;> decide +kernel) ?_
      rw [hs_1040]
      refine go_u2 (n := 8190) (a0 := 1) (qi_lit 1) (a1 := 48) (show _ = nI 48 by rw [hl_1039] <;> decide +kernel) (fun self6 hs_1044 x3_6 hl_1042 x4_6 hl_1043 => ?_)
      unfold L_L_types_6
      refine go_n (by rw [hl_1043] <;> decide +kernel) ?_
      refine go_ltl (y := 0) (by rw [hl_1043] <;> decide +kernel) (fun y18_1 hy_1045 => ?_)
      refine go_n (by rw [hl_1042] <;> decide +kernel) ?_
      refine go_p (by rw [hy_1045] <;> decide +kernel) ?_
      rw [hs_1044]
      refine go_u2 (n := 8189) (a0 := 1) (qi_lit 1) (a1 := 40) (show _ = nI 40 by rw [hl_1043] <;> decide +kernel) (fun self6 hs_1048 x3_6 hl_1046 x4_6 hl_1047 => ?_)
      unfold L_L_types_6
      refine go_n (by rw [hl_1047] <;> decide +kernel) ?_
      refine go_ltl (y := 0) (by rw [hl_1047] <;> decide +kernel) (fun y18_1 hy_1049 => ?_)
      refine go_n (by rw [hl_1046] <;> decide +kernel) ?_
      refine go_p (by rw [hy_1049] <;> decide +kernel) ?_
      rw [hs_1048]
      refine go_u2 (n := 8188) (a0 := 1) (qi_lit 1) (a1 := 32) (show _ = nI 32 by rw [hl_1047] <;> decide +kernel) (fun self6 hs_1052 x3_6 hl_1050 x4_6 hl_1051 => ?_)
      unfold L_L_types_6
      refine go_n (by rw [hl_1051] <;> decide +kernel) ?_
      refine go_ltl (y := 0) (by rw [hl_1051] <;> decide +kernel) (fun y18_1 hy_1053 => ?_)
      refine go_n (by rw [hl_1050] <;> decide +kernel) ?_
      refine go_p (by rw [hy_1053] <;> decide +kernel) ?_
      rw [hs_1052]
      refine go_u2 (n := 8187) (a0 := 1) (qi_lit 1) (a1 := 24) (show _ = nI 24 by rw [hl_1051] <;> decide +kernel) (fun self6 hs_1056 x3_6 hl_1054 x4_6 hl_1055 => ?_)
      unfold L_L_types_6
      refine go_n (by rw [hl_1055] <;> decide +kernel) ?_
      refine go_ltl (y := 0) (by rw [hl_1055] <;> decide +kernel) (fun y18_1 hy_1057 => ?_)
      refine go_n (by rw [hl_1054] <;> decide +kernel) ?_
      refine go_p (by rw [hy_1057] <;> decide +kernel) ?_
      rw [hs_1056]
      refine go_u2 (n := 8186) (a0 := 1) (qi_lit 1) (a1 := 16) (show _ = nI 16 by rw [hl_1055] <;> decide +kernel) (fun self6 hs_1060 x3_6 hl_1058 x4_6 hl_1059 => ?_)
      unfold L_L_types_6
      refine go_n (by rw [hl_1059] <;> decide +kernel) ?_
      refine go_ltl (y := 0) (by rw [hl_1059] <;> decide +kernel) (fun y18_1 hy_1061 => ?_)
      refine go_n (by rw [hl_1058] <;> decide +kernel) ?_
      refine go_p (by rw [hy_1061] <;> decide +kernel) ?_
      rw [hs_1060]
      refine go_u2 (n := 8185) (a0 := 1) (qi_lit 1) (a1 := 8) (show _ = nI 8 by rw [hl_1059] <;> decide +kernel) (fun self6 hs_1064 x3_6 hl_1062 x4_6 hl_1063 => ?_)
      unfold L_L_types_6
      refine go_n (by rw [hl_1063] <;> decide +kernel) ?_
      refine go_ltl (y := 0) (by rw [hl_1063] <;> decide +kernel) (fun y18_1 hy_1065 => ?_)
      refine go_n (by rw [hl_1062] <;> decide +kernel) ?_
      refine go_p (by rw [hy_1065] <;> decide +kernel) ?_
      rw [hs_1064]
      refine go_u2 (n := 8184) (a0 := 1) (qi_lit 1) (a1 := 0) (show _ = nI 0 by rw [hl_1063] <;> decide +kernel) (fun self6 hs_1068 x3_6 hl_1066 x4_6 hl_1067 => ?_)
      unfold L_L_types_6
      refine go_n (by rw [hl_1067] <;> decide +kernel) ?_
      refine go_ltl (y := 0) (by rw [hl_1067] <;> decide +kernel) (fun y18_1 hy_1069 => ?_)
      refine go_n (by rw [hl_1066] <;> decide +kernel) ?_
      refine go_p (by rw [hy_1069] <;> decide +kernel) ?_
      rw [hs_1068]
      refine go_u2 (n := 8183) (a0 := 1) (qi_lit 1) (a1 := 4294967288) (show _ = nI 4294967288 by rw [hl_1067] <;> decide +kernel) (fun self6 hs_1072 x3_6 hl_1070 x4_6 hl_1071 => ?_)
      unfold L_L_types_6
      refine go_p (by rw [hl_1071] <;> decide +kernel) ?_
      refine go_z (c := 1) (by rw [hl_1070] <;> decide +kernel) (by decide) ?_
      exact go_s hl_1070 K_992
    refine go_n (by rw [hr_1036] <;> decide +kernel) ?_
    refine go_bd (c := 3) (S := Sq_95) (k_letterError  K_1037 (by decide +kernel)) (fun r_24 hr_1073 K_1074 => ?_)
    refine go_p (by rw [hr_1073] <;> decide +kernel) ?_
    refine go_z1 ?_
    exact go_s (qi_lit 1) K_1074
  refine go_n (by rw [hr_987] <;> decide +kernel) ?_
  refine go_bd (c := 1) (S := Sq_100) ?_ (fun r_166 hr_1075 K_1076 => ?_)
  · unfold f_L_isError
    refine go_bd (c := 4) (S := Sq_96) (k_clearLetter  K_988 (by decide +kernel)) (fun r_1 hr_1077 K_1078 => ?_)
    refine go_n (by rw [hr_1077] <;> decide +kernel) ?_
    refine go_bd (c := 1) (S := Sq_99) ?_ (fun r_9 hr_1079 K_1080 => ?_)
    · unfold f_L_types
      refine go_u2 (n := 8191) (a0 := 1) (qi_lit 1) (a1 := 56) (qi_lit 56) (fun self6 hs_1083 x3_6 hl_1081 x4_6 hl_1082 => ?_)
      unfold L_L_types_6
      refine go_n (by rw [hl_1082] <;> decide +kernel) ?_
      refine go_ltl (y := 0) (by rw [hl_1082] <;> decide +kernel) (fun y18_1 hy_1084 => ?_)
      refine go_n (by rw [hl_1081] <;> decide +kernel) ?_
      refine go_p (by rw [hy_1084] <;> decide +kernel) ?_
      rw [hs_1083]
      refine go_u2 (n := 8190) (a0 := 1) (qi_lit 1) (a1 := 48) (show _ = nI 48 by rw [hl_1082] <;> decide +kernel) (fun self6 hs_1087 x3_6 hl_1085 x4_6 hl_1086 => ?_)
      unfold L_L_types_6
      refine go_n (by rw [hl_1086] <;> decide +kernel) ?_
      refine go_ltl (y := 0) (by rw [hl_1086] <;> decide +kernel) (fun y18_1 hy_1088 => ?_)
      refine go_n (by rw [hl_1085] <;> decide +kernel) ?_
      refine go_p (by rw [hy_1088] <;> decide +kernel) ?_
      rw [hs_1087]
      refine go_u2 (n := 8189) (a0 := 1) (qi_lit 1) (a1 := 40) (show _ = nI 40 by rw [hl_1086] <;> decide +kernel) (fun self6 hs_1091 x3_6 hl_1089 x4_6 hl_1090 => ?_)
      unfold L_L_types_6
      refine go_n (by rw [hl_1090] <;> decide +kernel) ?_
      refine go_ltl (y := 0) (by rw [hl_1090] <;> decide +kernel) (fun y18_1 hy_1092 => ?_)
      refine go_n (by rw [hl_1089] <;> decide +kernel) ?_
      refine go_p (by rw [hy_1092] <;> decide +kernel) ?_
      rw [hs_1091]
      refine go_u2 (n := 8188) (a0 := 1) (qi_lit 1) (a1 := 32) (show _ = nI 32 by rw [hl_1090] <;> decide +kernel) (fun self6 hs_1095 x3_6 hl_1093 x4_6 hl_1094 => ?_)
      unfold L_L_types_6
      refine go_n (by rw [hl_1094] <;> decide +kernel) ?_
      refine go_ltl (y := 0) (by rw [hl_1094] <;> decide +kernel) (fun y18_1 hy_1096 => ?_)
      refine go_n (by rw [hl_1093] <;> decide +kernel) ?_
      refine go_p (by rw [hy_1096] <;> decide +kernel) ?_
      rw [hs_1095]
      refine go_u2 (n := 8187) (a0 := 1) (qi_lit 1) (a1 := 24) (show _ = nI 24 by rw [hl_1094] <;> decide +kernel) (fun self6 hs_1099 x3_6 hl_1097 x4_6 hl_1098 => ?_)
      unfold L_L_types_6
      refine go_n (by rw [hl_1098] <;> decide +kernel) ?_
      refine go_ltl (y := 0) (by rw [hl_1098] <;> decide +kernel) (fun y18_1 hy_1100 => ?_)
      refine go_n (by rw [hl_1097] <;> decide +kernel) ?_
      refine go_p (by rw [hy_1100] <;> decide +kernel) ?_
      rw [hs_1099]
      refine go_u2 (n := 8186) (a0 := 1) (qi_lit 1) (a1 := 16) (show _ = nI 16 by rw [hl_1098] <;> decide +kernel) (fun self6 hs_1103 x3_6 hl_1101 x4_6 hl_1102 => ?_)
      unfold L_L_types_6
      refine go_n (by rw [hl_1102] <;> decide +kernel) ?_
      refine go_ltl (y := 120) (by rw [hl_1102] <;> decide +kernel) (fun y18_1 hy_1104 => ?_)
      refine go_n (by rw [hl_1101] <;> decide +kernel) ?_
      refine go_n (by rw [hy_1104] <;> decide +kernel) ?_
      refine go_bd (c := 1) (S := Sq_97) (k_type (show _ = nI 120 by rw [hy_1104] <;> decide +kernel) (Nat.le_of_ble_eq_true rfl) K_1078 (by decide +kernel)) (fun r_35 hr_1105 K_1106 => ?_)
      refine go_n (by rw [hr_1105] <;> decide +kernel) ?_
      rw [hs_1103]
      refine go_u2 (n := 8185) (a0 := 1) (qi_lit 1) (a1 := 8) (show _ = nI 8 by rw [hl_1102] <;> decide +kernel) (fun self6 hs_1109 x3_6 hl_1107 x4_6 hl_1108 => ?_)
      unfold L_L_types_6
      refine go_n (by rw [hl_1108] <;> decide +kernel) ?_
      refine go_ltl (y := 51) (by rw [hl_1108] <;> decide +kernel) (fun y18_1 hy_1110 => ?_)
      refine go_n (by rw [hl_1107] <;> decide +kernel) ?_
      refine go_n (by rw [hy_1110] <;> decide +kernel) ?_
      refine go_bd (c := 2) (S := Sq_98) (k_type (show _ = nI 51 by rw [hy_1110] <;> decide +kernel) (Nat.le_of_ble_eq_true rfl) K_1106 (by decide +kernel)) (fun r_35 hr_1111 K_1112 => ?_)
      refine go_n (by rw [hr_1111] <;> decide +kernel) ?_
      rw [hs_1109]
      refine go_u2 (n := 8184) (a0 := 1) (qi_lit 1) (a1 := 0) (show _ = nI 0 by rw [hl_1108] <;> decide +kernel) (fun self6 hs_1115 x3_6 hl_1113 x4_6 hl_1114 => ?_)
      unfold L_L_types_6
      refine go_n (by rw [hl_1114] <;> decide +kernel) ?_
      refine go_ltl (y := 48) (by rw [hl_1114] <;> decide +kernel) (fun y18_1 hy_1116 => ?_)
      refine go_n (by rw [hl_1113] <;> decide +kernel) ?_
      refine go_n (by rw [hy_1116] <;> decide +kernel) ?_
      refine go_bd (c := 3) (S := Sq_99) (k_type (show _ = nI 48 by rw [hy_1116] <;> decide +kernel) (Nat.le_of_ble_eq_true rfl) K_1112 (by decide +kernel)) (fun r_35 hr_1117 K_1118 => ?_)
      refine go_n (by rw [hr_1117] <;> decide +kernel) ?_
      rw [hs_1115]
      refine go_u2 (n := 8183) (a0 := 1) (qi_lit 1) (a1 := 4294967288) (show _ = nI 4294967288 by rw [hl_1114] <;> decide +kernel) (fun self6 hs_1121 x3_6 hl_1119 x4_6 hl_1120 => ?_)
      unfold L_L_types_6
      refine go_p (by rw [hl_1120] <;> decide +kernel) ?_
      refine go_z (c := 1) (by rw [hl_1119] <;> decide +kernel) (by decide) ?_
      exact go_s hl_1119 K_1118
    refine go_n (by rw [hr_1079] <;> decide +kernel) ?_
    refine go_bd (c := 1) (S := Sq_99) ?_ (fun r_17 hr_1122 K_1123 => ?_)
    · unfold f_L_types
      refine go_u2 (n := 8191) (a0 := 1) (qi_lit 1) (a1 := 56) (qi_lit 56) (fun self6 hs_1126 x3_6 hl_1124 x4_6 hl_1125 => ?_)
      unfold L_L_types_6
      refine go_n (by rw [hl_1125] <;> decide +kernel) ?_
      refine go_ltl (y := 0) (by rw [hl_1125] <;> decide +kernel) (fun y18_1 hy_1127 => ?_)
      refine go_n (by rw [hl_1124] <;> decide +kernel) ?_
      refine go_p (by rw [hy_1127] <;> decide +kernel) ?_
      rw [hs_1126]
      refine go_u2 (n := 8190) (a0 := 1) (qi_lit 1) (a1 := 48) (show _ = nI 48 by rw [hl_1125] <;> decide +kernel) (fun self6 hs_1130 x3_6 hl_1128 x4_6 hl_1129 => ?_)
      unfold L_L_types_6
      refine go_n (by rw [hl_1129] <;> decide +kernel) ?_
      refine go_ltl (y := 0) (by rw [hl_1129] <;> decide +kernel) (fun y18_1 hy_1131 => ?_)
      refine go_n (by rw [hl_1128] <;> decide +kernel) ?_
      refine go_p (by rw [hy_1131] <;> decide +kernel) ?_
      rw [hs_1130]
      refine go_u2 (n := 8189) (a0 := 1) (qi_lit 1) (a1 := 40) (show _ = nI 40 by rw [hl_1129] <;> decide +kernel) (fun self6 hs_1134 x3_6 hl_1132 x4_6 hl_1133 => ?_)
      unfold L_L_types_6
      refine go_n (by rw [hl_1133] <;> decide +kernel) ?_
      refine go_ltl (y := 0) (by rw [hl_1133] <;> decide +kernel) (fun y18_1 hy_1135 => ?_)
      refine go_n (by rw [hl_1132] <;> decide +kernel) ?_
      refine go_p (by rw [hy_1135] <;> decide +kernel) ?_
      rw [hs_1134]
      refine go_u2 (n := 8188) (a0 := 1) (qi_lit 1) (a1 := 32) (show _ = nI 32 by rw [hl_1133] <;> decide +kernel) (fun self6 hs_1138 x3_6 hl_1136 x4_6 hl_1137 => ?_)
      unfold L_L_types_6
      refine go_n (by rw [hl_1137] <;> decide +kernel) ?_
      refine go_ltl (y := 0) (by rw [hl_1137] <;> decide +kernel) (fun y18_1 hy_1139 => ?_)
      refine go_n (by rw [hl_1136] <;> decide +kernel) ?_
      refine go_p (by rw [hy_1139] <;> decide +kernel) ?_
      rw [hs_1138]
      refine go_u2 (n := 8187) (a0 := 1) (qi_lit 1) (a1 := 24) (show _ = nI 24 by rw [hl_1137] <;> decide +kernel) (fun self6 hs_1142 x3_6 hl_1140 x4_6 hl_1141 => ?_)
      unfold L_L_types_6
      refine go_n (by rw [hl_1141] <;> decide +kernel) ?_
      refine go_ltl (y := 0) (by rw [hl_1141] <;> decide +kernel) (fun y18_1 hy_1143 => ?_)
      refine go_n (by rw [hl_1140] <;> decide +kernel) ?_
      refine go_p (by rw [hy_1143] <;> decide +kernel) ?_
      rw [hs_1142]
      refine go_u2 (n := 8186) (a0 := 1) (qi_lit 1) (a1 := 16) (show _ = nI 16 by rw [hl_1141] <;> decide +kernel) (fun self6 hs_1146 x3_6 hl_1144 x4_6 hl_1145 => ?_)
      unfold L_L_types_6
      refine go_n (by rw [hl_1145] <;> decide +kernel) ?_
      refine go_ltl (y := 0) (by rw [hl_1145] <;> decide +kernel) (fun y18_1 hy_1147 => ?_)
      refine go_n (by rw [hl_1144] <;> decide +kernel) ?_
      refine go_p (by rw [hy_1147] <;> decide +kernel) ?_
      rw [hs_1146]
      refine go_u2 (n := 8185) (a0 := 1) (qi_lit 1) (a1 := 8) (show _ = nI 8 by rw [hl_1145] <;> decide +kernel) (fun self6 hs_1150 x3_6 hl_1148 x4_6 hl_1149 => ?_)
      unfold L_L_types_6
      refine go_n (by rw [hl_1149] <;> decide +kernel) ?_
      refine go_ltl (y := 0) (by rw [hl_1149] <;> decide +kernel) (fun y18_1 hy_1151 => ?_)
      refine go_n (by rw [hl_1148] <;> decide +kernel) ?_
      refine go_p (by rw [hy_1151] <;> decide +kernel) ?_
      rw [hs_1150]
      refine go_u2 (n := 8184) (a0 := 1) (qi_lit 1) (a1 := 0) (show _ = nI 0 by rw [hl_1149] <;> decide +kernel) (fun self6 hs_1154 x3_6 hl_1152 x4_6 hl_1153 => ?_)
      unfold L_L_types_6
      refine go_n (by rw [hl_1153] <;> decide +kernel) ?_
      refine go_ltl (y := 0) (by rw [hl_1153] <;> decide +kernel) (fun y18_1 hy_1155 => ?_)
      refine go_n (by rw [hl_1152] <;> decide +kernel) ?_
      refine go_p (by rw [hy_1155] <;> decide +kernel) ?_
      rw [hs_1154]
      refine go_u2 (n := 8183) (a0 := 1) (qi_lit 1) (a1 := 4294967288) (show _ = nI 4294967288 by rw [hl_1153] <;> decide +kernel) (fun self6 hs_1158 x3_6 hl_1156 x4_6 hl_1157 => ?_)
      unfold L_L_types_6
      refine go_p (by rw [hl_1157] <;> decide +kernel) ?_
      refine go_z (c := 1) (by rw [hl_1156] <;> decide +kernel) (by decide) ?_
      exact go_s hl_1156 K_1080
    refine go_n (by rw [hr_1122] <;> decide +kernel) ?_
    refine go_bd (c := 2) (S := Sq_100) (k_letterError  K_1123 (by decide +kernel)) (fun r_24 hr_1159 K_1160 => ?_)
    refine go_p (by rw [hr_1159] <;> decide +kernel) ?_
    refine go_z1 ?_
    exact go_s (qi_lit 1) K_1160
  refine go_n (by rw [hr_1075] <;> decide +kernel) ?_
  refine go_bd (c := 1) (S := Sq_102) ?_ (fun r_176 hr_1161 K_1162 => ?_)
  · unfold f_L_isError
    refine go_bd (c := 3) (S := Sq_101) (k_clearLetter  K_1076 (by decide +kernel)) (fun r_1 hr_1163 K_1164 => ?_)
    refine go_n (by rw [hr_1163] <;> decide +kernel) ?_
    refine go_bd (c := 1) (S := Sq_101) ?_ (fun r_9 hr_1165 K_1166 => ?_)
    · unfold f_L_types
      refine go_u2 (n := 8191) (a0 := 1) (qi_lit 1) (a1 := 56) (qi_lit 56) (fun self6 hs_1169 x3_6 hl_1167 x4_6 hl_1168 => ?_)
      unfold L_L_types_6
      refine go_n (by rw [hl_1168] <;> decide +kernel) ?_
      refine go_ltl (y := 0) (by rw [hl_1168] <;> decide +kernel) (fun y18_1 hy_1170 => ?_)
      refine go_n (by rw [hl_1167] <;> decide +kernel) ?_
      refine go_p (by rw [hy_1170] <;> decide +kernel) ?_
      rw [hs_1169]
      refine go_u2 (n := 8190) (a0 := 1) (qi_lit 1) (a1 := 48) (show _ = nI 48 by rw [hl_1168] <;> decide +kernel) (fun self6 hs_1173 x3_6 hl_1171 x4_6 hl_1172 => ?_)
      unfold L_L_types_6
      refine go_n (by rw [hl_1172] <;> decide +kernel) ?_
      refine go_ltl (y := 0) (by rw [hl_1172] <;> decide +kernel) (fun y18_1 hy_1174 => ?_)
      refine go_n (by rw [hl_1171] <;> decide +kernel) ?_
      refine go_p (by rw [hy_1174] <;> decide +kernel) ?_
      rw [hs_1173]
      refine go_u2 (n := 8189) (a0 := 1) (qi_lit 1) (a1 := 40) (show _ = nI 40 by rw [hl_1172] <;> decide +kernel) (fun self6 hs_1177 x3_6 hl_1175 x4_6 hl_1176 => ?_)
      unfold L_L_types_6
      refine go_n (by rw [hl_1176] <;> decide +kernel) ?_
      refine go_ltl (y := 0) (by rw [hl_1176] <;> decide +kernel) (fun y18_1 hy_1178 => ?_)
      refine go_n (by rw [hl_1175] <;> decide +kernel) ?_
      refine go_p (by rw [hy_1178] <;> decide +kernel) ?_
      rw [hs_1177]
      refine go_u2 (n := 8188) (a0 := 1) (qi_lit 1) (a1 := 32) (show _ = nI 32 by rw [hl_1176] <;> decide +kernel) (fun self6 hs_1181 x3_6 hl_1179 x4_6 hl_1180 => ?_)
      unfold L_L_types_6
      refine go_n (by rw [hl_1180] <;> decide +kernel) ?_
      refine go_ltl (y := 0) (by rw [hl_1180] <;> decide +kernel) (fun y18_1 hy_1182 => ?_)
      refine go_n (by rw [hl_1179] <;> decide +kernel) ?_
      refine go_p (by rw [hy_1182] <;> decide +kernel) ?_
      rw [hs_1181]
      refine go_u2 (n := 8187) (a0 := 1) (qi_lit 1) (a1 := 24) (show _ = nI 24 by rw [hl_1180] <;> decide +kernel) (fun self6 hs_1185 x3_6 hl_1183 x4_6 hl_1184 => ?_)
      unfold L_L_types_6
      refine go_n (by rw [hl_1184] <;> decide +kernel) ?_
      refine go_ltl (y := 0) (by rw [hl_1184] <;> decide +kernel) (fun y18_1 hy_1186 => ?_)
      refine go_n (by rw [hl_1183] <;> decide +kernel) ?_
      refine go_p (by rw [hy_1186] <;> decide +kernel) ?_
      rw [hs_1185]
      refine go_u2 (n := 8186) (a0 := 1) (qi_lit 1) (a1 := 16) (show _ = nI 16 by rw [hl_1184] <;> decide +kernel) (fun self6 hs_1189 x3_6 hl_1187 x4_6 hl_1188 => ?_)
      unfold L_L_types_6
      refine go_n (by rw [hl_1188] <;> decide +kernel) ?_
      refine go_ltl (y := 0) (by rw [hl_1188] <;> decide +kernel) (fun y18_1 hy_1190 => ?_)
      refine go_n (by rw [hl_1187] <;> decide +kernel) ?_
      refine go_p (by rw [hy_1190] <;> decide +kernel) ?_
      rw [hs_1189]
      refine go_u2 (n := 8185) (a0 := 1) (qi_lit 1) (a1 := 8) (show _ = nI 8 by rw [hl_1188] <;> decide +kernel) (fun self6 hs_1193 x3_6 hl_1191 x4_6 hl_1192 => ?_)
      unfold L_L_types_6
      refine go_n (by rw [hl_1192] <;> decide +kernel) ?_
      refine go_ltl (y := 0) (by rw [hl_1192] <;> decide +kernel) (fun y18_1 hy_1194 => ?_)
      refine go_n (by rw [hl_1191] <;> decide +kernel) ?_
      refine go_p (by rw [hy_1194] <;> decide +kernel) ?_
      rw [hs_1193]
      refine go_u2 (n := 8184) (a0 := 1) (qi_lit 1) (a1 := 0) (show _ = nI 0 by rw [hl_1192] <;> decide +kernel) (fun self6 hs_1197 x3_6 hl_1195 x4_6 hl_1196 => ?_)
      unfold L_L_types_6
      refine go_n (by rw [hl_1196] <;> decide +kernel) ?_
      refine go_ltl (y := 0) (by rw [hl_1196] <;> decide +kernel) (fun y18_1 hy_1198 => ?_)
      refine go_n (by rw [hl_1195] <;> decide +kernel) ?_
      refine go_p (by rw [hy_1198] <;> decide +kernel) ?_
      rw [hs_1197]
      refine go_u2 (n := 8183) (a0 := 1) (qi_lit 1) (a1 := 4294967288) (show _ = nI 4294967288 by rw [hl_1196] <;> decide +kernel) (fun self6 hs_1201 x3_6 hl_1199 x4_6 hl_1200 => ?_)
      unfold L_L_types_6
      refine go_p (by rw [hl_1200] <;> decide +kernel) ?_
      refine go_z (c := 1) (by rw [hl_1199] <;> decide +kernel) (by decide) ?_
      exact go_s hl_1199 K_1164
    refine go_n (by rw [hr_1165] <;> decide +kernel) ?_
    refine go_bd (c := 1) (S := Sq_101) ?_ (fun r_17 hr_1202 K_1203 => ?_)
    · unfold f_L_types
      refine go_u2 (n := 8191) (a0 := 1) (qi_lit 1) (a1 := 56) (qi_lit 56) (fun self6 hs_1206 x3_6 hl_1204 x4_6 hl_1205 => ?_)
      unfold L_L_types_6
      refine go_n (by rw [hl_1205] <;> decide +kernel) ?_
      refine go_ltl (y := 0) (by rw [hl_1205] <;> decide +kernel) (fun y18_1 hy_1207 => ?_)
      refine go_n (by rw [hl_1204] <;> decide +kernel) ?_
      refine go_p (by rw [hy_1207] <;> decide +kernel) ?_
      rw [hs_1206]
      refine go_u2 (n := 8190) (a0 := 1) (qi_lit 1) (a1 := 48) (show _ = nI 48 by rw [hl_1205] <;> decide +kernel) (fun self6 hs_1210 x3_6 hl_1208 x4_6 hl_1209 => ?_)
      unfold L_L_types_6
      refine go_n (by rw [hl_1209] <;> decide +kernel) ?_
      refine go_ltl (y := 0) (by rw [hl_1209] <;> decide +kernel) (fun y18_1 hy_1211 => ?_)
      refine go_n (by rw [hl_1208] <;> decide +kernel) ?_
      refine go_p (by rw [hy_1211] <;> decide +kernel) ?_
      rw [hs_1210]
      refine go_u2 (n := 8189) (a0 := 1) (qi_lit 1) (a1 := 40) (show _ = nI 40 by rw [hl_1209] <;> decide +kernel) (fun self6 hs_1214 x3_6 hl_1212 x4_6 hl_1213 => ?_)
      unfold L_L_types_6
      refine go_n (by rw [hl_1213] <;> decide +kernel) ?_
      refine go_ltl (y := 0) (by rw [hl_1213] <;> decide +kernel) (fun y18_1 hy_1215 => ?_)
      refine go_n (by rw [hl_1212] <;> decide +kernel) ?_
      refine go_p (by rw [hy_1215] <;> decide +kernel) ?_
      rw [hs_1214]
      refine go_u2 (n := 8188) (a0 := 1) (qi_lit 1) (a1 := 32) (show _ = nI 32 by rw [hl_1213] <;> decide +kernel) (fun self6 hs_1218 x3_6 hl_1216 x4_6 hl_1217 => ?_)
      unfold L_L_types_6
      refine go_n (by rw [hl_1217] <;> decide +kernel) ?_
      refine go_ltl (y := 0) (by rw [hl_1217] <;> decide +kernel) (fun y18_1 hy_1219 => ?_)
      refine go_n (by rw [hl_1216] <;> decide +kernel) ?_
      refine go_p (by rw [hy_1219] <;> decide +kernel) ?_
      rw [hs_1218]
      refine go_u2 (n := 8187) (a0 := 1) (qi_lit 1) (a1 := 24) (show _ = nI 24 by rw [hl_1217] <;> decide +kernel) (fun self6 hs_1222 x3_6 hl_1220 x4_6 hl_1221 => ?_)
      unfold L_L_types_6
      refine go_n (by rw [hl_1221] <;> decide +kernel) ?_
      refine go_ltl (y := 0) (by rw [hl_1221] <;> decide +kernel) (fun y18_1 hy_1223 => ?_)
      refine go_n (by rw [hl_1220] <;> decide +kernel) ?_
      refine go_p (by rw [hy_1223] <;> decide +kernel) ?_
      rw [hs_1222]
      refine go_u2 (n := 8186) (a0 := 1) (qi_lit 1) (a1 := 16) (show _ = nI 16 by rw [hl_1221] <;> decide +kernel) (fun self6 hs_1226 x3_6 hl_1224 x4_6 hl_1225 => ?_)
      unfold L_L_types_6
      refine go_n (by rw [hl_1225] <;> decide +kernel) ?_
      refine go_ltl (y := 0) (by rw [hl_1225] <;> decide +kernel) (fun y18_1 hy_1227 => ?_)
      refine go_n (by rw [hl_1224] <;> decide +kernel) ?_
      refine go_p (by rw [hy_1227] <;> decide +kernel) ?_
      rw [hs_1226]
      refine go_u2 (n := 8185) (a0 := 1) (qi_lit 1) (a1 := 8) (show _ = nI 8 by rw [hl_1225] <;> decide +kernel) (fun self6 hs_1230 x3_6 hl_1228 x4_6 hl_1229 => ?_)
      unfold L_L_types_6
      refine go_n (by rw [hl_1229] <;> decide +kernel) ?_
      refine go_ltl (y := 0) (by rw [hl_1229] <;> decide +kernel) (fun y18_1 hy_1231 => ?_)
      refine go_n (by rw [hl_1228] <;> decide +kernel) ?_
      refine go_p (by rw [hy_1231] <;> decide +kernel) ?_
      rw [hs_1230]
      refine go_u2 (n := 8184) (a0 := 1) (qi_lit 1) (a1 := 0) (show _ = nI 0 by rw [hl_1229] <;> decide +kernel) (fun self6 hs_1234 x3_6 hl_1232 x4_6 hl_1233 => ?_)
      unfold L_L_types_6
      refine go_n (by rw [hl_1233] <;> decide +kernel) ?_
      refine go_ltl (y := 0) (by rw [hl_1233] <;> decide +kernel) (fun y18_1 hy_1235 => ?_)
      refine go_n (by rw [hl_1232] <;> decide +kernel) ?_
      refine go_p (by rw [hy_1235] <;> decide +kernel) ?_
      rw [hs_1234]
      refine go_u2 (n := 8183) (a0 := 1) (qi_lit 1) (a1 := 4294967288) (show _ = nI 4294967288 by rw [hl_1233] <;> decide +kernel) (fun self6 hs_1238 x3_6 hl_1236 x4_6 hl_1237 => ?_)
      unfold L_L_types_6
      refine go_p (by rw [hl_1237] <;> decide +kernel) ?_
      refine go_z (c := 1) (by rw [hl_1236] <;> decide +kernel) (by decide) ?_
      exact go_s hl_1236 K_1166
    refine go_n (by rw [hr_1202] <;> decide +kernel) ?_
    refine go_bd (c := 0) (S := Sq_102) (k_letterError  K_1203 (by decide +kernel)) (fun r_24 hr_1239 K_1240 => ?_)
    refine go_p (by rw [hr_1239] <;> decide +kernel) ?_
    refine go_z1 ?_
    exact go_s (qi_lit 1) K_1240
  refine go_n (by rw [hr_1161] <;> decide +kernel) ?_
  refine go_bd (c := 1) (S := Sq_112) ?_ (fun r_190 hr_1241 K_1242 => ?_)
  · unfold f_L_isError
    refine go_bd (c := 0) (S := Sq_102) (k_clearLetter  K_1162 (by decide +kernel)) (fun r_1 hr_1243 K_1244 => ?_)
    refine go_n (by rw [hr_1243] <;> decide +kernel) ?_
    refine go_bd (c := 1) (S := Sq_110) ?_ (fun r_9 hr_1245 K_1246 => ?_)
    · unfold f_L_types
      refine go_u2 (n := 8191) (a0 := 1) (qi_lit 1) (a1 := 56) (qi_lit 56) (fun self6 hs_1249 x3_6 hl_1247 x4_6 hl_1248 => ?_)
      unfold L_L_types_6
      refine go_n (by rw [hl_1248] <;> decide +kernel) ?_
      refine go_ltl (y := 120) (by rw [hl_1248] <;> decide +kernel) (fun y18_1 hy_1250 => ?_)
      refine go_n (by rw [hl_1247] <;> decide +kernel) ?_
      refine go_n (by rw [hy_1250] <;> decide +kernel) ?_
      refine go_bd (c := 1) (S := Sq_103) (k_type (show _ = nI 120 by rw [hy_1250] <;> decide +kernel) (Nat.le_of_ble_eq_true rfl) K_1244 (by decide +kernel)) (fun r_35 hr_1251 K_1252 => ?_)
      refine go_n (by rw [hr_1251] <;> decide +kernel) ?_
      rw [hs_1249]
      refine go_u2 (n := 8190) (a0 := 1) (qi_lit 1) (a1 := 48) (show _ = nI 48 by rw [hl_1248] <;> decide +kernel) (fun self6 hs_1255 x3_6 hl_1253 x4_6 hl_1254 => ?_)
      unfold L_L_types_6
      refine go_n (by rw [hl_1254] <;> decide +kernel) ?_
      refine go_ltl (y := 48) (by rw [hl_1254] <;> decide +kernel) (fun y18_1 hy_1256 => ?_)
      refine go_n (by rw [hl_1253] <;> decide +kernel) ?_
      refine go_n (by rw [hy_1256] <;> decide +kernel) ?_
      refine go_bd (c := 2) (S := Sq_104) (k_type (show _ = nI 48 by rw [hy_1256] <;> decide +kernel) (Nat.le_of_ble_eq_true rfl) K_1252 (by decide +kernel)) (fun r_35 hr_1257 K_1258 => ?_)
      refine go_n (by rw [hr_1257] <;> decide +kernel) ?_
      rw [hs_1255]
      refine go_u2 (n := 8189) (a0 := 1) (qi_lit 1) (a1 := 40) (show _ = nI 40 by rw [hl_1254] <;> decide +kernel) (fun self6 hs_1261 x3_6 hl_1259 x4_6 hl_1260 => ?_)
      unfold L_L_types_6
      refine go_n (by rw [hl_1260] <;> decide +kernel) ?_
      refine go_ltl (y := 59) (by rw [hl_1260] <;> decide +kernel) (fun y18_1 hy_1262 => ?_)
      refine go_n (by rw [hl_1259] <;> decide +kernel) ?_
      refine go_n (by rw [hy_1262] <;> decide +kernel) ?_
      refine go_bd (c := 3) (S := Sq_105) (k_type (show _ = nI 59 by rw [hy_1262] <;> decide +kernel) (Nat.le_of_ble_eq_true rfl) K_1258 (by decide +kernel)) (fun r_35 hr_1263 K_1264 => ?_)
      refine go_n (by rw [hr_1263] <;> decide +kernel) ?_
      rw [hs_1261]
      refine go_u2 (n := 8188) (a0 := 1) (qi_lit 1) (a1 := 32) (show _ = nI 32 by rw [hl_1260] <;> decide +kernel) (fun self6 hs_1267 x3_6 hl_1265 x4_6 hl_1266 => ?_)
      unfold L_L_types_6
      refine go_n (by rw [hl_1266] <;> decide +kernel) ?_
      refine go_ltl (y := 116) (by rw [hl_1266] <;> decide +kernel) (fun y18_1 hy_1268 => ?_)
      refine go_n (by rw [hl_1265] <;> decide +kernel) ?_
      refine go_n (by rw [hy_1268] <;> decide +kernel) ?_
      refine go_bd (c := 4) (S := Sq_106) (k_type (show _ = nI 116 by rw [hy_1268] <;> decide +kernel) (Nat.le_of_ble_eq_true rfl) K_1264 (by decide +kernel)) (fun r_35 hr_1269 K_1270 => ?_)
      refine go_n (by rw [hr_1269] <;> decide +kernel) ?_
      rw [hs_1267]
      refine go_u2 (n := 8187) (a0 := 1) (qi_lit 1) (a1 := 24) (show _ = nI 24 by rw [hl_1266] <;> decide +kernel) (fun self6 hs_1273 x3_6 hl_1271 x4_6 hl_1272 => ?_)
      unfold L_L_types_6
      refine go_n (by rw [hl_1272] <;> decide +kernel) ?_
      refine go_ltl (y := 49) (by rw [hl_1272] <;> decide +kernel) (fun y18_1 hy_1274 => ?_)
      refine go_n (by rw [hl_1271] <;> decide +kernel) ?_
      refine go_n (by rw [hy_1274] <;> decide +kernel) ?_
      refine go_bd (c := 5) (S := Sq_107) (k_type (show _ = nI 49 by rw [hy_1274] <;> decide +kernel) (Nat.le_of_ble_eq_true rfl) K_1270 (by decide +kernel)) (fun r_35 hr_1275 K_1276 => ?_)
      refine go_n (by rw [hr_1275] <;> decide +kernel) ?_
      rw [hs_1273]
      refine go_u2 (n := 8186) (a0 := 1) (qi_lit 1) (a1 := 16) (show _ = nI 16 by rw [hl_1272] <;> decide +kernel) (fun self6 hs_1279 x3_6 hl_1277 x4_6 hl_1278 => ?_)
      unfold L_L_types_6
      refine go_n (by rw [hl_1278] <;> decide +kernel) ?_
      refine go_ltl (y := 59) (by rw [hl_1278] <;> decide +kernel) (fun y18_1 hy_1280 => ?_)
      refine go_n (by rw [hl_1277] <;> decide +kernel) ?_
      refine go_n (by rw [hy_1280] <;> decide +kernel) ?_
      refine go_bd (c := 6) (S := Sq_108) (k_type (show _ = nI 59 by rw [hy_1280] <;> decide +kernel) (Nat.le_of_ble_eq_true rfl) K_1276 (by decide +kernel)) (fun r_35 hr_1281 K_1282 => ?_)
      refine go_n (by rw [hr_1281] <;> decide +kernel) ?_
      rw [hs_1279]
      refine go_u2 (n := 8185) (a0 := 1) (qi_lit 1) (a1 := 8) (show _ = nI 8 by rw [hl_1278] <;> decide +kernel) (fun self6 hs_1285 x3_6 hl_1283 x4_6 hl_1284 => ?_)
      unfold L_L_types_6
      refine go_n (by rw [hl_1284] <;> decide +kernel) ?_
      refine go_ltl (y := 120) (by rw [hl_1284] <;> decide +kernel) (fun y18_1 hy_1286 => ?_)
      refine go_n (by rw [hl_1283] <;> decide +kernel) ?_
      refine go_n (by rw [hy_1286] <;> decide +kernel) ?_
      refine go_bd (c := 7) (S := Sq_109) (k_type (show _ = nI 120 by rw [hy_1286] <;> decide +kernel) (Nat.le_of_ble_eq_true rfl) K_1282 (by decide +kernel)) (fun r_35 hr_1287 K_1288 => ?_)
      refine go_n (by rw [hr_1287] <;> decide +kernel) ?_
      rw [hs_1285]
      refine go_u2 (n := 8184) (a0 := 1) (qi_lit 1) (a1 := 0) (show _ = nI 0 by rw [hl_1284] <;> decide +kernel) (fun self6 hs_1291 x3_6 hl_1289 x4_6 hl_1290 => ?_)
      unfold L_L_types_6
      refine go_n (by rw [hl_1290] <;> decide +kernel) ?_
      refine go_ltl (y := 50) (by rw [hl_1290] <;> decide +kernel) (fun y18_1 hy_1292 => ?_)
      refine go_n (by rw [hl_1289] <;> decide +kernel) ?_
      refine go_n (by rw [hy_1292] <;> decide +kernel) ?_
      refine go_bd (c := 8) (S := Sq_110) (k_type (show _ = nI 50 by rw [hy_1292] <;> decide +kernel) (Nat.le_of_ble_eq_true rfl) K_1288 (by decide +kernel)) (fun r_35 hr_1293 K_1294 => ?_)
      refine go_n (by rw [hr_1293] <;> decide +kernel) ?_
      rw [hs_1291]
      refine go_u2 (n := 8183) (a0 := 1) (qi_lit 1) (a1 := 4294967288) (show _ = nI 4294967288 by rw [hl_1290] <;> decide +kernel) (fun self6 hs_1297 x3_6 hl_1295 x4_6 hl_1296 => ?_)
      unfold L_L_types_6
      refine go_p (by rw [hl_1296] <;> decide +kernel) ?_
      refine go_z (c := 1) (by rw [hl_1295] <;> decide +kernel) (by decide) ?_
      exact go_s hl_1295 K_1294
    refine go_n (by rw [hr_1245] <;> decide +kernel) ?_
    refine go_bd (c := 1) (S := Sq_111) ?_ (fun r_17 hr_1298 K_1299 => ?_)
    · unfold f_L_types
      refine go_u2 (n := 8191) (a0 := 1) (qi_lit 1) (a1 := 56) (qi_lit 56) (fun self6 hs_1302 x3_6 hl_1300 x4_6 hl_1301 => ?_)
      unfold L_L_types_6
      refine go_n (by rw [hl_1301] <;> decide +kernel) ?_
      refine go_ltl (y := 0) (by rw [hl_1301] <;> decide +kernel) (fun y18_1 hy_1303 => ?_)
      refine go_n (by rw [hl_1300] <;> decide +kernel) ?_
      refine go_p (by rw [hy_1303] <;> decide +kernel) ?_
      rw [hs_1302]
      refine go_u2 (n := 8190) (a0 := 1) (qi_lit 1) (a1 := 48) (show _ = nI 48 by rw [hl_1301] <;> decide +kernel) (fun self6 hs_1306 x3_6 hl_1304 x4_6 hl_1305 => ?_)
      unfold L_L_types_6
      refine go_n (by rw [hl_1305] <;> decide +kernel) ?_
      refine go_ltl (y := 0) (by rw [hl_1305] <;> decide +kernel) (fun y18_1 hy_1307 => ?_)
      refine go_n (by rw [hl_1304] <;> decide +kernel) ?_
      refine go_p (by rw [hy_1307] <;> decide +kernel) ?_
      rw [hs_1306]
      refine go_u2 (n := 8189) (a0 := 1) (qi_lit 1) (a1 := 40) (show _ = nI 40 by rw [hl_1305] <;> decide +kernel) (fun self6 hs_1310 x3_6 hl_1308 x4_6 hl_1309 => ?_)
      unfold L_L_types_6
      refine go_n (by rw [hl_1309] <;> decide +kernel) ?_
      refine go_ltl (y := 0) (by rw [hl_1309] <;> decide +kernel) (fun y18_1 hy_1311 => ?_)
      refine go_n (by rw [hl_1308] <;> decide +kernel) ?_
      refine go_p (by rw [hy_1311] <;> decide +kernel) ?_
      rw [hs_1310]
      refine go_u2 (n := 8188) (a0 := 1) (qi_lit 1) (a1 := 32) (show _ = nI 32 by rw [hl_1309] <;> decide +kernel) (fun self6 hs_1314 x3_6 hl_1312 x4_6 hl_1313 => ?_)
      unfold L_L_types_6
      refine go_n (by rw [hl_1313] <;> decide +kernel) ?_
      refine go_ltl (y := 0) (by rw [hl_1313] <;> decide +kernel) (fun y18_1 hy_1315 => ?_)
      refine go_n (by rw [hl_1312] <;> decide +kernel) ?_
      refine go_p (by rw [hy_1315] <;> decide +kernel) ?_
      rw [hs_1314]
      refine go_u2 (n := 8187) (a0 := 1) (qi_lit 1) (a1 := 24) (show _ = nI 24 by rw [hl_1313] <;> decide +kernel) (fun self6 hs_1318 x3_6 hl_1316 x4_6 hl_1317 => ?_)
      unfold L_L_types_6
      refine go_n (by rw [hl_1317] <;> decide +kernel) ?_
      refine go_ltl (y := 0) (by rw [hl_1317] <;> decide +kernel) (fun y18_1 hy_1319 => ?_)
      refine go_n (by rw [hl_1316] <;> decide +kernel) ?_
      refine go_p (by rw [hy_1319] <;> decide +kernel) ?_
      rw [hs_1318]
      refine go_u2 (n := 8186) (a0 := 1) (qi_lit 1) (a1 := 16) (show _ = nI 16 by rw [hl_1317] <;> decide +kernel) (fun self6 hs_1322 x3_6 hl_1320 x4_6 hl_1321 => ?_)
      unfold L_L_types_6
      refine go_n (by rw [hl_1321] <;> decide +kernel) ?_
      refine go_ltl (y := 0) (by rw [hl_1321] <;> decide +kernel) (fun y18_1 hy_1323 => ?_)
      refine go_n (by rw [hl_1320] <;> decide +kernel) ?_
      refine go_p (by rw [hy_1323] <;> decide +kernel) ?_
      rw [hs_1322]
      refine go_u2 (n := 8185) (a0 := 1) (qi_lit 1) (a1 := 8) (show _ = nI 8 by rw [hl_1321] <;> decide +kernel) (fun self6 hs_1326 x3_6 hl_1324 x4_6 hl_1325 => ?_)
      unfold L_L_types_6
      refine go_n (by rw [hl_1325] <;> decide +kernel) ?_
      refine go_ltl (y := 0) (by rw [hl_1325] <;> decide +kernel) (fun y18_1 hy_1327 => ?_)
      refine go_n (by rw [hl_1324] <;> decide +kernel) ?_
      refine go_p (by rw [hy_1327] <;> decide +kernel) ?_
      rw [hs_1326]
      refine go_u2 (n := 8184) (a0 := 1) (qi_lit 1) (a1 := 0) (show _ = nI 0 by rw [hl_1325] <;> decide +kernel) (fun self6 hs_1330 x3_6 hl_1328 x4_6 hl_1329 => ?_)
      unfold L_L_types_6
      refine go_n (by rw [hl_1329] <;> decide +kernel) ?_
      refine go_ltl (y := 57) (by rw [hl_1329] <;> decide +kernel) (fun y18_1 hy_1331 => ?_)
      refine go_n (by rw [hl_1328] <;> decide +kernel) ?_
      refine go_n (by rw [hy_1331] <;> decide +kernel) ?_
      refine go_bd (c := 9) (S := Sq_111) (k_type (show _ = nI 57 by rw [hy_1331] <;> decide +kernel) (Nat.le_of_ble_eq_true rfl) K_1246 (by decide +kernel)) (fun r_35 hr_1332 K_1333 => ?_)
      refine go_n (by rw [hr_1332] <;> decide +kernel) ?_
      rw [hs_1330]
      refine go_u2 (n := 8183) (a0 := 1) (qi_lit 1) (a1 := 4294967288) (show _ = nI 4294967288 by rw [hl_1329] <;> decide +kernel) (fun self6 hs_1336 x3_6 hl_1334 x4_6 hl_1335 => ?_)
      unfold L_L_types_6
      refine go_p (by rw [hl_1335] <;> decide +kernel) ?_
      refine go_z (c := 1) (by rw [hl_1334] <;> decide +kernel) (by decide) ?_
      exact go_s hl_1334 K_1333
    refine go_n (by rw [hr_1298] <;> decide +kernel) ?_
    refine go_bd (c := 4294967295) (S := Sq_112) (k_letterError  K_1299 (by decide +kernel)) (fun r_24 hr_1337 K_1338 => ?_)
    refine go_p (by rw [hr_1337] <;> decide +kernel) ?_
    refine go_z1 ?_
    exact go_s (qi_lit 1) K_1338
  refine go_n (by rw [hr_1241] <;> decide +kernel) ?_
  refine go_bd (c := 1) (S := Sq_118) ?_ (fun r_202 hr_1339 K_1340 => ?_)
  · unfold f_L_isError
    refine go_bd (c := 9) (S := Sq_113) (k_clearLetter  K_1242 (by decide +kernel)) (fun r_1 hr_1341 K_1342 => ?_)
    refine go_n (by rw [hr_1341] <;> decide +kernel) ?_
    refine go_bd (c := 1) (S := Sq_117) ?_ (fun r_9 hr_1343 K_1344 => ?_)
    · unfold f_L_types
      refine go_u2 (n := 8191) (a0 := 1) (qi_lit 1) (a1 := 56) (qi_lit 56) (fun self6 hs_1347 x3_6 hl_1345 x4_6 hl_1346 => ?_)
      unfold L_L_types_6
      refine go_n (by rw [hl_1346] <;> decide +kernel) ?_
      refine go_ltl (y := 0) (by rw [hl_1346] <;> decide +kernel) (fun y18_1 hy_1348 => ?_)
      refine go_n (by rw [hl_1345] <;> decide +kernel) ?_
      refine go_p (by rw [hy_1348] <;> decide +kernel) ?_
      rw [hs_1347]
      refine go_u2 (n := 8190) (a0 := 1) (qi_lit 1) (a1 := 48) (show _ = nI 48 by rw [hl_1346] <;> decide +kernel) (fun self6 hs_1351 x3_6 hl_1349 x4_6 hl_1350 => ?_)
      unfold L_L_types_6
      refine go_n (by rw [hl_1350] <;> decide +kernel) ?_
      refine go_ltl (y := 0) (by rw [hl_1350] <;> decide +kernel) (fun y18_1 hy_1352 => ?_)
      refine go_n (by rw [hl_1349] <;> decide +kernel) ?_
      refine go_p (by rw [hy_1352] <;> decide +kernel) ?_
      rw [hs_1351]
      refine go_u2 (n := 8189) (a0 := 1) (qi_lit 1) (a1 := 40) (show _ = nI 40 by rw [hl_1350] <;> decide +kernel) (fun self6 hs_1355 x3_6 hl_1353 x4_6 hl_1354 => ?_)
      unfold L_L_types_6
      refine go_n (by rw [hl_1354] <;> decide +kernel) ?_
      refine go_ltl (y := 0) (by rw [hl_1354] <;> decide +kernel) (fun y18_1 hy_1356 => ?_)
      refine go_n (by rw [hl_1353] <;> decide +kernel) ?_
      refine go_p (by rw [hy_1356] <;> decide +kernel) ?_
      rw [hs_1355]
      refine go_u2 (n := 8188) (a0 := 1) (qi_lit 1) (a1 := 32) (show _ = nI 32 by rw [hl_1354] <;> decide +kernel) (fun self6 hs_1359 x3_6 hl_1357 x4_6 hl_1358 => ?_)
      unfold L_L_types_6
      refine go_n (by rw [hl_1358] <;> decide +kernel) ?_
      refine go_ltl (y := 0) (by rw [hl_1358] <;> decide +kernel) (fun y18_1 hy_1360 => ?_)
      refine go_n (by rw [hl_1357] <;> decide +kernel) ?_
      refine go_p (by rw [hy_1360] <;> decide +kernel) ?_
      rw [hs_1359]
      refine go_u2 (n := 8187) (a0 := 1) (qi_lit 1) (a1 := 24) (show _ = nI 24 by rw [hl_1358] <;> decide +kernel) (fun self6 hs_1363 x3_6 hl_1361 x4_6 hl_1362 => ?_)
      unfold L_L_types_6
      refine go_n (by rw [hl_1362] <;> decide +kernel) ?_
      refine go_ltl (y := 102) (by rw [hl_1362] <;> decide +kernel) (fun y18_1 hy_1364 => ?_)
      refine go_n (by rw [hl_1361] <;> decide +kernel) ?_
      refine go_n (by rw [hy_1364] <;> decide +kernel) ?_
      refine go_bd (c := 1) (S := Sq_114) (k_type (show _ = nI 102 by rw [hy_1364] <;> decide +kernel) (Nat.le_of_ble_eq_true rfl) K_1342 (by decide +kernel)) (fun r_35 hr_1365 K_1366 => ?_)
      refine go_n (by rw [hr_1365] <;> decide +kernel) ?_
      rw [hs_1363]
      refine go_u2 (n := 8186) (a0 := 1) (qi_lit 1) (a1 := 16) (show _ = nI 16 by rw [hl_1362] <;> decide +kernel) (fun self6 hs_1369 x3_6 hl_1367 x4_6 hl_1368 => ?_)
      unfold L_L_types_6
      refine go_n (by rw [hl_1368] <;> decide +kernel) ?_
      refine go_ltl (y := 57) (by rw [hl_1368] <;> decide +kernel) (fun y18_1 hy_1370 => ?_)
      refine go_n (by rw [hl_1367] <;> decide +kernel) ?_
      refine go_n (by rw [hy_1370] <;> decide +kernel) ?_
      refine go_bd (c := 2) (S := Sq_115) (k_type (show _ = nI 57 by rw [hy_1370] <;> decide +kernel) (Nat.le_of_ble_eq_true rfl) K_1366 (by decide +kernel)) (fun r_35 hr_1371 K_1372 => ?_)
      refine go_n (by rw [hr_1371] <;> decide +kernel) ?_
      rw [hs_1369]
      refine go_u2 (n := 8185) (a0 := 1) (qi_lit 1) (a1 := 8) (show _ = nI 8 by rw [hl_1368] <;> decide +kernel) (fun self6 hs_1375 x3_6 hl_1373 x4_6 hl_1374 => ?_)
      unfold L_L_types_6
      refine go_n (by rw [hl_1374] <;> decide +kernel) ?_
      refine go_ltl (y := 42) (by rw [hl_1374] <;> decide +kernel) (fun y18_1 hy_1376 => ?_)
      refine go_n (by rw [hl_1373] <;> decide +kernel) ?_
      refine go_n (by rw [hy_1376] <;> decide +kernel) ?_
      refine go_bd (c := 3) (S := Sq_116) (k_type (show _ = nI 42 by rw [hy_1376] <;> decide +kernel) (Nat.le_of_ble_eq_true rfl) K_1372 (by decide +kernel)) (fun r_35 hr_1377 K_1378 => ?_)
      refine go_n (by rw [hr_1377] <;> decide +kernel) ?_
      rw [hs_1375]
      refine go_u2 (n := 8184) (a0 := 1) (qi_lit 1) (a1 := 0) (show _ = nI 0 by rw [hl_1374] <;> decide +kernel) (fun self6 hs_1381 x3_6 hl_1379 x4_6 hl_1380 => ?_)
      unfold L_L_types_6
      refine go_n (by rw [hl_1380] <;> decide +kernel) ?_
      refine go_ltl (y := 52) (by rw [hl_1380] <;> decide +kernel) (fun y18_1 hy_1382 => ?_)
      refine go_n (by rw [hl_1379] <;> decide +kernel) ?_
      refine go_n (by rw [hy_1382] <;> decide +kernel) ?_
      refine go_bd (c := 4) (S := Sq_117) (k_type (show _ = nI 52 by rw [hy_1382] <;> decide +kernel) (Nat.le_of_ble_eq_true rfl) K_1378 (by decide +kernel)) (fun r_35 hr_1383 K_1384 => ?_)
      refine go_n (by rw [hr_1383] <;> decide +kernel) ?_
      rw [hs_1381]
      refine go_u2 (n := 8183) (a0 := 1) (qi_lit 1) (a1 := 4294967288) (show _ = nI 4294967288 by rw [hl_1380] <;> decide +kernel) (fun self6 hs_1387 x3_6 hl_1385 x4_6 hl_1386 => ?_)
      unfold L_L_types_6
      refine go_p (by rw [hl_1386] <;> decide +kernel) ?_
      refine go_z (c := 1) (by rw [hl_1385] <;> decide +kernel) (by decide) ?_
      exact go_s hl_1385 K_1384
    refine go_n (by rw [hr_1343] <;> decide +kernel) ?_
    refine go_bd (c := 1) (S := Sq_117) ?_ (fun r_17 hr_1388 K_1389 => ?_)
    · unfold f_L_types
      refine go_u2 (n := 8191) (a0 := 1) (qi_lit 1) (a1 := 56) (qi_lit 56) (fun self6 hs_1392 x3_6 hl_1390 x4_6 hl_1391 => ?_)
      unfold L_L_types_6
      refine go_n (by rw [hl_1391] <;> decide +kernel) ?_
      refine go_ltl (y := 0) (by rw [hl_1391] <;> decide +kernel) (fun y18_1 hy_1393 => ?_)
      refine go_n (by rw [hl_1390] <;> decide +kernel) ?_
      refine go_p (by rw [hy_1393] <;> decide +kernel) ?_
      rw [hs_1392]
      refine go_u2 (n := 8190) (a0 := 1) (qi_lit 1) (a1 := 48) (show _ = nI 48 by rw [hl_1391] <;> decide +kernel) (fun self6 hs_1396 x3_6 hl_1394 x4_6 hl_1395 => ?_)
      unfold L_L_types_6
      refine go_n (by rw [hl_1395] <;> decide +kernel) ?_
      refine go_ltl (y := 0) (by rw [hl_1395] <;> decide +kernel) (fun y18_1 hy_1397 => ?_)
      refine go_n (by rw [hl_1394] <;> decide +kernel) ?_
      refine go_p (by rw [hy_1397] <;> decide +kernel) ?_
      rw [hs_1396]
      refine go_u2 (n := 8189) (a0 := 1) (qi_lit 1) (a1 := 40) (show _ = nI 40 by rw [hl_1395] <;> decide +kernel) (fun self6 hs_1400 x3_6 hl_1398 x4_6 hl_1399 => ?_)
      unfold L_L_types_6
      refine go_n (by rw [hl_1399] <;> decide +kernel) ?_
      refine go_ltl (y := 0) (by rw [hl_1399] <;> decide +kernel) (fun y18_1 hy_1401 => ?_)
      refine go_n (by rw [hl_1398] <;> decide +kernel) ?_
      refine go_p (by rw [hy_1401] <;> decide +kernel) ?_
      rw [hs_1400]
      refine go_u2 (n := 8188) (a0 := 1) (qi_lit 1) (a1 := 32) (show _ = nI 32 by rw [hl_1399] <;> decide +kernel) (fun self6 hs_1404 x3_6 hl_1402 x4_6 hl_1403 => ?_)
      unfold L_L_types_6
      refine go_n (by rw [hl_1403] <;> decide +kernel) ?_
      refine go_ltl (y := 0) (by rw [hl_1403] <;> decide +kernel) (fun y18_1 hy_1405 => ?_)
      refine go_n (by rw [hl_1402] <;> decide +kernel) ?_
      refine go_p (by rw [hy_1405] <;> decide +kernel) ?_
      rw [hs_1404]
      refine go_u2 (n := 8187) (a0 := 1) (qi_lit 1) (a1 := 24) (show _ = nI 24 by rw [hl_1403] <;> decide +kernel) (fun self6 hs_1408 x3_6 hl_1406 x4_6 hl_1407 => ?_)
      unfold L_L_types_6
      refine go_n (by rw [hl_1407] <;> decide +kernel) ?_
      refine go_ltl (y := 0) (by rw [hl_1407] <;> decide +kernel) (fun y18_1 hy_1409 => ?_)
      refine go_n (by rw [hl_1406] <;> decide +kernel) ?_
      refine go_p (by rw [hy_1409] <;> decide +kernel) ?_
      rw [hs_1408]
      refine go_u2 (n := 8186) (a0 := 1) (qi_lit 1) (a1 := 16) (show _ = nI 16 by rw [hl_1407] <;> decide +kernel) (fun self6 hs_1412 x3_6 hl_1410 x4_6 hl_1411 => ?_)
      unfold L_L_types_6
      refine go_n (by rw [hl_1411] <;> decide +kernel) ?_
      refine go_ltl (y := 0) (by rw [hl_1411] <;> decide +kernel) (fun y18_1 hy_1413 => ?_)
      refine go_n (by rw [hl_1410] <;> decide +kernel) ?_
      refine go_p (by rw [hy_1413] <;> decide +kernel) ?_
      rw [hs_1412]
      refine go_u2 (n := 8185) (a0 := 1) (qi_lit 1) (a1 := 8) (show _ = nI 8 by rw [hl_1411] <;> decide +kernel) (fun self6 hs_1416 x3_6 hl_1414 x4_6 hl_1415 => ?_)
      unfold L_L_types_6
      refine go_n (by rw [hl_1415] <;> decide +kernel) ?_
      refine go_ltl (y := 0) (by rw [hl_1415] <;> decide +kernel) (fun y18_1 hy_1417 => ?_)
      refine go_n (by rw [hl_1414] <;> decide +kernel) ?_
      refine go_p (by rw [hy_1417] <;> decide +kernel) ?_
      rw [hs_1416]
      refine go_u2 (n := 8184) (a0 := 1) (qi_lit 1) (a1 := 0) (show _ = nI 0 by rw [hl_1415] <;> decide +kernel) (fun self6 hs_1420 x3_6 hl_1418 x4_6 hl_1419 => ?_)
      unfold L_L_types_6
      refine go_n (by rw [hl_1419] <;> decide +kernel) ?_
      refine go_ltl (y := 0) (by rw [hl_1419] <;> decide +kernel) (fun y18_1 hy_1421 => ?_)
      refine go_n (by rw [hl_1418] <;> decide +kernel) ?_
      refine go_p (by rw [hy_1421] <;> decide +kernel) ?_
      rw [hs_1420]
      refine go_u2 (n := 8183) (a0 := 1) (qi_lit 1) (a1 := 4294967288) (show _ = nI 4294967288 by rw [hl_1419] <;> decide +kernel) (fun self6 hs_1424 x3_6 hl_1422 x4_6 hl_1423 => ?_)
      unfold L_L_types_6
      refine go_p (by rw [hl_1423] <;> decide +kernel) ?_
      refine go_z (c := 1) (by rw [hl_1422] <;> decide +kernel) (by decide) ?_
      exact go_s hl_1422 K_1344
    refine go_n (by rw [hr_1388] <;> decide +kernel) ?_
    refine go_bd (c := 3) (S := Sq_118) (k_letterError  K_1389 (by decide +kernel)) (fun r_24 hr_1425 K_1426 => ?_)
    refine go_p (by rw [hr_1425] <;> decide +kernel) ?_
    refine go_z1 ?_
    exact go_s (qi_lit 1) K_1426
  refine go_n (by rw [hr_1339] <;> decide +kernel) ?_
  refine go_bd (c := 1) (S := Sq_124) ?_ (fun r_214 hr_1427 K_1428 => ?_)
  · unfold f_L_isError
    refine go_bd (c := 4) (S := Sq_119) (k_clearLetter  K_1340 (by decide +kernel)) (fun r_1 hr_1429 K_1430 => ?_)
    refine go_n (by rw [hr_1429] <;> decide +kernel) ?_
    refine go_bd (c := 1) (S := Sq_123) ?_ (fun r_9 hr_1431 K_1432 => ?_)
    · unfold f_L_types
      refine go_u2 (n := 8191) (a0 := 1) (qi_lit 1) (a1 := 56) (qi_lit 56) (fun self6 hs_1435 x3_6 hl_1433 x4_6 hl_1434 => ?_)
      unfold L_L_types_6
      refine go_n (by rw [hl_1434] <;> decide +kernel) ?_
      refine go_ltl (y := 0) (by rw [hl_1434] <;> decide +kernel) (fun y18_1 hy_1436 => ?_)
      refine go_n (by rw [hl_1433] <;> decide +kernel) ?_
      refine go_p (by rw [hy_1436] <;> decide +kernel) ?_
      rw [hs_1435]
      refine go_u2 (n := 8190) (a0 := 1) (qi_lit 1) (a1 := 48) (show _ = nI 48 by rw [hl_1434] <;> decide +kernel) (fun self6 hs_1439 x3_6 hl_1437 x4_6 hl_1438 => ?_)
      unfold L_L_types_6
      refine go_n (by rw [hl_1438] <;> decide +kernel) ?_
      refine go_ltl (y := 0) (by rw [hl_1438] <;> decide +kernel) (fun y18_1 hy_1440 => ?_)
      refine go_n (by rw [hl_1437] <;> decide +kernel) ?_
      refine go_p (by rw [hy_1440] <;> decide +kernel) ?_
      rw [hs_1439]
      refine go_u2 (n := 8189) (a0 := 1) (qi_lit 1) (a1 := 40) (show _ = nI 40 by rw [hl_1438] <;> decide +kernel) (fun self6 hs_1443 x3_6 hl_1441 x4_6 hl_1442 => ?_)
      unfold L_L_types_6
      refine go_n (by rw [hl_1442] <;> decide +kernel) ?_
      refine go_ltl (y := 0) (by rw [hl_1442] <;> decide +kernel) (fun y18_1 hy_1444 => ?_)
      refine go_n (by rw [hl_1441] <;> decide +kernel) ?_
      refine go_p (by rw [hy_1444] <;> decide +kernel) ?_
      rw [hs_1443]
      refine go_u2 (n := 8188) (a0 := 1) (qi_lit 1) (a1 := 32) (show _ = nI 32 by rw [hl_1442] <;> decide +kernel) (fun self6 hs_1447 x3_6 hl_1445 x4_6 hl_1446 => ?_)
      unfold L_L_types_6
      refine go_n (by rw [hl_1446] <;> decide +kernel) ?_
      refine go_ltl (y := 0) (by rw [hl_1446] <;> decide +kernel) (fun y18_1 hy_1448 => ?_)
      refine go_n (by rw [hl_1445] <;> decide +kernel) ?_
      refine go_p (by rw [hy_1448] <;> decide +kernel) ?_
      rw [hs_1447]
      refine go_u2 (n := 8187) (a0 := 1) (qi_lit 1) (a1 := 24) (show _ = nI 24 by rw [hl_1446] <;> decide +kernel) (fun self6 hs_1451 x3_6 hl_1449 x4_6 hl_1450 => ?_)
      unfold L_L_types_6
      refine go_n (by rw [hl_1450] <;> decide +kernel) ?_
      refine go_ltl (y := 108) (by rw [hl_1450] <;> decide +kernel) (fun y18_1 hy_1452 => ?_)
      refine go_n (by rw [hl_1449] <;> decide +kernel) ?_
      refine go_n (by rw [hy_1452] <;> decide +kernel) ?_
      refine go_bd (c := 1) (S := Sq_120) (k_type (show _ = nI 108 by rw [hy_1452] <;> decide +kernel) (Nat.le_of_ble_eq_true rfl) K_1430 (by decide +kernel)) (fun r_35 hr_1453 K_1454 => ?_)
      refine go_n (by rw [hr_1453] <;> decide +kernel) ?_
      rw [hs_1451]
      refine go_u2 (n := 8186) (a0 := 1) (qi_lit 1) (a1 := 16) (show _ = nI 16 by rw [hl_1450] <;> decide +kernel) (fun self6 hs_1457 x3_6 hl_1455 x4_6 hl_1456 => ?_)
      unfold L_L_types_6
      refine go_n (by rw [hl_1456] <;> decide +kernel) ?_
      refine go_ltl (y := 48) (by rw [hl_1456] <;> decide +kernel) (fun y18_1 hy_1458 => ?_)
      refine go_n (by rw [hl_1455] <;> decide +kernel) ?_
      refine go_n (by rw [hy_1458] <;> decide +kernel) ?_
      refine go_bd (c := 2) (S := Sq_121) (k_type (show _ = nI 48 by rw [hy_1458] <;> decide +kernel) (Nat.le_of_ble_eq_true rfl) K_1454 (by decide +kernel)) (fun r_35 hr_1459 K_1460 => ?_)
      refine go_n (by rw [hr_1459] <;> decide +kernel) ?_
      rw [hs_1457]
      refine go_u2 (n := 8185) (a0 := 1) (qi_lit 1) (a1 := 8) (show _ = nI 8 by rw [hl_1456] <;> decide +kernel) (fun self6 hs_1463 x3_6 hl_1461 x4_6 hl_1462 => ?_)
      unfold L_L_types_6
      refine go_n (by rw [hl_1462] <;> decide +kernel) ?_
      refine go_ltl (y := 46) (by rw [hl_1462] <;> decide +kernel) (fun y18_1 hy_1464 => ?_)
      refine go_n (by rw [hl_1461] <;> decide +kernel) ?_
      refine go_n (by rw [hy_1464] <;> decide +kernel) ?_
      refine go_bd (c := 3) (S := Sq_122) (k_type (show _ = nI 46 by rw [hy_1464] <;> decide +kernel) (Nat.le_of_ble_eq_true rfl) K_1460 (by decide +kernel)) (fun r_35 hr_1465 K_1466 => ?_)
      refine go_n (by rw [hr_1465] <;> decide +kernel) ?_
      rw [hs_1463]
      refine go_u2 (n := 8184) (a0 := 1) (qi_lit 1) (a1 := 0) (show _ = nI 0 by rw [hl_1462] <;> decide +kernel) (fun self6 hs_1469 x3_6 hl_1467 x4_6 hl_1468 => ?_)
      unfold L_L_types_6
      refine go_n (by rw [hl_1468] <;> decide +kernel) ?_
      refine go_ltl (y := 52) (by rw [hl_1468] <;> decide +kernel) (fun y18_1 hy_1470 => ?_)
      refine go_n (by rw [hl_1467] <;> decide +kernel) ?_
      refine go_n (by rw [hy_1470] <;> decide +kernel) ?_
      refine go_bd (c := 4) (S := Sq_123) (k_type (show _ = nI 52 by rw [hy_1470] <;> decide +kernel) (Nat.le_of_ble_eq_true rfl) K_1466 (by decide +kernel)) (fun r_35 hr_1471 K_1472 => ?_)
      refine go_n (by rw [hr_1471] <;> decide +kernel) ?_
      rw [hs_1469]
      refine go_u2 (n := 8183) (a0 := 1) (qi_lit 1) (a1 := 4294967288) (show _ = nI 4294967288 by rw [hl_1468] <;> decide +kernel) (fun self6 hs_1475 x3_6 hl_1473 x4_6 hl_1474 => ?_)
      unfold L_L_types_6
      refine go_p (by rw [hl_1474] <;> decide +kernel) ?_
      refine go_z (c := 1) (by rw [hl_1473] <;> decide +kernel) (by decide) ?_
      exact go_s hl_1473 K_1472
    refine go_n (by rw [hr_1431] <;> decide +kernel) ?_
    refine go_bd (c := 1) (S := Sq_123) ?_ (fun r_17 hr_1476 K_1477 => ?_)
    · unfold f_L_types
      refine go_u2 (n := 8191) (a0 := 1) (qi_lit 1) (a1 := 56) (qi_lit 56) (fun self6 hs_1480 x3_6 hl_1478 x4_6 hl_1479 => ?_)
      unfold L_L_types_6
      refine go_n (by rw [hl_1479] <;> decide +kernel) ?_
      refine go_ltl (y := 0) (by rw [hl_1479] <;> decide +kernel) (fun y18_1 hy_1481 => ?_)
      refine go_n (by rw [hl_1478] <;> decide +kernel) ?_
      refine go_p (by rw [hy_1481] <;> decide +kernel) ?_
      rw [hs_1480]
      refine go_u2 (n := 8190) (a0 := 1) (qi_lit 1) (a1 := 48) (show _ = nI 48 by rw [hl_1479] <;> decide +kernel) (fun self6 hs_1484 x3_6 hl_1482 x4_6 hl_1483 => ?_)
      unfold L_L_types_6
      refine go_n (by rw [hl_1483] <;> decide +kernel) ?_
      refine go_ltl (y := 0) (by rw [hl_1483] <;> decide +kernel) (fun y18_1 hy_1485 => ?_)
      refine go_n (by rw [hl_1482] <;> decide +kernel) ?_
      refine go_p (by rw [hy_1485] <;> decide +kernel) ?_
      rw [hs_1484]
      refine go_u2 (n := 8189) (a0 := 1) (qi_lit 1) (a1 := 40) (show _ = nI 40 by rw [hl_1483] <;> decide +kernel) (fun self6 hs_1488 x3_6 hl_1486 x4_6 hl_1487 => ?_)
      unfold L_L_types_6
      refine go_n (by rw [hl_1487] <;> decide +kernel) ?_
      refine go_ltl (y := 0) (by rw [hl_1487] <;> decide +kernel) (fun y18_1 hy_1489 => ?_)
      refine go_n (by rw [hl_1486] <;> decide +kernel) ?_
      refine go_p (by rw [hy_1489] <;> decide +kernel) ?_
      rw [hs_1488]
      refine go_u2 (n := 8188) (a0 := 1) (qi_lit 1) (a1 := 32) (show _ = nI 32 by rw [hl_1487] <;> decide +kernel) (fun self6 hs_1492 x3_6 hl_1490 x4_6 hl_1491 => ?_)
      unfold L_L_types_6
      refine go_n (by rw [hl_1491] <;> decide +kernel) ?_
      refine go_ltl (y := 0) (by rw [hl_1491] <;> decide +kernel) (fun y18_1 hy_1493 => ?_)
      refine go_n (by rw [hl_1490] <;> decide +kernel) ?_
      refine go_p (by rw [hy_1493] <;> decide +kernel) ?_
      rw [hs_1492]
      refine go_u2 (n := 8187) (a0 := 1) (qi_lit 1) (a1 := 24) (show _ = nI 24 by rw [hl_1491] <;> decide +kernel) (fun self6 hs_1496 x3_6 hl_1494 x4_6 hl_1495 => ?_)
      unfold L_L_types_6
      refine go_n (by rw [hl_1495] <;> decide +kernel) ?_
      refine go_ltl (y := 0) (by rw [hl_1495] <;> decide +kernel) (fun y18_1 hy_1497 => ?_)
      refine go_n (by rw [hl_1494] <;> decide +kernel) ?_
      refine go_p (by rw [hy_1497] <;> decide +kernel) ?_
      rw [hs_1496]
      refine go_u2 (n := 8186) (a0 := 1) (qi_lit 1) (a1 := 16) (show _ = nI 16 by rw [hl_1495] <;> decide +kernel) (fun self6 hs_1500 x3_6 hl_1498 x4_6 hl_1499 => ?_)
      unfold L_L_types_6
      refine go_n (by rw [hl_1499] <;> decide +kernel) ?_
      refine go_ltl (y := 0) (by rw [hl_1499] <;> decide +kernel) (fun y18_1 hy_1501 => ?_)
      refine go_n (by rw [hl_1498] <;> decide +kernel) ?_
      refine go_p (by rw [hy_1501] <;> decide +kernel) ?_
      rw [hs_1500]
      refine go_u2 (n := 8185) (a0 := 1) (qi_lit 1) (a1 := 8) (show _ = nI 8 by rw [hl_1499] <;> decide +kernel) (fun self6 hs_1504 x3_6 hl_1502 x4_6 hl_1503 => ?_)
      unfold L_L_types_6
      refine go_n (by rw [hl_1503] <;> decide +kernel) ?_
      refine go_ltl (y := 0) (by rw [hl_1503] <;> decide +kernel) (fun y18_1 hy_1505 => ?_)
      refine go_n (by rw [hl_1502] <;> decide +kernel) ?_
      refine go_p (by rw [hy_1505] <;> decide +kernel) ?_
      rw [hs_1504]
      refine go_u2 (n := 8184) (a0 := 1) (qi_lit 1) (a1 := 0) (show _ = nI 0 by rw [hl_1503] <;> decide +kernel) (fun self6 hs_1508 x3_6 hl_1506 x4_6 hl_1507 => ?_)
      unfold L_L_types_6
      refine go_n (by rw [hl_1507] <;> decide +kernel) ?_
      refine go_ltl (y := 0) (by rw [hl_1507] <;> decide +kernel) (fun y18_1 hy_1509 => ?_)
      refine go_n (by rw [hl_1506] <;> decide +kernel) ?_
      refine go_p (by rw [hy_1509] <;> decide +kernel) ?_
      rw [hs_1508]
      refine go_u2 (n := 8183) (a0 := 1) (qi_lit 1) (a1 := 4294967288) (show _ = nI 4294967288 by rw [hl_1507] <;> decide +kernel) (fun self6 hs_1512 x3_6 hl_1510 x4_6 hl_1511 => ?_)
      unfold L_L_types_6
      refine go_p (by rw [hl_1511] <;> decide +kernel) ?_
      refine go_z (c := 1) (by rw [hl_1510] <;> decide +kernel) (by decide) ?_
      exact go_s hl_1510 K_1432
    refine go_n (by rw [hr_1476] <;> decide +kernel) ?_
    refine go_bd (c := 3) (S := Sq_124) (k_letterError  K_1477 (by decide +kernel)) (fun r_24 hr_1513 K_1514 => ?_)
    refine go_p (by rw [hr_1513] <;> decide +kernel) ?_
    refine go_z1 ?_
    exact go_s (qi_lit 1) K_1514
  refine go_n (by rw [hr_1427] <;> decide +kernel) ?_
  refine go_bd (c := 1) (S := Sq_132) ?_ (fun r_226 hr_1515 K_1516 => ?_)
  · unfold f_L_isError
    refine go_bd (c := 4) (S := Sq_125) (k_clearLetter  K_1428 (by decide +kernel)) (fun r_1 hr_1517 K_1518 => ?_)
    refine go_n (by rw [hr_1517] <;> decide +kernel) ?_
    refine go_bd (c := 1) (S := Sq_131) ?_ (fun r_9 hr_1519 K_1520 => ?_)
    · unfold f_L_types
      refine go_u2 (n := 8191) (a0 := 1) (qi_lit 1) (a1 := 56) (qi_lit 56) (fun self6 hs_1523 x3_6 hl_1521 x4_6 hl_1522 => ?_)
      unfold L_L_types_6
      refine go_n (by rw [hl_1522] <;> decide +kernel) ?_
      refine go_ltl (y := 0) (by rw [hl_1522] <;> decide +kernel) (fun y18_1 hy_1524 => ?_)
      refine go_n (by rw [hl_1521] <;> decide +kernel) ?_
      refine go_p (by rw [hy_1524] <;> decide +kernel) ?_
      rw [hs_1523]
      refine go_u2 (n := 8190) (a0 := 1) (qi_lit 1) (a1 := 48) (show _ = nI 48 by rw [hl_1522] <;> decide +kernel) (fun self6 hs_1527 x3_6 hl_1525 x4_6 hl_1526 => ?_)
      unfold L_L_types_6
      refine go_n (by rw [hl_1526] <;> decide +kernel) ?_
      refine go_ltl (y := 0) (by rw [hl_1526] <;> decide +kernel) (fun y18_1 hy_1528 => ?_)
      refine go_n (by rw [hl_1525] <;> decide +kernel) ?_
      refine go_p (by rw [hy_1528] <;> decide +kernel) ?_
      rw [hs_1527]
      refine go_u2 (n := 8189) (a0 := 1) (qi_lit 1) (a1 := 40) (show _ = nI 40 by rw [hl_1526] <;> decide +kernel) (fun self6 hs_1531 x3_6 hl_1529 x4_6 hl_1530 => ?_)
      unfold L_L_types_6
      refine go_n (by rw [hl_1530] <;> decide +kernel) ?_
      refine go_ltl (y := 110) (by rw [hl_1530] <;> decide +kernel) (fun y18_1 hy_1532 => ?_)
      refine go_n (by rw [hl_1529] <;> decide +kernel) ?_
      refine go_n (by rw [hy_1532] <;> decide +kernel) ?_
      refine go_bd (c := 1) (S := Sq_126) (k_type (show _ = nI 110 by rw [hy_1532] <;> decide +kernel) (Nat.le_of_ble_eq_true rfl) K_1518 (by decide +kernel)) (fun r_35 hr_1533 K_1534 => ?_)
      refine go_n (by rw [hr_1533] <;> decide +kernel) ?_
      rw [hs_1531]
      refine go_u2 (n := 8188) (a0 := 1) (qi_lit 1) (a1 := 32) (show _ = nI 32 by rw [hl_1530] <;> decide +kernel) (fun self6 hs_1537 x3_6 hl_1535 x4_6 hl_1536 => ?_)
      unfold L_L_types_6
      refine go_n (by rw [hl_1536] <;> decide +kernel) ?_
      refine go_ltl (y := 48) (by rw [hl_1536] <;> decide +kernel) (fun y18_1 hy_1538 => ?_)
      refine go_n (by rw [hl_1535] <;> decide +kernel) ?_
      refine go_n (by rw [hy_1538] <;> decide +kernel) ?_
      refine go_bd (c := 2) (S := Sq_127) (k_type (show _ = nI 48 by rw [hy_1538] <;> decide +kernel) (Nat.le_of_ble_eq_true rfl) K_1534 (by decide +kernel)) (fun r_35 hr_1539 K_1540 => ?_)
      refine go_n (by rw [hr_1539] <;> decide +kernel) ?_
      rw [hs_1537]
      refine go_u2 (n := 8187) (a0 := 1) (qi_lit 1) (a1 := 24) (show _ = nI 24 by rw [hl_1536] <;> decide +kernel) (fun self6 hs_1543 x3_6 hl_1541 x4_6 hl_1542 => ?_)
      unfold L_L_types_6
      refine go_n (by rw [hl_1542] <;> decide +kernel) ?_
      refine go_ltl (y := 58) (by rw [hl_1542] <;> decide +kernel) (fun y18_1 hy_1544 => ?_)
      refine go_n (by rw [hl_1541] <;> decide +kernel) ?_
      refine go_n (by rw [hy_1544] <;> decide +kernel) ?_
      refine go_bd (c := 3) (S := Sq_128) (k_type (show _ = nI 58 by rw [hy_1544] <;> decide +kernel) (Nat.le_of_ble_eq_true rfl) K_1540 (by decide +kernel)) (fun r_35 hr_1545 K_1546 => ?_)
      refine go_n (by rw [hr_1545] <;> decide +kernel) ?_
      rw [hs_1543]
      refine go_u2 (n := 8186) (a0 := 1) (qi_lit 1) (a1 := 16) (show _ = nI 16 by rw [hl_1542] <;> decide +kernel) (fun self6 hs_1549 x3_6 hl_1547 x4_6 hl_1548 => ?_)
      unfold L_L_types_6
      refine go_n (by rw [hl_1548] <;> decide +kernel) ?_
      refine go_ltl (y := 49) (by rw [hl_1548] <;> decide +kernel) (fun y18_1 hy_1550 => ?_)
      refine go_n (by rw [hl_1547] <;> decide +kernel) ?_
      refine go_n (by rw [hy_1550] <;> decide +kernel) ?_
      refine go_bd (c := 4) (S := Sq_129) (k_type (show _ = nI 49 by rw [hy_1550] <;> decide +kernel) (Nat.le_of_ble_eq_true rfl) K_1546 (by decide +kernel)) (fun r_35 hr_1551 K_1552 => ?_)
      refine go_n (by rw [hr_1551] <;> decide +kernel) ?_
      rw [hs_1549]
      refine go_u2 (n := 8185) (a0 := 1) (qi_lit 1) (a1 := 8) (show _ = nI 8 by rw [hl_1548] <;> decide +kernel) (fun self6 hs_1555 x3_6 hl_1553 x4_6 hl_1554 => ?_)
      unfold L_L_types_6
      refine go_n (by rw [hl_1554] <;> decide +kernel) ?_
      refine go_ltl (y := 45) (by rw [hl_1554] <;> decide +kernel) (fun y18_1 hy_1556 => ?_)
      refine go_n (by rw [hl_1553] <;> decide +kernel) ?_
      refine go_n (by rw [hy_1556] <;> decide +kernel) ?_
      refine go_bd (c := 5) (S := Sq_130) (k_type (show _ = nI 45 by rw [hy_1556] <;> decide +kernel) (Nat.le_of_ble_eq_true rfl) K_1552 (by decide +kernel)) (fun r_35 hr_1557 K_1558 => ?_)
      refine go_n (by rw [hr_1557] <;> decide +kernel) ?_
      rw [hs_1555]
      refine go_u2 (n := 8184) (a0 := 1) (qi_lit 1) (a1 := 0) (show _ = nI 0 by rw [hl_1554] <;> decide +kernel) (fun self6 hs_1561 x3_6 hl_1559 x4_6 hl_1560 => ?_)
      unfold L_L_types_6
      refine go_n (by rw [hl_1560] <;> decide +kernel) ?_
      refine go_ltl (y := 48) (by rw [hl_1560] <;> decide +kernel) (fun y18_1 hy_1562 => ?_)
      refine go_n (by rw [hl_1559] <;> decide +kernel) ?_
      refine go_n (by rw [hy_1562] <;> decide +kernel) ?_
      refine go_bd (c := 6) (S := Sq_131) (k_type (show _ = nI 48 by rw [hy_1562] <;> decide +kernel) (Nat.le_of_ble_eq_true rfl) K_1558 (by decide +kernel)) (fun r_35 hr_1563 K_1564 => ?_)
      refine go_n (by rw [hr_1563] <;> decide +kernel) ?_
      rw [hs_1561]
      refine go_u2 (n := 8183) (a0 := 1) (qi_lit 1) (a1 := 4294967288) (show _ = nI 4294967288 by rw [hl_1560] <;> decide +kernel) (fun self6 hs_1567 x3_6 hl_1565 x4_6 hl_1566 => ?_)
      unfold L_L_types_6
      refine go_p (by rw [hl_1566] <;> decide +kernel) ?_
      refine go_z (c := 1) (by rw [hl_1565] <;> decide +kernel) (by decide) ?_
      exact go_s hl_1565 K_1564
    refine go_n (by rw [hr_1519] <;> decide +kernel) ?_
    refine go_bd (c := 1) (S := Sq_131) ?_ (fun r_17 hr_1568 K_1569 => ?_)
    · unfold f_L_types
      refine go_u2 (n := 8191) (a0 := 1) (qi_lit 1) (a1 := 56) (qi_lit 56) (fun self6 hs_1572 x3_6 hl_1570 x4_6 hl_1571 => ?_)
      unfold L_L_types_6
      refine go_n (by rw [hl_1571] <;> decide +kernel) ?_
      refine go_ltl (y := 0) (by rw [hl_1571] <;> decide +kernel) (fun y18_1 hy_1573 => ?_)
      refine go_n (by rw [hl_1570] <;> decide +kernel) ?_
      refine go_p (by rw [hy_1573] <;> decide +kernel) ?_
      rw [hs_1572]
      refine go_u2 (n := 8190) (a0 := 1) (qi_lit 1) (a1 := 48) (show _ = nI 48 by rw [hl_1571] <;> decide +kernel) (fun self6 hs_1576 x3_6 hl_1574 x4_6 hl_1575 => ?_)
      unfold L_L_types_6
      refine go_n (by rw [hl_1575] <;> decide +kernel) ?_
      refine go_ltl (y := 0) (by rw [hl_1575] <;> decide +kernel) (fun y18_1 hy_1577 => ?_)
      refine go_n (by rw [hl_1574] <;> decide +kernel) ?_
      refine go_p (by rw [hy_1577] <;> decide +kernel) ?_
      rw [hs_1576]
      refine go_u2 (n := 8189) (a0 := 1) (qi_lit 1) (a1 := 40) (show _ = nI 40 by rw [hl_1575] <;> decide +kernel) (fun self6 hs_1580 x3_6 hl_1578 x4_6 hl_1579 => ?_)
      unfold L_L_types_6
      refine go_n (by rw [hl_1579] <;> decide +kernel) ?_
      refine go_ltl (y := 0) (by rw [hl_1579] <;> decide +kernel) (fun y18_1 hy_1581 => ?_)
      refine go_n (by rw [hl_1578] <;> decide +kernel) ?_
      refine go_p (by rw [hy_1581] <;> decide +kernel) ?_
      rw [hs_1580]
      refine go_u2 (n := 8188) (a0 := 1) (qi_lit 1) (a1 := 32) (show _ = nI 32 by rw [hl_1579] <;> decide +kernel) (fun self6 hs_1584 x3_6 hl_1582 x4_6 hl_1583 => ?_)
      unfold L_L_types_6
      refine go_n (by rw [hl_1583] <;> decide +kernel) ?_
      refine go_ltl (y := 0) (by rw [hl_1583] <;> decide +kernel) (fun y18_1 hy_1585 => ?_)
      refine go_n (by rw [hl_1582] <;> decide +kernel) ?_
      refine go_p (by rw [hy_1585] <;> decide +kernel) ?_
      rw [hs_1584]
      refine go_u2 (n := 8187) (a0 := 1) (qi_lit 1) (a1 := 24) (show _ = nI 24 by rw [hl_1583] <;> decide +kernel) (fun self6 hs_1588 x3_6 hl_1586 x4_6 hl_1587 => ?_)
      unfold L_L_types_6
      refine go_n (by rw [hl_1587] <;> decide +kernel) ?_
      refine go_ltl (y := 0) (by rw [hl_1587] <;> decide +kernel) (fun y18_1 hy_1589 => ?_)
      refine go_n (by rw [hl_1586] <;> decide +kernel) ?_
      refine go_p (by rw [hy_1589] <;> decide +kernel) ?_
      rw [hs_1588]
      refine go_u2 (n := 8186) (a0 := 1) (qi_lit 1) (a1 := 16) (show _ = nI 16 by rw [hl_1587] <;> decide +kernel) (fun self6 hs_1592 x3_6 hl_1590 x4_6 hl_1591 => ?_)
      unfold L_L_types_6
      refine go_n (by rw [hl_1591] <;> decide +kernel) ?_
      refine go_ltl (y := 0) (by rw [hl_1591] <;> decide +kernel) (fun y18_1 hy_1593 => ?_)
      refine go_n (by rw [hl_1590] <;> decide +kernel) ?_
      refine go_p (by rw [hy_1593] <;> decide +kernel) ?_
      rw [hs_1592]
      refine go_u2 (n := 8185) (a0 := 1) (qi_lit 1) (a1 := 8) (show _ = nI 8 by rw [hl_1591] <;> decide +kernel) (fun self6 hs_1596 x3_6 hl_1594 x4_6 hl_1595 => ?_)
      unfold L_L_types_6
      refine go_n (by rw [hl_1595] <;> decide +kernel) ?_
      refine go_ltl (y := 0) (by rw [hl_1595] <;> decide +kernel) (fun y18_1 hy_1597 => ?_)
      refine go_n (by rw [hl_1594] <;> decide +kernel) ?_
      refine go_p (by rw [hy_1597] <;> decide +kernel) ?_
      rw [hs_1596]
      refine go_u2 (n := 8184) (a0 := 1) (qi_lit 1) (a1 := 0) (show _ = nI 0 by rw [hl_1595] <;> decide +kernel) (fun self6 hs_1600 x3_6 hl_1598 x4_6 hl_1599 => ?_)
      unfold L_L_types_6
      refine go_n (by rw [hl_1599] <;> decide +kernel) ?_
      refine go_ltl (y := 0) (by rw [hl_1599] <;> decide +kernel) (fun y18_1 hy_1601 => ?_)
      refine go_n (by rw [hl_1598] <;> decide +kernel) ?_
      refine go_p (by rw [hy_1601] <;> decide +kernel) ?_
      rw [hs_1600]
      refine go_u2 (n := 8183) (a0 := 1) (qi_lit 1) (a1 := 4294967288) (show _ = nI 4294967288 by rw [hl_1599] <;> decide +kernel) (fun self6 hs_1604 x3_6 hl_1602 x4_6 hl_1603 => ?_)
      unfold L_L_types_6
      refine go_p (by rw [hl_1603] <;> decide +kernel) ?_
      refine go_z (c := 1) (by rw [hl_1602] <;> decide +kernel) (by decide) ?_
      exact go_s hl_1602 K_1520
    refine go_n (by rw [hr_1568] <;> decide +kernel) ?_
    refine go_bd (c := 5) (S := Sq_132) (k_letterError  K_1569 (by decide +kernel)) (fun r_24 hr_1605 K_1606 => ?_)
    refine go_p (by rw [hr_1605] <;> decide +kernel) ?_
    refine go_z1 ?_
    exact go_s (qi_lit 1) K_1606
  refine go_n (by rw [hr_1515] <;> decide +kernel) ?_
  refine go_bd (c := 1) (S := Sq_142) ?_ (fun r_238 hr_1607 K_1608 => ?_)
  · unfold f_L_isError
    refine go_bd (c := 6) (S := Sq_133) (k_clearLetter  K_1516 (by decide +kernel)) (fun r_1 hr_1609 K_1610 => ?_)
    refine go_n (by rw [hr_1609] <;> decide +kernel) ?_
    refine go_bd (c := 1) (S := Sq_141) ?_ (fun r_9 hr_1611 K_1612 => ?_)
    · unfold f_L_types
      refine go_u2 (n := 8191) (a0 := 1) (qi_lit 1) (a1 := 56) (qi_lit 56) (fun self6 hs_1615 x3_6 hl_1613 x4_6 hl_1614 => ?_)
      unfold L_L_types_6
      refine go_n (by rw [hl_1614] <;> decide +kernel) ?_
      refine go_ltl (y := 111) (by rw [hl_1614] <;> decide +kernel) (fun y18_1 hy_1616 => ?_)
      refine go_n (by rw [hl_1613] <;> decide +kernel) ?_
      refine go_n (by rw [hy_1616] <;> decide +kernel) ?_
      refine go_bd (c := 1) (S := Sq_134) (k_type (show _ = nI 111 by rw [hy_1616] <;> decide +kernel) (Nat.le_of_ble_eq_true rfl) K_1610 (by decide +kernel)) (fun r_35 hr_1617 K_1618 => ?_)
      refine go_n (by rw [hr_1617] <;> decide +kernel) ?_
      rw [hs_1615]
      refine go_u2 (n := 8190) (a0 := 1) (qi_lit 1) (a1 := 48) (show _ = nI 48 by rw [hl_1614] <;> decide +kernel) (fun self6 hs_1621 x3_6 hl_1619 x4_6 hl_1620 => ?_)
      unfold L_L_types_6
      refine go_n (by rw [hl_1620] <;> decide +kernel) ?_
      refine go_ltl (y := 50) (by rw [hl_1620] <;> decide +kernel) (fun y18_1 hy_1622 => ?_)
      refine go_n (by rw [hl_1619] <;> decide +kernel) ?_
      refine go_n (by rw [hy_1622] <;> decide +kernel) ?_
      refine go_bd (c := 2) (S := Sq_135) (k_type (show _ = nI 50 by rw [hy_1622] <;> decide +kernel) (Nat.le_of_ble_eq_true rfl) K_1618 (by decide +kernel)) (fun r_35 hr_1623 K_1624 => ?_)
      refine go_n (by rw [hr_1623] <;> decide +kernel) ?_
      rw [hs_1621]
      refine go_u2 (n := 8189) (a0 := 1) (qi_lit 1) (a1 := 40) (show _ = nI 40 by rw [hl_1620] <;> decide +kernel) (fun self6 hs_1627 x3_6 hl_1625 x4_6 hl_1626 => ?_)
      unfold L_L_types_6
      refine go_n (by rw [hl_1626] <;> decide +kernel) ?_
      refine go_ltl (y := 57) (by rw [hl_1626] <;> decide +kernel) (fun y18_1 hy_1628 => ?_)
      refine go_n (by rw [hl_1625] <;> decide +kernel) ?_
      refine go_n (by rw [hy_1628] <;> decide +kernel) ?_
      refine go_bd (c := 3) (S := Sq_136) (k_type (show _ = nI 57 by rw [hy_1628] <;> decide +kernel) (Nat.le_of_ble_eq_true rfl) K_1624 (by decide +kernel)) (fun r_35 hr_1629 K_1630 => ?_)
      refine go_n (by rw [hr_1629] <;> decide +kernel) ?_
      rw [hs_1627]
      refine go_u2 (n := 8188) (a0 := 1) (qi_lit 1) (a1 := 32) (show _ = nI 32 by rw [hl_1626] <;> decide +kernel) (fun self6 hs_1633 x3_6 hl_1631 x4_6 hl_1632 => ?_)
      unfold L_L_types_6
      refine go_n (by rw [hl_1632] <;> decide +kernel) ?_
      refine go_ltl (y := 62) (by rw [hl_1632] <;> decide +kernel) (fun y18_1 hy_1634 => ?_)
      refine go_n (by rw [hl_1631] <;> decide +kernel) ?_
      refine go_n (by rw [hy_1634] <;> decide +kernel) ?_
      refine go_bd (c := 4) (S := Sq_137) (k_type (show _ = nI 62 by rw [hy_1634] <;> decide +kernel) (Nat.le_of_ble_eq_true rfl) K_1630 (by decide +kernel)) (fun r_35 hr_1635 K_1636 => ?_)
      refine go_n (by rw [hr_1635] <;> decide +kernel) ?_
      rw [hs_1633]
      refine go_u2 (n := 8187) (a0 := 1) (qi_lit 1) (a1 := 24) (show _ = nI 24 by rw [hl_1632] <;> decide +kernel) (fun self6 hs_1639 x3_6 hl_1637 x4_6 hl_1638 => ?_)
      unfold L_L_types_6
      refine go_n (by rw [hl_1638] <;> decide +kernel) ?_
      refine go_ltl (y := 52) (by rw [hl_1638] <;> decide +kernel) (fun y18_1 hy_1640 => ?_)
      refine go_n (by rw [hl_1637] <;> decide +kernel) ?_
      refine go_n (by rw [hy_1640] <;> decide +kernel) ?_
      refine go_bd (c := 5) (S := Sq_138) (k_type (show _ = nI 52 by rw [hy_1640] <;> decide +kernel) (Nat.le_of_ble_eq_true rfl) K_1636 (by decide +kernel)) (fun r_35 hr_1641 K_1642 => ?_)
      refine go_n (by rw [hr_1641] <;> decide +kernel) ?_
      rw [hs_1639]
      refine go_u2 (n := 8186) (a0 := 1) (qi_lit 1) (a1 := 16) (show _ = nI 16 by rw [hl_1638] <;> decide +kernel) (fun self6 hs_1645 x3_6 hl_1643 x4_6 hl_1644 => ?_)
      unfold L_L_types_6
      refine go_n (by rw [hl_1644] <;> decide +kernel) ?_
      refine go_ltl (y := 43) (by rw [hl_1644] <;> decide +kernel) (fun y18_1 hy_1646 => ?_)
      refine go_n (by rw [hl_1643] <;> decide +kernel) ?_
      refine go_n (by rw [hy_1646] <;> decide +kernel) ?_
      refine go_bd (c := 6) (S := Sq_139) (k_type (show _ = nI 43 by rw [hy_1646] <;> decide +kernel) (Nat.le_of_ble_eq_true rfl) K_1642 (by decide +kernel)) (fun r_35 hr_1647 K_1648 => ?_)
      refine go_n (by rw [hr_1647] <;> decide +kernel) ?_
      rw [hs_1645]
      refine go_u2 (n := 8185) (a0 := 1) (qi_lit 1) (a1 := 8) (show _ = nI 8 by rw [hl_1644] <;> decide +kernel) (fun self6 hs_1651 x3_6 hl_1649 x4_6 hl_1650 => ?_)
      unfold L_L_types_6
      refine go_n (by rw [hl_1650] <;> decide +kernel) ?_
      refine go_ltl (y := 57) (by rw [hl_1650] <;> decide +kernel) (fun y18_1 hy_1652 => ?_)
      refine go_n (by rw [hl_1649] <;> decide +kernel) ?_
      refine go_n (by rw [hy_1652] <;> decide +kernel) ?_
      refine go_bd (c := 7) (S := Sq_140) (k_type (show _ = nI 57 by rw [hy_1652] <;> decide +kernel) (Nat.le_of_ble_eq_true rfl) K_1648 (by decide +kernel)) (fun r_35 hr_1653 K_1654 => ?_)
      refine go_n (by rw [hr_1653] <;> decide +kernel) ?_
      rw [hs_1651]
      refine go_u2 (n := 8184) (a0 := 1) (qi_lit 1) (a1 := 0) (show _ = nI 0 by rw [hl_1650] <;> decide +kernel) (fun self6 hs_1657 x3_6 hl_1655 x4_6 hl_1656 => ?_)
      unfold L_L_types_6
      refine go_n (by rw [hl_1656] <;> decide +kernel) ?_
      refine go_ltl (y := 48) (by rw [hl_1656] <;> decide +kernel) (fun y18_1 hy_1658 => ?_)
      refine go_n (by rw [hl_1655] <;> decide +kernel) ?_
      refine go_n (by rw [hy_1658] <;> decide +kernel) ?_
      refine go_bd (c := 8) (S := Sq_141) (k_type (show _ = nI 48 by rw [hy_1658] <;> decide +kernel) (Nat.le_of_ble_eq_true rfl) K_1654 (by decide +kernel)) (fun r_35 hr_1659 K_1660 => ?_)
      refine go_n (by rw [hr_1659] <;> decide +kernel) ?_
      rw [hs_1657]
      refine go_u2 (n := 8183) (a0 := 1) (qi_lit 1) (a1 := 4294967288) (show _ = nI 4294967288 by rw [hl_1656] <;> decide +kernel) (fun self6 hs_1663 x3_6 hl_1661 x4_6 hl_1662 => ?_)
      unfold L_L_types_6
      refine go_p (by rw [hl_1662] <;> decide +kernel) ?_
      refine go_z (c := 1) (by rw [hl_1661] <;> decide +kernel) (by decide) ?_
      exact go_s hl_1661 K_1660
    refine go_n (by rw [hr_1611] <;> decide +kernel) ?_
    refine go_bd (c := 1) (S := Sq_141) ?_ (fun r_17 hr_1664 K_1665 => ?_)
    · unfold f_L_types
      refine go_u2 (n := 8191) (a0 := 1) (qi_lit 1) (a1 := 56) (qi_lit 56) (fun self6 hs_1668 x3_6 hl_1666 x4_6 hl_1667 => ?_)
      unfold L_L_types_6
      refine go_n (by rw [hl_1667] <;> decide +kernel) ?_
      refine go_ltl (y := 0) (by rw [hl_1667] <;> decide +kernel) (fun y18_1 hy_1669 => ?_)
      refine go_n (by rw [hl_1666] <;> decide +kernel) ?_
      refine go_p (by rw [hy_1669] <;> decide +kernel) ?_
      rw [hs_1668]
      refine go_u2 (n := 8190) (a0 := 1) (qi_lit 1) (a1 := 48) (show _ = nI 48 by rw [hl_1667] <;> decide +kernel) (fun self6 hs_1672 x3_6 hl_1670 x4_6 hl_1671 => ?_)
      unfold L_L_types_6
      refine go_n (by rw [hl_1671] <;> decide +kernel) ?_
      refine go_ltl (y := 0) (by rw [hl_1671] <;> decide +kernel) (fun y18_1 hy_1673 => ?_)
      refine go_n (by rw [hl_1670] <;> decide +kernel) ?_
      refine go_p (by rw [hy_1673] <;> decide +kernel) ?_
      rw [hs_1672]
      refine go_u2 (n := 8189) (a0 := 1) (qi_lit 1) (a1 := 40) (show _ = nI 40 by rw [hl_1671] <;> decide +kernel) (fun self6 hs_1676 x3_6 hl_1674 x4_6 hl_1675 => ?_)
      unfold L_L_types_6
      refine go_n (by rw [hl_1675] <;> decide +kernel) ?_
      refine go_ltl (y := 0) (by rw [hl_1675] <;> decide +kernel) (fun y18_1 hy_1677 => ?_)
      refine go_n (by rw [hl_1674] <;> decide +kernel) ?_
      refine go_p (by rw [hy_1677] <;> decide +kernel) ?_
      rw [hs_1676]
      refine go_u2 (n := 8188) (a0 := 1) (qi_lit 1) (a1 := 32) (show _ = nI 32 by rw [hl_1675] <;> decide +kernel) (fun self6 hs_1680 x3_6 hl_1678 x4_6 hl_1679 => ?_)
      unfold L_L_types_6
      refine go_n (by rw [hl_1679] <;> decide +kernel) ?_
      refine go_ltl (y := 0) (by rw [hl_1679] <;> decide +kernel) (fun y18_1 hy_1681 => ?_)
      refine go_n (by rw [hl_1678] <;> decide +kernel) ?_
      refine go_p (by rw [hy_1681] <;> decide +kernel) ?_
      rw [hs_1680]
      refine go_u2 (n := 8187) (a0 := 1) (qi_lit 1) (a1 := 24) (show _ = nI 24 by rw [hl_1679] <;> decide +kernel) (fun self6 hs_1684 x3_6 hl_1682 x4_6 hl_1683 => ?_)
      unfold L_L_types_6
      refine go_n (by rw [hl_1683] <;> decide +kernel) ?_
      refine go_ltl (y := 0) (by rw [hl_1683] <;> decide +kernel) (fun y18_1 hy_1685 => ?_)
      refine go_n (by rw [hl_1682] <;> decide +kernel) ?_
      refine go_p (by rw [hy_1685] <;> decide +kernel) ?_
      rw [hs_1684]
      refine go_u2 (n := 8186) (a0 := 1) (qi_lit 1) (a1 := 16) (show _ = nI 16 by rw [hl_1683] <;> decide +kernel) (fun self6 hs_1688 x3_6 hl_1686 x4_6 hl_1687 => ?_)
      unfold L_L_types_6
      refine go_n (by rw [hl_1687] <;> decide +kernel) ?_
      refine go_ltl (y := 0) (by rw [hl_1687] <;> decide +kernel) (fun y18_1 hy_1689 => ?_)
      refine go_n (by rw [hl_1686] <;> decide +kernel) ?_
      refine go_p (by rw [hy_1689] <;> decide +kernel) ?_
      rw [hs_1688]
      refine go_u2 (n := 8185) (a0 := 1) (qi_lit 1) (a1 := 8) (show _ = nI 8 by rw [hl_1687] <;> decide +kernel) (fun self6 hs_1692 x3_6 hl_1690 x4_6 hl_1691 => ?_)
      unfold L_L_types_6
      refine go_n (by rw [hl_1691] <;> decide +kernel) ?_
      refine go_ltl (y := 0) (by rw [hl_1691] <;> decide +kernel) (fun y18_1 hy_1693 => ?_)
      refine go_n (by rw [hl_1690] <;> decide +kernel) ?_
      refine go_p (by rw [hy_1693] <;> decide +kernel) ?_
      rw [hs_1692]
      refine go_u2 (n := 8184) (a0 := 1) (qi_lit 1) (a1 := 0) (show _ = nI 0 by rw [hl_1691] <;> decide +kernel) (fun self6 hs_1696 x3_6 hl_1694 x4_6 hl_1695 => ?_)
      unfold L_L_types_6
      refine go_n (by rw [hl_1695] <;> decide +kernel) ?_
      refine go_ltl (y := 0) (by rw [hl_1695] <;> decide +kernel) (fun y18_1 hy_1697 => ?_)
      refine go_n (by rw [hl_1694] <;> decide +kernel) ?_
      refine go_p (by rw [hy_1697] <;> decide +kernel) ?_
      rw [hs_1696]
      refine go_u2 (n := 8183) (a0 := 1) (qi_lit 1) (a1 := 4294967288) (show _ = nI 4294967288 by rw [hl_1695] <;> decide +kernel) (fun self6 hs_1700 x3_6 hl_1698 x4_6 hl_1699 => ?_)
      unfold L_L_types_6
      refine go_p (by rw [hl_1699] <;> decide +kernel) ?_
      refine go_z (c := 1) (by rw [hl_1698] <;> decide +kernel) (by decide) ?_
      exact go_s hl_1698 K_1612
    refine go_n (by rw [hr_1664] <;> decide +kernel) ?_
    refine go_bd (c := 4294967295) (S := Sq_142) (k_letterError  K_1665 (by decide +kernel)) (fun r_24 hr_1701 K_1702 => ?_)
    refine go_p (by rw [hr_1701] <;> decide +kernel) ?_
    refine go_z1 ?_
    exact go_s (qi_lit 1) K_1702
  refine go_n (by rw [hr_1607] <;> decide +kernel) ?_
  refine go_bd (c := 1) (S := Sq_151) ?_ (fun r_251 hr_1703 K_1704 => ?_)
  · unfold f_L_isError
    refine go_bd (c := 8) (S := Sq_143) (k_clearLetter  K_1608 (by decide +kernel)) (fun r_1 hr_1705 K_1706 => ?_)
    refine go_n (by rw [hr_1705] <;> decide +kernel) ?_
    refine go_bd (c := 1) (S := Sq_150) ?_ (fun r_9 hr_1707 K_1708 => ?_)
    · unfold f_L_types
      refine go_u2 (n := 8191) (a0 := 1) (qi_lit 1) (a1 := 56) (qi_lit 56) (fun self6 hs_1711 x3_6 hl_1709 x4_6 hl_1710 => ?_)
      unfold L_L_types_6
      refine go_n (by rw [hl_1710] <;> decide +kernel) ?_
      refine go_ltl (y := 0) (by rw [hl_1710] <;> decide +kernel) (fun y18_1 hy_1712 => ?_)
      refine go_n (by rw [hl_1709] <;> decide +kernel) ?_
      refine go_p (by rw [hy_1712] <;> decide +kernel) ?_
      rw [hs_1711]
      refine go_u2 (n := 8190) (a0 := 1) (qi_lit 1) (a1 := 48) (show _ = nI 48 by rw [hl_1710] <;> decide +kernel) (fun self6 hs_1715 x3_6 hl_1713 x4_6 hl_1714 => ?_)
      unfold L_L_types_6
      refine go_n (by rw [hl_1714] <;> decide +kernel) ?_
      refine go_ltl (y := 111) (by rw [hl_1714] <;> decide +kernel) (fun y18_1 hy_1716 => ?_)
      refine go_n (by rw [hl_1713] <;> decide +kernel) ?_
      refine go_n (by rw [hy_1716] <;> decide +kernel) ?_
      refine go_bd (c := 1) (S := Sq_144) (k_type (show _ = nI 111 by rw [hy_1716] <;> decide +kernel) (Nat.le_of_ble_eq_true rfl) K_1706 (by decide +kernel)) (fun r_35 hr_1717 K_1718 => ?_)
      refine go_n (by rw [hr_1717] <;> decide +kernel) ?_
      rw [hs_1715]
      refine go_u2 (n := 8189) (a0 := 1) (qi_lit 1) (a1 := 40) (show _ = nI 40 by rw [hl_1714] <;> decide +kernel) (fun self6 hs_1721 x3_6 hl_1719 x4_6 hl_1720 => ?_)
      unfold L_L_types_6
      refine go_n (by rw [hl_1720] <;> decide +kernel) ?_
      refine go_ltl (y := 48) (by rw [hl_1720] <;> decide +kernel) (fun y18_1 hy_1722 => ?_)
      refine go_n (by rw [hl_1719] <;> decide +kernel) ?_
      refine go_n (by rw [hy_1722] <;> decide +kernel) ?_
      refine go_bd (c := 2) (S := Sq_145) (k_type (show _ = nI 48 by rw [hy_1722] <;> decide +kernel) (Nat.le_of_ble_eq_true rfl) K_1718 (by decide +kernel)) (fun r_35 hr_1723 K_1724 => ?_)
      refine go_n (by rw [hr_1723] <;> decide +kernel) ?_
      rw [hs_1721]
      refine go_u2 (n := 8188) (a0 := 1) (qi_lit 1) (a1 := 32) (show _ = nI 32 by rw [hl_1720] <;> decide +kernel) (fun self6 hs_1727 x3_6 hl_1725 x4_6 hl_1726 => ?_)
      unfold L_L_types_6
      refine go_n (by rw [hl_1726] <;> decide +kernel) ?_
      refine go_ltl (y := 62) (by rw [hl_1726] <;> decide +kernel) (fun y18_1 hy_1728 => ?_)
      refine go_n (by rw [hl_1725] <;> decide +kernel) ?_
      refine go_n (by rw [hy_1728] <;> decide +kernel) ?_
      refine go_bd (c := 3) (S := Sq_146) (k_type (show _ = nI 62 by rw [hy_1728] <;> decide +kernel) (Nat.le_of_ble_eq_true rfl) K_1724 (by decide +kernel)) (fun r_35 hr_1729 K_1730 => ?_)
      refine go_n (by rw [hr_1729] <;> decide +kernel) ?_
      rw [hs_1727]
      refine go_u2 (n := 8187) (a0 := 1) (qi_lit 1) (a1 := 24) (show _ = nI 24 by rw [hl_1726] <;> decide +kernel) (fun self6 hs_1733 x3_6 hl_1731 x4_6 hl_1732 => ?_)
      unfold L_L_types_6
      refine go_n (by rw [hl_1732] <;> decide +kernel) ?_
      refine go_ltl (y := 48) (by rw [hl_1732] <;> decide +kernel) (fun y18_1 hy_1734 => ?_)
      refine go_n (by rw [hl_1731] <;> decide +kernel) ?_
      refine go_n (by rw [hy_1734] <;> decide +kernel) ?_
      refine go_bd (c := 4) (S := Sq_147) (k_type (show _ = nI 48 by rw [hy_1734] <;> decide +kernel) (Nat.le_of_ble_eq_true rfl) K_1730 (by decide +kernel)) (fun r_35 hr_1735 K_1736 => ?_)
      refine go_n (by rw [hr_1735] <;> decide +kernel) ?_
      rw [hs_1733]
      refine go_u2 (n := 8186) (a0 := 1) (qi_lit 1) (a1 := 16) (show _ = nI 16 by rw [hl_1732] <;> decide +kernel) (fun self6 hs_1739 x3_6 hl_1737 x4_6 hl_1738 => ?_)
      unfold L_L_types_6
      refine go_n (by rw [hl_1738] <;> decide +kernel) ?_
      refine go_ltl (y := 43) (by rw [hl_1738] <;> decide +kernel) (fun y18_1 hy_1740 => ?_)
      refine go_n (by rw [hl_1737] <;> decide +kernel) ?_
      refine go_n (by rw [hy_1740] <;> decide +kernel) ?_
      refine go_bd (c := 5) (S := Sq_148) (k_type (show _ = nI 43 by rw [hy_1740] <;> decide +kernel) (Nat.le_of_ble_eq_true rfl) K_1736 (by decide +kernel)) (fun r_35 hr_1741 K_1742 => ?_)
      refine go_n (by rw [hr_1741] <;> decide +kernel) ?_
      rw [hs_1739]
      refine go_u2 (n := 8185) (a0 := 1) (qi_lit 1) (a1 := 8) (show _ = nI 8 by rw [hl_1738] <;> decide +kernel) (fun self6 hs_1745 x3_6 hl_1743 x4_6 hl_1744 => ?_)
      unfold L_L_types_6
      refine go_n (by rw [hl_1744] <;> decide +kernel) ?_
      refine go_ltl (y := 57) (by rw [hl_1744] <;> decide +kernel) (fun y18_1 hy_1746 => ?_)
      refine go_n (by rw [hl_1743] <;> decide +kernel) ?_
      refine go_n (by rw [hy_1746] <;> decide +kernel) ?_
      refine go_bd (c := 6) (S := Sq_149) (k_type (show _ = nI 57 by rw [hy_1746] <;> decide +kernel) (Nat.le_of_ble_eq_true rfl) K_1742 (by decide +kernel)) (fun r_35 hr_1747 K_1748 => ?_)
      refine go_n (by rw [hr_1747] <;> decide +kernel) ?_
      rw [hs_1745]
      refine go_u2 (n := 8184) (a0 := 1) (qi_lit 1) (a1 := 0) (show _ = nI 0 by rw [hl_1744] <;> decide +kernel) (fun self6 hs_1751 x3_6 hl_1749 x4_6 hl_1750 => ?_)
      unfold L_L_types_6
      refine go_n (by rw [hl_1750] <;> decide +kernel) ?_
      refine go_ltl (y := 49) (by rw [hl_1750] <;> decide +kernel) (fun y18_1 hy_1752 => ?_)
      refine go_n (by rw [hl_1749] <;> decide +kernel) ?_
      refine go_n (by rw [hy_1752] <;> decide +kernel) ?_
      refine go_bd (c := 7) (S := Sq_150) (k_type (show _ = nI 49 by rw [hy_1752] <;> decide +kernel) (Nat.le_of_ble_eq_true rfl) K_1748 (by decide +kernel)) (fun r_35 hr_1753 K_1754 => ?_)
      refine go_n (by rw [hr_1753] <;> decide +kernel) ?_
      rw [hs_1751]
      refine go_u2 (n := 8183) (a0 := 1) (qi_lit 1) (a1 := 4294967288) (show _ = nI 4294967288 by rw [hl_1750] <;> decide +kernel) (fun self6 hs_1757 x3_6 hl_1755 x4_6 hl_1756 => ?_)
      unfold L_L_types_6
      refine go_p (by rw [hl_1756] <;> decide +kernel) ?_
      refine go_z (c := 1) (by rw [hl_1755] <;> decide +kernel) (by decide) ?_
      exact go_s hl_1755 K_1754
    refine go_n (by rw [hr_1707] <;> decide +kernel) ?_
    refine go_bd (c := 1) (S := Sq_150) ?_ (fun r_17 hr_1758 K_1759 => ?_)
    · unfold f_L_types
      refine go_u2 (n := 8191) (a0 := 1) (qi_lit 1) (a1 := 56) (qi_lit 56) (fun self6 hs_1762 x3_6 hl_1760 x4_6 hl_1761 => ?_)
      unfold L_L_types_6
      refine go_n (by rw [hl_1761] <;> decide +kernel) ?_
      refine go_ltl (y := 0) (by rw [hl_1761] <;> decide +kernel) (fun y18_1 hy_1763 => ?_)
      refine go_n (by rw [hl_1760] <;> decide +kernel) ?_
      refine go_p (by rw [hy_1763] <;> decide +kernel) ?_
      rw [hs_1762]
      refine go_u2 (n := 8190) (a0 := 1) (qi_lit 1) (a1 := 48) (show _ = nI 48 by rw [hl_1761] <;> decide +kernel) (fun self6 hs_1766 x3_6 hl_1764 x4_6 hl_1765 => ?_)
      unfold L_L_types_6
      refine go_n (by rw [hl_1765] <;> decide +kernel) ?_
      refine go_ltl (y := 0) (by rw [hl_1765] <;> decide +kernel) (fun y18_1 hy_1767 => ?_)
      refine go_n (by rw [hl_1764] <;> decide +kernel) ?_
      refine go_p (by rw [hy_1767] <;> decide +kernel) ?_
      rw [hs_1766]
      refine go_u2 (n := 8189) (a0 := 1) (qi_lit 1) (a1 := 40) (show _ = nI 40 by rw [hl_1765] <;> decide +kernel) (fun self6 hs_1770 x3_6 hl_1768 x4_6 hl_1769 => ?_)
      unfold L_L_types_6
      refine go_n (by rw [hl_1769] <;> decide +kernel) ?_
      refine go_ltl (y := 0) (by rw [hl_1769] <;> decide +kernel) (fun y18_1 hy_1771 => ?_)
      refine go_n (by rw [hl_1768] <;> decide +kernel) ?_
      refine go_p (by rw [hy_1771] <;> decide +kernel) ?_
      rw [hs_1770]
      refine go_u2 (n := 8188) (a0 := 1) (qi_lit 1) (a1 := 32) (show _ = nI 32 by rw [hl_1769] <;> decide +kernel) (fun self6 hs_1774 x3_6 hl_1772 x4_6 hl_1773 => ?_)
      unfold L_L_types_6
      refine go_n (by rw [hl_1773] <;> decide +kernel) ?_
      refine go_ltl (y := 0) (by rw [hl_1773] <;> decide +kernel) (fun y18_1 hy_1775 => ?_)
      refine go_n (by rw [hl_1772] <;> decide +kernel) ?_
      refine go_p (by rw [hy_1775] <;> decide +kernel) ?_
      rw [hs_1774]
      refine go_u2 (n := 8187) (a0 := 1) (qi_lit 1) (a1 := 24) (show _ = nI 24 by rw [hl_1773] <;> decide +kernel) (fun self6 hs_1778 x3_6 hl_1776 x4_6 hl_1777 => ?_)
      unfold L_L_types_6
      refine go_n (by rw [hl_1777] <;> decide +kernel) ?_
      refine go_ltl (y := 0) (by rw [hl_1777] <;> decide +kernel) (fun y18_1 hy_1779 => ?_)
      refine go_n (by rw [hl_1776] <;> decide +kernel) ?_
      refine go_p (by rw [hy_1779] <;> decide +kernel) ?_
      rw [hs_1778]
      refine go_u2 (n := 8186) (a0 := 1) (qi_lit 1) (a1 := 16) (show _ = nI 16 by rw [hl_1777] <;> decide +kernel) (fun self6 hs_1782 x3_6 hl_1780 x4_6 hl_1781 => ?_)
      unfold L_L_types_6
      refine go_n (by rw [hl_1781] <;> decide +kernel) ?_
      refine go_ltl (y := 0) (by rw [hl_1781] <;> decide +kernel) (fun y18_1 hy_1783 => ?_)
      refine go_n (by rw [hl_1780] <;> decide +kernel) ?_
      refine go_p (by rw [hy_1783] <;> decide +kernel) ?_
      rw [hs_1782]
      refine go_u2 (n := 8185) (a0 := 1) (qi_lit 1) (a1 := 8) (show _ = nI 8 by rw [hl_1781] <;> decide +kernel) (fun self6 hs_1786 x3_6 hl_1784 x4_6 hl_1785 => ?_)
      unfold L_L_types_6
      refine go_n (by rw [hl_1785] <;> decide +kernel) ?_
      refine go_ltl (y := 0) (by rw [hl_1785] <;> decide +kernel) (fun y18_1 hy_1787 => ?_)
      refine go_n (by rw [hl_1784] <;> decide +kernel) ?_
      refine go_p (by rw [hy_1787] <;> decide +kernel) ?_
      rw [hs_1786]
      refine go_u2 (n := 8184) (a0 := 1) (qi_lit 1) (a1 := 0) (show _ = nI 0 by rw [hl_1785] <;> decide +kernel) (fun self6 hs_1790 x3_6 hl_1788 x4_6 hl_1789 => ?_)
      unfold L_L_types_6
      refine go_n (by rw [hl_1789] <;> decide +kernel) ?_
      refine go_ltl (y := 0) (by rw [hl_1789] <;> decide +kernel) (fun y18_1 hy_1791 => ?_)
      refine go_n (by rw [hl_1788] <;> decide +kernel) ?_
      refine go_p (by rw [hy_1791] <;> decide +kernel) ?_
      rw [hs_1790]
      refine go_u2 (n := 8183) (a0 := 1) (qi_lit 1) (a1 := 4294967288) (show _ = nI 4294967288 by rw [hl_1789] <;> decide +kernel) (fun self6 hs_1794 x3_6 hl_1792 x4_6 hl_1793 => ?_)
      unfold L_L_types_6
      refine go_p (by rw [hl_1793] <;> decide +kernel) ?_
      refine go_z (c := 1) (by rw [hl_1792] <;> decide +kernel) (by decide) ?_
      exact go_s hl_1792 K_1708
    refine go_n (by rw [hr_1758] <;> decide +kernel) ?_
    refine go_bd (c := 6) (S := Sq_151) (k_letterError  K_1759 (by decide +kernel)) (fun r_24 hr_1795 K_1796 => ?_)
    refine go_p (by rw [hr_1795] <;> decide +kernel) ?_
    refine go_z1 ?_
    exact go_s (qi_lit 1) K_1796
  refine go_n (by rw [hr_1703] <;> decide +kernel) ?_
  refine go_bd (c := 1) (S := Sq_157) ?_ (fun r_263 hr_1797 K_1798 => ?_)
  · unfold f_L_isError
    refine go_bd (c := 7) (S := Sq_152) (k_clearLetter  K_1704 (by decide +kernel)) (fun r_1 hr_1799 K_1800 => ?_)
    refine go_n (by rw [hr_1799] <;> decide +kernel) ?_
    refine go_bd (c := 1) (S := Sq_156) ?_ (fun r_9 hr_1801 K_1802 => ?_)
    · unfold f_L_types
      refine go_u2 (n := 8191) (a0 := 1) (qi_lit 1) (a1 := 56) (qi_lit 56) (fun self6 hs_1805 x3_6 hl_1803 x4_6 hl_1804 => ?_)
      unfold L_L_types_6
      refine go_n (by rw [hl_1804] <;> decide +kernel) ?_
      refine go_ltl (y := 0) (by rw [hl_1804] <;> decide +kernel) (fun y18_1 hy_1806 => ?_)
      refine go_n (by rw [hl_1803] <;> decide +kernel) ?_
      refine go_p (by rw [hy_1806] <;> decide +kernel) ?_
      rw [hs_1805]
      refine go_u2 (n := 8190) (a0 := 1) (qi_lit 1) (a1 := 48) (show _ = nI 48 by rw [hl_1804] <;> decide +kernel) (fun self6 hs_1809 x3_6 hl_1807 x4_6 hl_1808 => ?_)
      unfold L_L_types_6
      refine go_n (by rw [hl_1808] <;> decide +kernel) ?_
      refine go_ltl (y := 0) (by rw [hl_1808] <;> decide +kernel) (fun y18_1 hy_1810 => ?_)
      refine go_n (by rw [hl_1807] <;> decide +kernel) ?_
      refine go_p (by rw [hy_1810] <;> decide +kernel) ?_
      rw [hs_1809]
      refine go_u2 (n := 8189) (a0 := 1) (qi_lit 1) (a1 := 40) (show _ = nI 40 by rw [hl_1808] <;> decide +kernel) (fun self6 hs_1813 x3_6 hl_1811 x4_6 hl_1812 => ?_)
      unfold L_L_types_6
      refine go_n (by rw [hl_1812] <;> decide +kernel) ?_
      refine go_ltl (y := 0) (by rw [hl_1812] <;> decide +kernel) (fun y18_1 hy_1814 => ?_)
      refine go_n (by rw [hl_1811] <;> decide +kernel) ?_
      refine go_p (by rw [hy_1814] <;> decide +kernel) ?_
      rw [hs_1813]
      refine go_u2 (n := 8188) (a0 := 1) (qi_lit 1) (a1 := 32) (show _ = nI 32 by rw [hl_1812] <;> decide +kernel) (fun self6 hs_1817 x3_6 hl_1815 x4_6 hl_1816 => ?_)
      unfold L_L_types_6
      refine go_n (by rw [hl_1816] <;> decide +kernel) ?_
      refine go_ltl (y := 0) (by rw [hl_1816] <;> decide +kernel) (fun y18_1 hy_1818 => ?_)
      refine go_n (by rw [hl_1815] <;> decide +kernel) ?_
      refine go_p (by rw [hy_1818] <;> decide +kernel) ?_
      rw [hs_1817]
      refine go_u2 (n := 8187) (a0 := 1) (qi_lit 1) (a1 := 24) (show _ = nI 24 by rw [hl_1816] <;> decide +kernel) (fun self6 hs_1821 x3_6 hl_1819 x4_6 hl_1820 => ?_)
      unfold L_L_types_6
      refine go_n (by rw [hl_1820] <;> decide +kernel) ?_
      refine go_ltl (y := 120) (by rw [hl_1820] <;> decide +kernel) (fun y18_1 hy_1822 => ?_)
      refine go_n (by rw [hl_1819] <;> decide +kernel) ?_
      refine go_n (by rw [hy_1822] <;> decide +kernel) ?_
      refine go_bd (c := 1) (S := Sq_153) (k_type (show _ = nI 120 by rw [hy_1822] <;> decide +kernel) (Nat.le_of_ble_eq_true rfl) K_1800 (by decide +kernel)) (fun r_35 hr_1823 K_1824 => ?_)
      refine go_n (by rw [hr_1823] <;> decide +kernel) ?_
      rw [hs_1821]
      refine go_u2 (n := 8186) (a0 := 1) (qi_lit 1) (a1 := 16) (show _ = nI 16 by rw [hl_1820] <;> decide +kernel) (fun self6 hs_1827 x3_6 hl_1825 x4_6 hl_1826 => ?_)
      unfold L_L_types_6
      refine go_n (by rw [hl_1826] <;> decide +kernel) ?_
      refine go_ltl (y := 48) (by rw [hl_1826] <;> decide +kernel) (fun y18_1 hy_1828 => ?_)
      refine go_n (by rw [hl_1825] <;> decide +kernel) ?_
      refine go_n (by rw [hy_1828] <;> decide +kernel) ?_
      refine go_bd (c := 2) (S := Sq_154) (k_type (show _ = nI 48 by rw [hy_1828] <;> decide +kernel) (Nat.le_of_ble_eq_true rfl) K_1824 (by decide +kernel)) (fun r_35 hr_1829 K_1830 => ?_)
      refine go_n (by rw [hr_1829] <;> decide +kernel) ?_
      rw [hs_1827]
      refine go_u2 (n := 8185) (a0 := 1) (qi_lit 1) (a1 := 8) (show _ = nI 8 by rw [hl_1826] <;> decide +kernel) (fun self6 hs_1833 x3_6 hl_1831 x4_6 hl_1832 => ?_)
      unfold L_L_types_6
      refine go_n (by rw [hl_1832] <;> decide +kernel) ?_
      refine go_ltl (y := 59) (by rw [hl_1832] <;> decide +kernel) (fun y18_1 hy_1834 => ?_)
      refine go_n (by rw [hl_1831] <;> decide +kernel) ?_
      refine go_n (by rw [hy_1834] <;> decide +kernel) ?_
      refine go_bd (c := 3) (S := Sq_155) (k_type (show _ = nI 59 by rw [hy_1834] <;> decide +kernel) (Nat.le_of_ble_eq_true rfl) K_1830 (by decide +kernel)) (fun r_35 hr_1835 K_1836 => ?_)
      refine go_n (by rw [hr_1835] <;> decide +kernel) ?_
      rw [hs_1833]
      refine go_u2 (n := 8184) (a0 := 1) (qi_lit 1) (a1 := 0) (show _ = nI 0 by rw [hl_1832] <;> decide +kernel) (fun self6 hs_1839 x3_6 hl_1837 x4_6 hl_1838 => ?_)
      unfold L_L_types_6
      refine go_n (by rw [hl_1838] <;> decide +kernel) ?_
      refine go_ltl (y := 59) (by rw [hl_1838] <;> decide +kernel) (fun y18_1 hy_1840 => ?_)
      refine go_n (by rw [hl_1837] <;> decide +kernel) ?_
      refine go_n (by rw [hy_1840] <;> decide +kernel) ?_
      refine go_bd (c := 4) (S := Sq_156) (k_type (show _ = nI 59 by rw [hy_1840] <;> decide +kernel) (Nat.le_of_ble_eq_true rfl) K_1836 (by decide +kernel)) (fun r_35 hr_1841 K_1842 => ?_)
      refine go_n (by rw [hr_1841] <;> decide +kernel) ?_
      rw [hs_1839]
      refine go_u2 (n := 8183) (a0 := 1) (qi_lit 1) (a1 := 4294967288) (show _ = nI 4294967288 by rw [hl_1838] <;> decide +kernel) (fun self6 hs_1845 x3_6 hl_1843 x4_6 hl_1844 => ?_)
      unfold L_L_types_6
      refine go_p (by rw [hl_1844] <;> decide +kernel) ?_
      refine go_z (c := 1) (by rw [hl_1843] <;> decide +kernel) (by decide) ?_
      exact go_s hl_1843 K_1842
    refine go_n (by rw [hr_1801] <;> decide +kernel) ?_
    refine go_bd (c := 1) (S := Sq_156) ?_ (fun r_17 hr_1846 K_1847 => ?_)
    · unfold f_L_types
      refine go_u2 (n := 8191) (a0 := 1) (qi_lit 1) (a1 := 56) (qi_lit 56) (fun self6 hs_1850 x3_6 hl_1848 x4_6 hl_1849 => ?_)
      unfold L_L_types_6
      refine go_n (by rw [hl_1849] <;> decide +kernel) ?_
      refine go_ltl (y := 0) (by rw [hl_1849] <;> decide +kernel) (fun y18_1 hy_1851 => ?_)
      refine go_n (by rw [hl_1848] <;> decide +kernel) ?_
      refine go_p (by rw [hy_1851] <;> decide +kernel) ?_
      rw [hs_1850]
      refine go_u2 (n := 8190) (a0 := 1) (qi_lit 1) (a1 := 48) (show _ = nI 48 by rw [hl_1849] <;> decide +kernel) (fun self6 hs_1854 x3_6 hl_1852 x4_6 hl_1853 => ?_)
      unfold L_L_types_6
      refine go_n (by rw [hl_1853] <;> decide +kernel) ?_
      refine go_ltl (y := 0) (by rw [hl_1853] <;> decide +kernel) (fun y18_1 hy_1855 => ?_)
      refine go_n (by rw [hl_1852] <;> decide +kernel) ?_
      refine go_p (by rw [hy_1855] <;> decide +kernel) ?_
      rw [hs_1854]
      refine go_u2 (n := 8189) (a0 := 1) (qi_lit 1) (a1 := 40) (show _ = nI 40 by rw [hl_1853] <;> decide +kernel) (fun self6 hs_1858 x3_6 hl_1856 x4_6 hl_1857 => ?_)
      unfold L_L_types_6
      refine go_n (by rw [hl_1857] <;> decide +kernel) ?_
      refine go_ltl (y := 0) (by rw [hl_1857] <;> decide +kernel) (fun y18_1 hy_1859 => ?_)
      refine go_n (by rw [hl_1856] <;> decide +kernel) ?_
      refine go_p (by rw [hy_1859] <;> decide +kernel) ?_
      rw [hs_1858]
      refine go_u2 (n := 8188) (a0 := 1) (qi_lit 1) (a1 := 32) (show _ = nI 32 by rw [hl_1857] <;> decide +kernel) (fun self6 hs_1862 x3_6 hl_1860 x4_6 hl_1861 => ?_)
      unfold L_L_types_6
      refine go_n (by rw [hl_1861] <;> decide +kernel) ?_
      refine go_ltl (y := 0) (by rw [hl_1861] <;> decide +kernel) (fun y18_1 hy_1863 => ?_)
      refine go_n (by rw [hl_1860] <;> decide +kernel) ?_
      refine go_p (by rw [hy_1863] <;> decide +kernel) ?_
      rw [hs_1862]
      refine go_u2 (n := 8187) (a0 := 1) (qi_lit 1) (a1 := 24) (show _ = nI 24 by rw [hl_1861] <;> decide +kernel) (fun self6 hs_1866 x3_6 hl_1864 x4_6 hl_1865 => ?_)
      unfold L_L_types_6
      refine go_n (by rw [hl_1865] <;> decide +kernel) ?_
      refine go_ltl (y := 0) (by rw [hl_1865] <;> decide +kernel) (fun y18_1 hy_1867 => ?_)
      refine go_n (by rw [hl_1864] <;> decide +kernel) ?_
      refine go_p (by rw [hy_1867] <;> decide +kernel) ?_
      rw [hs_1866]
      refine go_u2 (n := 8186) (a0 := 1) (qi_lit 1) (a1 := 16) (show _ = nI 16 by rw [hl_1865] <;> decide +kernel) (fun self6 hs_1870 x3_6 hl_1868 x4_6 hl_1869 => ?_)
      unfold L_L_types_6
      refine go_n (by rw [hl_1869] <;> decide +kernel) ?_
      refine go_ltl (y := 0) (by rw [hl_1869] <;> decide +kernel) (fun y18_1 hy_1871 => ?_)
      refine go_n (by rw [hl_1868] <;> decide +kernel) ?_
      refine go_p (by rw [hy_1871] <;> decide +kernel) ?_
      rw [hs_1870]
      refine go_u2 (n := 8185) (a0 := 1) (qi_lit 1) (a1 := 8) (show _ = nI 8 by rw [hl_1869] <;> decide +kernel) (fun self6 hs_1874 x3_6 hl_1872 x4_6 hl_1873 => ?_)
      unfold L_L_types_6
      refine go_n (by rw [hl_1873] <;> decide +kernel) ?_
      refine go_ltl (y := 0) (by rw [hl_1873] <;> decide +kernel) (fun y18_1 hy_1875 => ?_)
      refine go_n (by rw [hl_1872] <;> decide +kernel) ?_
      refine go_p (by rw [hy_1875] <;> decide +kernel) ?_
      rw [hs_1874]
      refine go_u2 (n := 8184) (a0 := 1) (qi_lit 1) (a1 := 0) (show _ = nI 0 by rw [hl_1873] <;> decide +kernel) (fun self6 hs_1878 x3_6 hl_1876 x4_6 hl_1877 => ?_)
      unfold L_L_types_6
      refine go_n (by rw [hl_1877] <;> decide +kernel) ?_
      refine go_ltl (y := 0) (by rw [hl_1877] <;> decide +kernel) (fun y18_1 hy_1879 => ?_)
      refine go_n (by rw [hl_1876] <;> decide +kernel) ?_
      refine go_p (by rw [hy_1879] <;> decide +kernel) ?_
      rw [hs_1878]
      refine go_u2 (n := 8183) (a0 := 1) (qi_lit 1) (a1 := 4294967288) (show _ = nI 4294967288 by rw [hl_1877] <;> decide +kernel) (fun self6 hs_1882 x3_6 hl_1880 x4_6 hl_1881 => ?_)
      unfold L_L_types_6
      refine go_p (by rw [hl_1881] <;> decide +kernel) ?_
      refine go_z (c := 1) (by rw [hl_1880] <;> decide +kernel) (by decide) ?_
      exact go_s hl_1880 K_1802
    refine go_n (by rw [hr_1846] <;> decide +kernel) ?_
    refine go_bd (c := 3) (S := Sq_157) (k_letterError  K_1847 (by decide +kernel)) (fun r_24 hr_1883 K_1884 => ?_)
    refine go_p (by rw [hr_1883] <;> decide +kernel) ?_
    refine go_z1 ?_
    exact go_s (qi_lit 1) K_1884
  refine go_n (by rw [hr_1797] <;> decide +kernel) ?_
  refine go_bd (c := 1) (S := Sq_166) ?_ (fun r_276 hr_1885 K_1886 => ?_)
  · unfold f_L_isError
    refine go_bd (c := 4) (S := Sq_158) (k_clearLetter  K_1798 (by decide +kernel)) (fun r_1 hr_1887 K_1888 => ?_)
    refine go_n (by rw [hr_1887] <;> decide +kernel) ?_
    refine go_bd (c := 1) (S := Sq_165) ?_ (fun r_9 hr_1889 K_1890 => ?_)
    · unfold f_L_types
      refine go_u2 (n := 8191) (a0 := 1) (qi_lit 1) (a1 := 56) (qi_lit 56) (fun self6 hs_1893 x3_6 hl_1891 x4_6 hl_1892 => ?_)
      unfold L_L_types_6
      refine go_n (by rw [hl_1892] <;> decide +kernel) ?_
      refine go_ltl (y := 0) (by rw [hl_1892] <;> decide +kernel) (fun y18_1 hy_1894 => ?_)
      refine go_n (by rw [hl_1891] <;> decide +kernel) ?_
      refine go_p (by rw [hy_1894] <;> decide +kernel) ?_
      rw [hs_1893]
      refine go_u2 (n := 8190) (a0 := 1) (qi_lit 1) (a1 := 48) (show _ = nI 48 by rw [hl_1892] <;> decide +kernel) (fun self6 hs_1897 x3_6 hl_1895 x4_6 hl_1896 => ?_)
      unfold L_L_types_6
      refine go_n (by rw [hl_1896] <;> decide +kernel) ?_
      refine go_ltl (y := 108) (by rw [hl_1896] <;> decide +kernel) (fun y18_1 hy_1898 => ?_)
      refine go_n (by rw [hl_1895] <;> decide +kernel) ?_
      refine go_n (by rw [hy_1898] <;> decide +kernel) ?_
      refine go_bd (c := 1) (S := Sq_159) (k_type (show _ = nI 108 by rw [hy_1898] <;> decide +kernel) (Nat.le_of_ble_eq_true rfl) K_1888 (by decide +kernel)) (fun r_35 hr_1899 K_1900 => ?_)
      refine go_n (by rw [hr_1899] <;> decide +kernel) ?_
      rw [hs_1897]
      refine go_u2 (n := 8189) (a0 := 1) (qi_lit 1) (a1 := 40) (show _ = nI 40 by rw [hl_1896] <;> decide +kernel) (fun self6 hs_1903 x3_6 hl_1901 x4_6 hl_1902 => ?_)
      unfold L_L_types_6
      refine go_n (by rw [hl_1902] <;> decide +kernel) ?_
      refine go_ltl (y := 49) (by rw [hl_1902] <;> decide +kernel) (fun y18_1 hy_1904 => ?_)
      refine go_n (by rw [hl_1901] <;> decide +kernel) ?_
      refine go_n (by rw [hy_1904] <;> decide +kernel) ?_
      refine go_bd (c := 2) (S := Sq_160) (k_type (show _ = nI 49 by rw [hy_1904] <;> decide +kernel) (Nat.le_of_ble_eq_true rfl) K_1900 (by decide +kernel)) (fun r_35 hr_1905 K_1906 => ?_)
      refine go_n (by rw [hr_1905] <;> decide +kernel) ?_
      rw [hs_1903]
      refine go_u2 (n := 8188) (a0 := 1) (qi_lit 1) (a1 := 32) (show _ = nI 32 by rw [hl_1902] <;> decide +kernel) (fun self6 hs_1909 x3_6 hl_1907 x4_6 hl_1908 => ?_)
      unfold L_L_types_6
      refine go_n (by rw [hl_1908] <;> decide +kernel) ?_
      refine go_ltl (y := 57) (by rw [hl_1908] <;> decide +kernel) (fun y18_1 hy_1910 => ?_)
      refine go_n (by rw [hl_1907] <;> decide +kernel) ?_
      refine go_n (by rw [hy_1910] <;> decide +kernel) ?_
      refine go_bd (c := 3) (S := Sq_161) (k_type (show _ = nI 57 by rw [hy_1910] <;> decide +kernel) (Nat.le_of_ble_eq_true rfl) K_1906 (by decide +kernel)) (fun r_35 hr_1911 K_1912 => ?_)
      refine go_n (by rw [hr_1911] <;> decide +kernel) ?_
      rw [hs_1909]
      refine go_u2 (n := 8187) (a0 := 1) (qi_lit 1) (a1 := 24) (show _ = nI 24 by rw [hl_1908] <;> decide +kernel) (fun self6 hs_1915 x3_6 hl_1913 x4_6 hl_1914 => ?_)
      unfold L_L_types_6
      refine go_n (by rw [hl_1914] <;> decide +kernel) ?_
      refine go_ltl (y := 46) (by rw [hl_1914] <;> decide +kernel) (fun y18_1 hy_1916 => ?_)
      refine go_n (by rw [hl_1913] <;> decide +kernel) ?_
      refine go_n (by rw [hy_1916] <;> decide +kernel) ?_
      refine go_bd (c := 4) (S := Sq_162) (k_type (show _ = nI 46 by rw [hy_1916] <;> decide +kernel) (Nat.le_of_ble_eq_true rfl) K_1912 (by decide +kernel)) (fun r_35 hr_1917 K_1918 => ?_)
      refine go_n (by rw [hr_1917] <;> decide +kernel) ?_
      rw [hs_1915]
      refine go_u2 (n := 8186) (a0 := 1) (qi_lit 1) (a1 := 16) (show _ = nI 16 by rw [hl_1914] <;> decide +kernel) (fun self6 hs_1921 x3_6 hl_1919 x4_6 hl_1920 => ?_)
      unfold L_L_types_6
      refine go_n (by rw [hl_1920] <;> decide +kernel) ?_
      refine go_ltl (y := 48) (by rw [hl_1920] <;> decide +kernel) (fun y18_1 hy_1922 => ?_)
      refine go_n (by rw [hl_1919] <;> decide +kernel) ?_
      refine go_n (by rw [hy_1922] <;> decide +kernel) ?_
      refine go_bd (c := 5) (S := Sq_163) (k_type (show _ = nI 48 by rw [hy_1922] <;> decide +kernel) (Nat.le_of_ble_eq_true rfl) K_1918 (by decide +kernel)) (fun r_35 hr_1923 K_1924 => ?_)
      refine go_n (by rw [hr_1923] <;> decide +kernel) ?_
      rw [hs_1921]
      refine go_u2 (n := 8185) (a0 := 1) (qi_lit 1) (a1 := 8) (show _ = nI 8 by rw [hl_1920] <;> decide +kernel) (fun self6 hs_1927 x3_6 hl_1925 x4_6 hl_1926 => ?_)
      unfold L_L_types_6
      refine go_n (by rw [hl_1926] <;> decide +kernel) ?_
      refine go_ltl (y := 61) (by rw [hl_1926] <;> decide +kernel) (fun y18_1 hy_1928 => ?_)
      refine go_n (by rw [hl_1925] <;> decide +kernel) ?_
      refine go_n (by rw [hy_1928] <;> decide +kernel) ?_
      refine go_bd (c := 6) (S := Sq_164) (k_type (show _ = nI 61 by rw [hy_1928] <;> decide +kernel) (Nat.le_of_ble_eq_true rfl) K_1924 (by decide +kernel)) (fun r_35 hr_1929 K_1930 => ?_)
      refine go_n (by rw [hr_1929] <;> decide +kernel) ?_
      rw [hs_1927]
      refine go_u2 (n := 8184) (a0 := 1) (qi_lit 1) (a1 := 0) (show _ = nI 0 by rw [hl_1926] <;> decide +kernel) (fun self6 hs_1933 x3_6 hl_1931 x4_6 hl_1932 => ?_)
      unfold L_L_types_6
      refine go_n (by rw [hl_1932] <;> decide +kernel) ?_
      refine go_ltl (y := 55) (by rw [hl_1932] <;> decide +kernel) (fun y18_1 hy_1934 => ?_)
      refine go_n (by rw [hl_1931] <;> decide +kernel) ?_
      refine go_n (by rw [hy_1934] <;> decide +kernel) ?_
      refine go_bd (c := 7) (S := Sq_165) (k_type (show _ = nI 55 by rw [hy_1934] <;> decide +kernel) (Nat.le_of_ble_eq_true rfl) K_1930 (by decide +kernel)) (fun r_35 hr_1935 K_1936 => ?_)
      refine go_n (by rw [hr_1935] <;> decide +kernel) ?_
      rw [hs_1933]
      refine go_u2 (n := 8183) (a0 := 1) (qi_lit 1) (a1 := 4294967288) (show _ = nI 4294967288 by rw [hl_1932] <;> decide +kernel) (fun self6 hs_1939 x3_6 hl_1937 x4_6 hl_1938 => ?_)
      unfold L_L_types_6
      refine go_p (by rw [hl_1938] <;> decide +kernel) ?_
      refine go_z (c := 1) (by rw [hl_1937] <;> decide +kernel) (by decide) ?_
      exact go_s hl_1937 K_1936
    refine go_n (by rw [hr_1889] <;> decide +kernel) ?_
    refine go_bd (c := 1) (S := Sq_165) ?_ (fun r_17 hr_1940 K_1941 => ?_)
    · unfold f_L_types
      refine go_u2 (n := 8191) (a0 := 1) (qi_lit 1) (a1 := 56) (qi_lit 56) (fun self6 hs_1944 x3_6 hl_1942 x4_6 hl_1943 => ?_)
      unfold L_L_types_6
      refine go_n (by rw [hl_1943] <;> decide +kernel) ?_
      refine go_ltl (y := 0) (by rw [hl_1943] <;> decide +kernel) (fun y18_1 hy_1945 => ?_)
      refine go_n (by rw [hl_1942] <;> decide +kernel) ?_
      refine go_p (by rw [hy_1945] <;> decide +kernel) ?_
      rw [hs_1944]
      refine go_u2 (n := 8190) (a0 := 1) (qi_lit 1) (a1 := 48) (show _ = nI 48 by rw [hl_1943] <;> decide +kernel) (fun self6 hs_1948 x3_6 hl_1946 x4_6 hl_1947 => ?_)
      unfold L_L_types_6
      refine go_n (by rw [hl_1947] <;> decide +kernel) ?_
      refine go_ltl (y := 0) (by rw [hl_1947] <;> decide +kernel) (fun y18_1 hy_1949 => ?_)
      refine go_n (by rw [hl_1946] <;> decide +kernel) ?_
      refine go_p (by rw [hy_1949] <;> decide +kernel) ?_
      rw [hs_1948]
      refine go_u2 (n := 8189) (a0 := 1) (qi_lit 1) (a1 := 40) (show _ = nI 40 by rw [hl_1947] <;> decide +kernel) (fun self6 hs_1952 x3_6 hl_1950 x4_6 hl_1951 => ?_)
      unfold L_L_types_6
      refine go_n (by rw [hl_1951] <;> decide +kernel) ?_
      refine go_ltl (y := 0) (by rw [hl_1951] <;> decide +kernel) (fun y18_1 hy_1953 => ?_)
      refine go_n (by rw [hl_1950] <;> decide +kernel) ?_
      refine go_p (by rw [hy_1953] <;> decide +kernel) ?_
      rw [hs_1952]
      refine go_u2 (n := 8188) (a0 := 1) (qi_lit 1) (a1 := 32) (show _ = nI 32 by rw [hl_1951] <;> decide +kernel) (fun self6 hs_1956 x3_6 hl_1954 x4_6 hl_1955 => ?_)
      unfold L_L_types_6
      refine go_n (by rw [hl_1955] <;> decide +kernel) ?_
      refine go_ltl (y := 0) (by rw [hl_1955] <;> decide +kernel) (fun y18_1 hy_1957 => ?_)
      refine go_n (by rw [hl_1954] <;> decide +kernel) ?_
      refine go_p (by rw [hy_1957] <;> decide +kernel) ?_
      rw [hs_1956]
      refine go_u2 (n := 8187) (a0 := 1) (qi_lit 1) (a1 := 24) (show _ = nI 24 by rw [hl_1955] <;> decide +kernel) (fun self6 hs_1960 x3_6 hl_1958 x4_6 hl_1959 => ?_)
      unfold L_L_types_6
      refine go_n (by rw [hl_1959] <;> decide +kernel) ?_
      refine go_ltl (y := 0) (by rw [hl_1959] <;> decide +kernel) (fun y18_1 hy_1961 => ?_)
      refine go_n (by rw [hl_1958] <;> decide +kernel) ?_
      refine go_p (by rw [hy_1961] <;> decide +kernel) ?_
      rw [hs_1960]
      refine go_u2 (n := 8186) (a0 := 1) (qi_lit 1) (a1 := 16) (show _ = nI 16 by rw [hl_1959] <;> decide +kernel) (fun self6 hs_1964 x3_6 hl_1962 x4_6 hl_1963 => ?_)
      unfold L_L_types_6
      refine go_n (by rw [hl_1963] <;> decide +kernel) ?_
      refine go_ltl (y := 0) (by rw [hl_1963] <;> decide +kernel) (fun y18_1 hy_1965 => ?_)
      refine go_n (by rw [hl_1962] <;> decide +kernel) ?_
      refine go_p (by rw [hy_1965] <;> decide +kernel) ?_
      rw [hs_1964]
      refine go_u2 (n := 8185) (a0 := 1) (qi_lit 1) (a1 := 8) (show _ = nI 8 by rw [hl_1963] <;> decide +kernel) (fun self6 hs_1968 x3_6 hl_1966 x4_6 hl_1967 => ?_)
      unfold L_L_types_6
      refine go_n (by rw [hl_1967] <;> decide +kernel) ?_
      refine go_ltl (y := 0) (by rw [hl_1967] <;> decide +kernel) (fun y18_1 hy_1969 => ?_)
      refine go_n (by rw [hl_1966] <;> decide +kernel) ?_
      refine go_p (by rw [hy_1969] <;> decide +kernel) ?_
      rw [hs_1968]
      refine go_u2 (n := 8184) (a0 := 1) (qi_lit 1) (a1 := 0) (show _ = nI 0 by rw [hl_1967] <;> decide +kernel) (fun self6 hs_1972 x3_6 hl_1970 x4_6 hl_1971 => ?_)
      unfold L_L_types_6
      refine go_n (by rw [hl_1971] <;> decide +kernel) ?_
      refine go_ltl (y := 0) (by rw [hl_1971] <;> decide +kernel) (fun y18_1 hy_1973 => ?_)
      refine go_n (by rw [hl_1970] <;> decide +kernel) ?_
      refine go_p (by rw [hy_1973] <;> decide +kernel) ?_
      rw [hs_1972]
      refine go_u2 (n := 8183) (a0 := 1) (qi_lit 1) (a1 := 4294967288) (show _ = nI 4294967288 by rw [hl_1971] <;> decide +kernel) (fun self6 hs_1976 x3_6 hl_1974 x4_6 hl_1975 => ?_)
      unfold L_L_types_6
      refine go_p (by rw [hl_1975] <;> decide +kernel) ?_
      refine go_z (c := 1) (by rw [hl_1974] <;> decide +kernel) (by decide) ?_
      exact go_s hl_1974 K_1890
    refine go_n (by rw [hr_1940] <;> decide +kernel) ?_
    refine go_bd (c := 6) (S := Sq_166) (k_letterError  K_1941 (by decide +kernel)) (fun r_24 hr_1977 K_1978 => ?_)
    refine go_p (by rw [hr_1977] <;> decide +kernel) ?_
    refine go_z1 ?_
    exact go_s (qi_lit 1) K_1978
  refine go_n (by rw [hr_1885] <;> decide +kernel) ?_
  refine go_bd (c := 7) (S := Sq_167) (k_clearLetter  K_1886 (by decide +kernel)) (fun r_285 hr_1979 K_1980 => ?_)
  refine go_p (by rw [hr_1979] <;> decide +kernel) ?_
  refine go_bd (c := 1) (S := Sq_175) ?_ (fun r_297 hr_1981 K_1982 => ?_)
  · unfold f_L_types
    refine go_u2 (n := 8191) (a0 := 1) (qi_lit 1) (a1 := 56) (qi_lit 56) (fun self6 hs_1985 x3_6 hl_1983 x4_6 hl_1984 => ?_)
    unfold L_L_types_6
    refine go_n (by rw [hl_1984] <;> decide +kernel) ?_
    refine go_ltl (y := 106) (by rw [hl_1984] <;> decide +kernel) (fun y18_1 hy_1986 => ?_)
    refine go_n (by rw [hl_1983] <;> decide +kernel) ?_
    refine go_n (by rw [hy_1986] <;> decide +kernel) ?_
    refine go_bd (c := 1) (S := Sq_168) (k_type (show _ = nI 106 by rw [hy_1986] <;> decide +kernel) (Nat.le_of_ble_eq_true rfl) K_1980 (by decide +kernel)) (fun r_35 hr_1987 K_1988 => ?_)
    refine go_n (by rw [hr_1987] <;> decide +kernel) ?_
    rw [hs_1985]
    refine go_u2 (n := 8190) (a0 := 1) (qi_lit 1) (a1 := 48) (show _ = nI 48 by rw [hl_1984] <;> decide +kernel) (fun self6 hs_1991 x3_6 hl_1989 x4_6 hl_1990 => ?_)
    unfold L_L_types_6
    refine go_n (by rw [hl_1990] <;> decide +kernel) ?_
    refine go_ltl (y := 49) (by rw [hl_1990] <;> decide +kernel) (fun y18_1 hy_1992 => ?_)
    refine go_n (by rw [hl_1989] <;> decide +kernel) ?_
    refine go_n (by rw [hy_1992] <;> decide +kernel) ?_
    refine go_bd (c := 2) (S := Sq_169) (k_type (show _ = nI 49 by rw [hy_1992] <;> decide +kernel) (Nat.le_of_ble_eq_true rfl) K_1988 (by decide +kernel)) (fun r_35 hr_1993 K_1994 => ?_)
    refine go_n (by rw [hr_1993] <;> decide +kernel) ?_
    rw [hs_1991]
    refine go_u2 (n := 8189) (a0 := 1) (qi_lit 1) (a1 := 40) (show _ = nI 40 by rw [hl_1990] <;> decide +kernel) (fun self6 hs_1997 x3_6 hl_1995 x4_6 hl_1996 => ?_)
    unfold L_L_types_6
    refine go_n (by rw [hl_1996] <;> decide +kernel) ?_
    refine go_ltl (y := 48) (by rw [hl_1996] <;> decide +kernel) (fun y18_1 hy_1998 => ?_)
    refine go_n (by rw [hl_1995] <;> decide +kernel) ?_
    refine go_n (by rw [hy_1998] <;> decide +kernel) ?_
    refine go_bd (c := 3) (S := Sq_170) (k_type (show _ = nI 48 by rw [hy_1998] <;> decide +kernel) (Nat.le_of_ble_eq_true rfl) K_1994 (by decide +kernel)) (fun r_35 hr_1999 K_2000 => ?_)
    refine go_n (by rw [hr_1999] <;> decide +kernel) ?_
    rw [hs_1997]
    refine go_u2 (n := 8188) (a0 := 1) (qi_lit 1) (a1 := 32) (show _ = nI 32 by rw [hl_1996] <;> decide +kernel) (fun self6 hs_2003 x3_6 hl_2001 x4_6 hl_2002 => ?_)
    unfold L_L_types_6
    refine go_n (by rw [hl_2002] <;> decide +kernel) ?_
    refine go_ltl (y := 104) (by rw [hl_2002] <;> decide +kernel) (fun y18_1 hy_2004 => ?_)
    refine go_n (by rw [hl_2001] <;> decide +kernel) ?_
    refine go_n (by rw [hy_2004] <;> decide +kernel) ?_
    refine go_bd (c := 4) (S := Sq_171) (k_type (show _ = nI 104 by rw [hy_2004] <;> decide +kernel) (Nat.le_of_ble_eq_true rfl) K_2000 (by decide +kernel)) (fun r_35 hr_2005 K_2006 => ?_)
    refine go_n (by rw [hr_2005] <;> decide +kernel) ?_
    rw [hs_2003]
    refine go_u2 (n := 8187) (a0 := 1) (qi_lit 1) (a1 := 24) (show _ = nI 24 by rw [hl_2002] <;> decide +kernel) (fun self6 hs_2009 x3_6 hl_2007 x4_6 hl_2008 => ?_)
    unfold L_L_types_6
    refine go_n (by rw [hl_2008] <;> decide +kernel) ?_
    refine go_ltl (y := 49) (by rw [hl_2008] <;> decide +kernel) (fun y18_1 hy_2010 => ?_)
    refine go_n (by rw [hl_2007] <;> decide +kernel) ?_
    refine go_n (by rw [hy_2010] <;> decide +kernel) ?_
    refine go_bd (c := 5) (S := Sq_172) (k_type (show _ = nI 49 by rw [hy_2010] <;> decide +kernel) (Nat.le_of_ble_eq_true rfl) K_2006 (by decide +kernel)) (fun r_35 hr_2011 K_2012 => ?_)
    refine go_n (by rw [hr_2011] <;> decide +kernel) ?_
    rw [hs_2009]
    refine go_u2 (n := 8186) (a0 := 1) (qi_lit 1) (a1 := 16) (show _ = nI 16 by rw [hl_2008] <;> decide +kernel) (fun self6 hs_2015 x3_6 hl_2013 x4_6 hl_2014 => ?_)
    unfold L_L_types_6
    refine go_n (by rw [hl_2014] <;> decide +kernel) ?_
    refine go_ltl (y := 53) (by rw [hl_2014] <;> decide +kernel) (fun y18_1 hy_2016 => ?_)
    refine go_n (by rw [hl_2013] <;> decide +kernel) ?_
    refine go_n (by rw [hy_2016] <;> decide +kernel) ?_
    refine go_bd (c := 6) (S := Sq_173) (k_type (show _ = nI 53 by rw [hy_2016] <;> decide +kernel) (Nat.le_of_ble_eq_true rfl) K_2012 (by decide +kernel)) (fun r_35 hr_2017 K_2018 => ?_)
    refine go_n (by rw [hr_2017] <;> decide +kernel) ?_
    rw [hs_2015]
    refine go_u2 (n := 8185) (a0 := 1) (qi_lit 1) (a1 := 8) (show _ = nI 8 by rw [hl_2014] <;> decide +kernel) (fun self6 hs_2021 x3_6 hl_2019 x4_6 hl_2020 => ?_)
    unfold L_L_types_6
    refine go_n (by rw [hl_2020] <;> decide +kernel) ?_
    refine go_ltl (y := 48) (by rw [hl_2020] <;> decide +kernel) (fun y18_1 hy_2022 => ?_)
    refine go_n (by rw [hl_2019] <;> decide +kernel) ?_
    refine go_n (by rw [hy_2022] <;> decide +kernel) ?_
    refine go_bd (c := 7) (S := Sq_174) (k_type (show _ = nI 48 by rw [hy_2022] <;> decide +kernel) (Nat.le_of_ble_eq_true rfl) K_2018 (by decide +kernel)) (fun r_35 hr_2023 K_2024 => ?_)
    refine go_n (by rw [hr_2023] <;> decide +kernel) ?_
    rw [hs_2021]
    refine go_u2 (n := 8184) (a0 := 1) (qi_lit 1) (a1 := 0) (show _ = nI 0 by rw [hl_2020] <;> decide +kernel) (fun self6 hs_2027 x3_6 hl_2025 x4_6 hl_2026 => ?_)
    unfold L_L_types_6
    refine go_n (by rw [hl_2026] <;> decide +kernel) ?_
    refine go_ltl (y := 114) (by rw [hl_2026] <;> decide +kernel) (fun y18_1 hy_2028 => ?_)
    refine go_n (by rw [hl_2025] <;> decide +kernel) ?_
    refine go_n (by rw [hy_2028] <;> decide +kernel) ?_
    refine go_bd (c := 8) (S := Sq_175) (k_type (show _ = nI 114 by rw [hy_2028] <;> decide +kernel) (Nat.le_of_ble_eq_true rfl) K_2024 (by decide +kernel)) (fun r_35 hr_2029 K_2030 => ?_)
    refine go_n (by rw [hr_2029] <;> decide +kernel) ?_
    rw [hs_2027]
    refine go_u2 (n := 8183) (a0 := 1) (qi_lit 1) (a1 := 4294967288) (show _ = nI 4294967288 by rw [hl_2026] <;> decide +kernel) (fun self6 hs_2033 x3_6 hl_2031 x4_6 hl_2032 => ?_)
    unfold L_L_types_6
    refine go_p (by rw [hl_2032] <;> decide +kernel) ?_
    refine go_z (c := 1) (by rw [hl_2031] <;> decide +kernel) (by decide) ?_
    exact go_s hl_2031 K_2030
  refine go_n (by rw [hr_1981] <;> decide +kernel) ?_
  refine go_bd (c := 1) (S := Sq_183) ?_ (fun r_307 hr_2034 K_2035 => ?_)
  · unfold f_L_types
    refine go_u2 (n := 8191) (a0 := 1) (qi_lit 1) (a1 := 56) (qi_lit 56) (fun self6 hs_2038 x3_6 hl_2036 x4_6 hl_2037 => ?_)
    unfold L_L_types_6
    refine go_n (by rw [hl_2037] <;> decide +kernel) ?_
    refine go_ltl (y := 49) (by rw [hl_2037] <;> decide +kernel) (fun y18_1 hy_2039 => ?_)
    refine go_n (by rw [hl_2036] <;> decide +kernel) ?_
    refine go_n (by rw [hy_2039] <;> decide +kernel) ?_
    refine go_bd (c := 9) (S := Sq_176) (k_type (show _ = nI 49 by rw [hy_2039] <;> decide +kernel) (Nat.le_of_ble_eq_true rfl) K_1982 (by decide +kernel)) (fun r_35 hr_2040 K_2041 => ?_)
    refine go_n (by rw [hr_2040] <;> decide +kernel) ?_
    rw [hs_2038]
    refine go_u2 (n := 8190) (a0 := 1) (qi_lit 1) (a1 := 48) (show _ = nI 48 by rw [hl_2037] <;> decide +kernel) (fun self6 hs_2044 x3_6 hl_2042 x4_6 hl_2043 => ?_)
    unfold L_L_types_6
    refine go_n (by rw [hl_2043] <;> decide +kernel) ?_
    refine go_ltl (y := 48) (by rw [hl_2043] <;> decide +kernel) (fun y18_1 hy_2045 => ?_)
    refine go_n (by rw [hl_2042] <;> decide +kernel) ?_
    refine go_n (by rw [hy_2045] <;> decide +kernel) ?_
    refine go_bd (c := 10) (S := Sq_177) (k_type (show _ = nI 48 by rw [hy_2045] <;> decide +kernel) (Nat.le_of_ble_eq_true rfl) K_2041 (by decide +kernel)) (fun r_35 hr_2046 K_2047 => ?_)
    refine go_n (by rw [hr_2046] <;> decide +kernel) ?_
    rw [hs_2044]
    refine go_u2 (n := 8189) (a0 := 1) (qi_lit 1) (a1 := 40) (show _ = nI 40 by rw [hl_2043] <;> decide +kernel) (fun self6 hs_2050 x3_6 hl_2048 x4_6 hl_2049 => ?_)
    unfold L_L_types_6
    refine go_n (by rw [hl_2049] <;> decide +kernel) ?_
    refine go_ltl (y := 45) (by rw [hl_2049] <;> decide +kernel) (fun y18_1 hy_2051 => ?_)
    refine go_n (by rw [hl_2048] <;> decide +kernel) ?_
    refine go_n (by rw [hy_2051] <;> decide +kernel) ?_
    refine go_bd (c := 11) (S := Sq_178) (k_type (show _ = nI 45 by rw [hy_2051] <;> decide +kernel) (Nat.le_of_ble_eq_true rfl) K_2047 (by decide +kernel)) (fun r_35 hr_2052 K_2053 => ?_)
    refine go_n (by rw [hr_2052] <;> decide +kernel) ?_
    rw [hs_2050]
    refine go_u2 (n := 8188) (a0 := 1) (qi_lit 1) (a1 := 32) (show _ = nI 32 by rw [hl_2049] <;> decide +kernel) (fun self6 hs_2056 x3_6 hl_2054 x4_6 hl_2055 => ?_)
    unfold L_L_types_6
    refine go_n (by rw [hl_2055] <;> decide +kernel) ?_
    refine go_ltl (y := 51) (by rw [hl_2055] <;> decide +kernel) (fun y18_1 hy_2057 => ?_)
    refine go_n (by rw [hl_2054] <;> decide +kernel) ?_
    refine go_n (by rw [hy_2057] <;> decide +kernel) ?_
    refine go_bd (c := 12) (S := Sq_179) (k_type (show _ = nI 51 by rw [hy_2057] <;> decide +kernel) (Nat.le_of_ble_eq_true rfl) K_2053 (by decide +kernel)) (fun r_35 hr_2058 K_2059 => ?_)
    refine go_n (by rw [hr_2058] <;> decide +kernel) ?_
    rw [hs_2056]
    refine go_u2 (n := 8187) (a0 := 1) (qi_lit 1) (a1 := 24) (show _ = nI 24 by rw [hl_2055] <;> decide +kernel) (fun self6 hs_2062 x3_6 hl_2060 x4_6 hl_2061 => ?_)
    unfold L_L_types_6
    refine go_n (by rw [hl_2061] <;> decide +kernel) ?_
    refine go_ltl (y := 48) (by rw [hl_2061] <;> decide +kernel) (fun y18_1 hy_2063 => ?_)
    refine go_n (by rw [hl_2060] <;> decide +kernel) ?_
    refine go_n (by rw [hy_2063] <;> decide +kernel) ?_
    refine go_bd (c := 13) (S := Sq_180) (k_type (show _ = nI 48 by rw [hy_2063] <;> decide +kernel) (Nat.le_of_ble_eq_true rfl) K_2059 (by decide +kernel)) (fun r_35 hr_2064 K_2065 => ?_)
    refine go_n (by rw [hr_2064] <;> decide +kernel) ?_
    rw [hs_2062]
    refine go_u2 (n := 8186) (a0 := 1) (qi_lit 1) (a1 := 16) (show _ = nI 16 by rw [hl_2061] <;> decide +kernel) (fun self6 hs_2068 x3_6 hl_2066 x4_6 hl_2067 => ?_)
    unfold L_L_types_6
    refine go_n (by rw [hl_2067] <;> decide +kernel) ?_
    refine go_ltl (y := 98) (by rw [hl_2067] <;> decide +kernel) (fun y18_1 hy_2069 => ?_)
    refine go_n (by rw [hl_2066] <;> decide +kernel) ?_
    refine go_n (by rw [hy_2069] <;> decide +kernel) ?_
    refine go_bd (c := 14) (S := Sq_181) (k_type (show _ = nI 98 by rw [hy_2069] <;> decide +kernel) (Nat.le_of_ble_eq_true rfl) K_2065 (by decide +kernel)) (fun r_35 hr_2070 K_2071 => ?_)
    refine go_n (by rw [hr_2070] <;> decide +kernel) ?_
    rw [hs_2068]
    refine go_u2 (n := 8185) (a0 := 1) (qi_lit 1) (a1 := 8) (show _ = nI 8 by rw [hl_2067] <;> decide +kernel) (fun self6 hs_2074 x3_6 hl_2072 x4_6 hl_2073 => ?_)
    unfold L_L_types_6
    refine go_n (by rw [hl_2073] <;> decide +kernel) ?_
    refine go_ltl (y := 49) (by rw [hl_2073] <;> decide +kernel) (fun y18_1 hy_2075 => ?_)
    refine go_n (by rw [hl_2072] <;> decide +kernel) ?_
    refine go_n (by rw [hy_2075] <;> decide +kernel) ?_
    refine go_bd (c := 15) (S := Sq_182) (k_type (show _ = nI 49 by rw [hy_2075] <;> decide +kernel) (Nat.le_of_ble_eq_true rfl) K_2071 (by decide +kernel)) (fun r_35 hr_2076 K_2077 => ?_)
    refine go_n (by rw [hr_2076] <;> decide +kernel) ?_
    rw [hs_2074]
    refine go_u2 (n := 8184) (a0 := 1) (qi_lit 1) (a1 := 0) (show _ = nI 0 by rw [hl_2073] <;> decide +kernel) (fun self6 hs_2080 x3_6 hl_2078 x4_6 hl_2079 => ?_)
    unfold L_L_types_6
    refine go_n (by rw [hl_2079] <;> decide +kernel) ?_
    refine go_ltl (y := 51) (by rw [hl_2079] <;> decide +kernel) (fun y18_1 hy_2081 => ?_)
    refine go_n (by rw [hl_2078] <;> decide +kernel) ?_
    refine go_n (by rw [hy_2081] <;> decide +kernel) ?_
    refine go_bd (c := 16) (S := Sq_183) (k_type (show _ = nI 51 by rw [hy_2081] <;> decide +kernel) (Nat.le_of_ble_eq_true rfl) K_2077 (by decide +kernel)) (fun r_35 hr_2082 K_2083 => ?_)
    refine go_n (by rw [hr_2082] <;> decide +kernel) ?_
    rw [hs_2080]
    refine go_u2 (n := 8183) (a0 := 1) (qi_lit 1) (a1 := 4294967288) (show _ = nI 4294967288 by rw [hl_2079] <;> decide +kernel) (fun self6 hs_2086 x3_6 hl_2084 x4_6 hl_2085 => ?_)
    unfold L_L_types_6
    refine go_p (by rw [hl_2085] <;> decide +kernel) ?_
    refine go_z (c := 1) (by rw [hl_2084] <;> decide +kernel) (by decide) ?_
    exact go_s hl_2084 K_2083
  refine go_n (by rw [hr_2034] <;> decide +kernel) ?_
  refine go_bd (c := 1) (S := Sq_191) ?_ (fun r_317 hr_2087 K_2088 => ?_)
  · unfold f_L_types
    refine go_u2 (n := 8191) (a0 := 1) (qi_lit 1) (a1 := 56) (qi_lit 56) (fun self6 hs_2091 x3_6 hl_2089 x4_6 hl_2090 => ?_)
    unfold L_L_types_6
    refine go_n (by rw [hl_2090] <;> decide +kernel) ?_
    refine go_ltl (y := 59) (by rw [hl_2090] <;> decide +kernel) (fun y18_1 hy_2092 => ?_)
    refine go_n (by rw [hl_2089] <;> decide +kernel) ?_
    refine go_n (by rw [hy_2092] <;> decide +kernel) ?_
    refine go_bd (c := 17) (S := Sq_184) (k_type (show _ = nI 59 by rw [hy_2092] <;> decide +kernel) (Nat.le_of_ble_eq_true rfl) K_2035 (by decide +kernel)) (fun r_35 hr_2093 K_2094 => ?_)
    refine go_n (by rw [hr_2093] <;> decide +kernel) ?_
    rw [hs_2091]
    refine go_u2 (n := 8190) (a0 := 1) (qi_lit 1) (a1 := 48) (show _ = nI 48 by rw [hl_2090] <;> decide +kernel) (fun self6 hs_2097 x3_6 hl_2095 x4_6 hl_2096 => ?_)
    unfold L_L_types_6
    refine go_n (by rw [hl_2096] <;> decide +kernel) ?_
    refine go_ltl (y := 102) (by rw [hl_2096] <;> decide +kernel) (fun y18_1 hy_2098 => ?_)
    refine go_n (by rw [hl_2095] <;> decide +kernel) ?_
    refine go_n (by rw [hy_2098] <;> decide +kernel) ?_
    refine go_bd (c := 18) (S := Sq_185) (k_type (show _ = nI 102 by rw [hy_2098] <;> decide +kernel) (Nat.le_of_ble_eq_true rfl) K_2094 (by decide +kernel)) (fun r_35 hr_2099 K_2100 => ?_)
    refine go_n (by rw [hr_2099] <;> decide +kernel) ?_
    rw [hs_2097]
    refine go_u2 (n := 8189) (a0 := 1) (qi_lit 1) (a1 := 40) (show _ = nI 40 by rw [hl_2096] <;> decide +kernel) (fun self6 hs_2103 x3_6 hl_2101 x4_6 hl_2102 => ?_)
    unfold L_L_types_6
    refine go_n (by rw [hl_2102] <;> decide +kernel) ?_
    refine go_ltl (y := 49) (by rw [hl_2102] <;> decide +kernel) (fun y18_1 hy_2104 => ?_)
    refine go_n (by rw [hl_2101] <;> decide +kernel) ?_
    refine go_n (by rw [hy_2104] <;> decide +kernel) ?_
    refine go_bd (c := 19) (S := Sq_186) (k_type (show _ = nI 49 by rw [hy_2104] <;> decide +kernel) (Nat.le_of_ble_eq_true rfl) K_2100 (by decide +kernel)) (fun r_35 hr_2105 K_2106 => ?_)
    refine go_n (by rw [hr_2105] <;> decide +kernel) ?_
    rw [hs_2103]
    refine go_u2 (n := 8188) (a0 := 1) (qi_lit 1) (a1 := 32) (show _ = nI 32 by rw [hl_2102] <;> decide +kernel) (fun self6 hs_2109 x3_6 hl_2107 x4_6 hl_2108 => ?_)
    unfold L_L_types_6
    refine go_n (by rw [hl_2108] <;> decide +kernel) ?_
    refine go_ltl (y := 48) (by rw [hl_2108] <;> decide +kernel) (fun y18_1 hy_2110 => ?_)
    refine go_n (by rw [hl_2107] <;> decide +kernel) ?_
    refine go_n (by rw [hy_2110] <;> decide +kernel) ?_
    refine go_bd (c := 20) (S := Sq_187) (k_type (show _ = nI 48 by rw [hy_2110] <;> decide +kernel) (Nat.le_of_ble_eq_true rfl) K_2106 (by decide +kernel)) (fun r_35 hr_2111 K_2112 => ?_)
    refine go_n (by rw [hr_2111] <;> decide +kernel) ?_
    rw [hs_2109]
    refine go_u2 (n := 8187) (a0 := 1) (qi_lit 1) (a1 := 24) (show _ = nI 24 by rw [hl_2108] <;> decide +kernel) (fun self6 hs_2115 x3_6 hl_2113 x4_6 hl_2114 => ?_)
    unfold L_L_types_6
    refine go_n (by rw [hl_2114] <;> decide +kernel) ?_
    refine go_ltl (y := 42) (by rw [hl_2114] <;> decide +kernel) (fun y18_1 hy_2116 => ?_)
    refine go_n (by rw [hl_2113] <;> decide +kernel) ?_
    refine go_n (by rw [hy_2116] <;> decide +kernel) ?_
    refine go_bd (c := 21) (S := Sq_188) (k_type (show _ = nI 42 by rw [hy_2116] <;> decide +kernel) (Nat.le_of_ble_eq_true rfl) K_2112 (by decide +kernel)) (fun r_35 hr_2117 K_2118 => ?_)
    refine go_n (by rw [hr_2117] <;> decide +kernel) ?_
    rw [hs_2115]
    refine go_u2 (n := 8186) (a0 := 1) (qi_lit 1) (a1 := 16) (show _ = nI 16 by rw [hl_2114] <;> decide +kernel) (fun self6 hs_2121 x3_6 hl_2119 x4_6 hl_2120 => ?_)
    unfold L_L_types_6
    refine go_n (by rw [hl_2120] <;> decide +kernel) ?_
    refine go_ltl (y := 50) (by rw [hl_2120] <;> decide +kernel) (fun y18_1 hy_2122 => ?_)
    refine go_n (by rw [hl_2119] <;> decide +kernel) ?_
    refine go_n (by rw [hy_2122] <;> decide +kernel) ?_
    refine go_bd (c := 22) (S := Sq_189) (k_type (show _ = nI 50 by rw [hy_2122] <;> decide +kernel) (Nat.le_of_ble_eq_true rfl) K_2118 (by decide +kernel)) (fun r_35 hr_2123 K_2124 => ?_)
    refine go_n (by rw [hr_2123] <;> decide +kernel) ?_
    rw [hs_2121]
    refine go_u2 (n := 8185) (a0 := 1) (qi_lit 1) (a1 := 8) (show _ = nI 8 by rw [hl_2120] <;> decide +kernel) (fun self6 hs_2127 x3_6 hl_2125 x4_6 hl_2126 => ?_)
    unfold L_L_types_6
    refine go_n (by rw [hl_2126] <;> decide +kernel) ?_
    refine go_ltl (y := 59) (by rw [hl_2126] <;> decide +kernel) (fun y18_1 hy_2128 => ?_)
    refine go_n (by rw [hl_2125] <;> decide +kernel) ?_
    refine go_n (by rw [hy_2128] <;> decide +kernel) ?_
    refine go_bd (c := 23) (S := Sq_190) (k_type (show _ = nI 59 by rw [hy_2128] <;> decide +kernel) (Nat.le_of_ble_eq_true rfl) K_2124 (by decide +kernel)) (fun r_35 hr_2129 K_2130 => ?_)
    refine go_n (by rw [hr_2129] <;> decide +kernel) ?_
    rw [hs_2127]
    refine go_u2 (n := 8184) (a0 := 1) (qi_lit 1) (a1 := 0) (show _ = nI 0 by rw [hl_2126] <;> decide +kernel) (fun self6 hs_2133 x3_6 hl_2131 x4_6 hl_2132 => ?_)
    unfold L_L_types_6
    refine go_n (by rw [hl_2132] <;> decide +kernel) ?_
    refine go_ltl (y := 108) (by rw [hl_2132] <;> decide +kernel) (fun y18_1 hy_2134 => ?_)
    refine go_n (by rw [hl_2131] <;> decide +kernel) ?_
    refine go_n (by rw [hy_2134] <;> decide +kernel) ?_
    refine go_bd (c := 24) (S := Sq_191) (k_type (show _ = nI 108 by rw [hy_2134] <;> decide +kernel) (Nat.le_of_ble_eq_true rfl) K_2130 (by decide +kernel)) (fun r_35 hr_2135 K_2136 => ?_)
    refine go_n (by rw [hr_2135] <;> decide +kernel) ?_
    rw [hs_2133]
    refine go_u2 (n := 8183) (a0 := 1) (qi_lit 1) (a1 := 4294967288) (show _ = nI 4294967288 by rw [hl_2132] <;> decide +kernel) (fun self6 hs_2139 x3_6 hl_2137 x4_6 hl_2138 => ?_)
    unfold L_L_types_6
    refine go_p (by rw [hl_2138] <;> decide +kernel) ?_
    refine go_z (c := 1) (by rw [hl_2137] <;> decide +kernel) (by decide) ?_
    exact go_s hl_2137 K_2136
  refine go_n (by rw [hr_2087] <;> decide +kernel) ?_
  refine go_bd (c := 1) (S := Sq_199) ?_ (fun r_327 hr_2140 K_2141 => ?_)
  · unfold f_L_types
    refine go_u2 (n := 8191) (a0 := 1) (qi_lit 1) (a1 := 56) (qi_lit 56) (fun self6 hs_2144 x3_6 hl_2142 x4_6 hl_2143 => ?_)
    unfold L_L_types_6
    refine go_n (by rw [hl_2143] <;> decide +kernel) ?_
    refine go_ltl (y := 48) (by rw [hl_2143] <;> decide +kernel) (fun y18_1 hy_2145 => ?_)
    refine go_n (by rw [hl_2142] <;> decide +kernel) ?_
    refine go_n (by rw [hy_2145] <;> decide +kernel) ?_
    refine go_bd (c := 25) (S := Sq_192) (k_type (show _ = nI 48 by rw [hy_2145] <;> decide +kernel) (Nat.le_of_ble_eq_true rfl) K_2088 (by decide +kernel)) (fun r_35 hr_2146 K_2147 => ?_)
    refine go_n (by rw [hr_2146] <;> decide +kernel) ?_
    rw [hs_2144]
    refine go_u2 (n := 8190) (a0 := 1) (qi_lit 1) (a1 := 48) (show _ = nI 48 by rw [hl_2143] <;> decide +kernel) (fun self6 hs_2150 x3_6 hl_2148 x4_6 hl_2149 => ?_)
    unfold L_L_types_6
    refine go_n (by rw [hl_2149] <;> decide +kernel) ?_
    refine go_ltl (y := 46) (by rw [hl_2149] <;> decide +kernel) (fun y18_1 hy_2151 => ?_)
    refine go_n (by rw [hl_2148] <;> decide +kernel) ?_
    refine go_n (by rw [hy_2151] <;> decide +kernel) ?_
    refine go_bd (c := 26) (S := Sq_193) (k_type (show _ = nI 46 by rw [hy_2151] <;> decide +kernel) (Nat.le_of_ble_eq_true rfl) K_2147 (by decide +kernel)) (fun r_35 hr_2152 K_2153 => ?_)
    refine go_n (by rw [hr_2152] <;> decide +kernel) ?_
    rw [hs_2150]
    refine go_u2 (n := 8189) (a0 := 1) (qi_lit 1) (a1 := 40) (show _ = nI 40 by rw [hl_2149] <;> decide +kernel) (fun self6 hs_2156 x3_6 hl_2154 x4_6 hl_2155 => ?_)
    unfold L_L_types_6
    refine go_n (by rw [hl_2155] <;> decide +kernel) ?_
    refine go_ltl (y := 48) (by rw [hl_2155] <;> decide +kernel) (fun y18_1 hy_2157 => ?_)
    refine go_n (by rw [hl_2154] <;> decide +kernel) ?_
    refine go_n (by rw [hy_2157] <;> decide +kernel) ?_
    refine go_bd (c := 27) (S := Sq_194) (k_type (show _ = nI 48 by rw [hy_2157] <;> decide +kernel) (Nat.le_of_ble_eq_true rfl) K_2153 (by decide +kernel)) (fun r_35 hr_2158 K_2159 => ?_)
    refine go_n (by rw [hr_2158] <;> decide +kernel) ?_
    rw [hs_2156]
    refine go_u2 (n := 8188) (a0 := 1) (qi_lit 1) (a1 := 32) (show _ = nI 32 by rw [hl_2155] <;> decide +kernel) (fun self6 hs_2162 x3_6 hl_2160 x4_6 hl_2161 => ?_)
    unfold L_L_types_6
    refine go_n (by rw [hl_2161] <;> decide +kernel) ?_
    refine go_ltl (y := 61) (by rw [hl_2161] <;> decide +kernel) (fun y18_1 hy_2163 => ?_)
    refine go_n (by rw [hl_2160] <;> decide +kernel) ?_
    refine go_n (by rw [hy_2163] <;> decide +kernel) ?_
    refine go_bd (c := 28) (S := Sq_195) (k_type (show _ = nI 61 by rw [hy_2163] <;> decide +kernel) (Nat.le_of_ble_eq_true rfl) K_2159 (by decide +kernel)) (fun r_35 hr_2164 K_2165 => ?_)
    refine go_n (by rw [hr_2164] <;> decide +kernel) ?_
    rw [hs_2162]
    refine go_u2 (n := 8187) (a0 := 1) (qi_lit 1) (a1 := 24) (show _ = nI 24 by rw [hl_2161] <;> decide +kernel) (fun self6 hs_2168 x3_6 hl_2166 x4_6 hl_2167 => ?_)
    unfold L_L_types_6
    refine go_n (by rw [hl_2167] <;> decide +kernel) ?_
    refine go_ltl (y := 50) (by rw [hl_2167] <;> decide +kernel) (fun y18_1 hy_2169 => ?_)
    refine go_n (by rw [hl_2166] <;> decide +kernel) ?_
    refine go_n (by rw [hy_2169] <;> decide +kernel) ?_
    refine go_bd (c := 29) (S := Sq_196) (k_type (show _ = nI 50 by rw [hy_2169] <;> decide +kernel) (Nat.le_of_ble_eq_true rfl) K_2165 (by decide +kernel)) (fun r_35 hr_2170 K_2171 => ?_)
    refine go_n (by rw [hr_2170] <;> decide +kernel) ?_
    rw [hs_2168]
    refine go_u2 (n := 8186) (a0 := 1) (qi_lit 1) (a1 := 16) (show _ = nI 16 by rw [hl_2167] <;> decide +kernel) (fun self6 hs_2174 x3_6 hl_2172 x4_6 hl_2173 => ?_)
    unfold L_L_types_6
    refine go_n (by rw [hl_2173] <;> decide +kernel) ?_
    refine go_ltl (y := 114) (by rw [hl_2173] <;> decide +kernel) (fun y18_1 hy_2175 => ?_)
    refine go_n (by rw [hl_2172] <;> decide +kernel) ?_
    refine go_n (by rw [hy_2175] <;> decide +kernel) ?_
    refine go_bd (c := 30) (S := Sq_197) (k_type (show _ = nI 114 by rw [hy_2175] <;> decide +kernel) (Nat.le_of_ble_eq_true rfl) K_2171 (by decide +kernel)) (fun r_35 hr_2176 K_2177 => ?_)
    refine go_n (by rw [hr_2176] <;> decide +kernel) ?_
    rw [hs_2174]
    refine go_u2 (n := 8185) (a0 := 1) (qi_lit 1) (a1 := 8) (show _ = nI 8 by rw [hl_2173] <;> decide +kernel) (fun self6 hs_2180 x3_6 hl_2178 x4_6 hl_2179 => ?_)
    unfold L_L_types_6
    refine go_n (by rw [hl_2179] <;> decide +kernel) ?_
    refine go_ltl (y := 49) (by rw [hl_2179] <;> decide +kernel) (fun y18_1 hy_2181 => ?_)
    refine go_n (by rw [hl_2178] <;> decide +kernel) ?_
    refine go_n (by rw [hy_2181] <;> decide +kernel) ?_
    refine go_bd (c := 31) (S := Sq_198) (k_type (show _ = nI 49 by rw [hy_2181] <;> decide +kernel) (Nat.le_of_ble_eq_true rfl) K_2177 (by decide +kernel)) (fun r_35 hr_2182 K_2183 => ?_)
    refine go_n (by rw [hr_2182] <;> decide +kernel) ?_
    rw [hs_2180]
    refine go_u2 (n := 8184) (a0 := 1) (qi_lit 1) (a1 := 0) (show _ = nI 0 by rw [hl_2179] <;> decide +kernel) (fun self6 hs_2186 x3_6 hl_2184 x4_6 hl_2185 => ?_)
    unfold L_L_types_6
    refine go_n (by rw [hl_2185] <;> decide +kernel) ?_
    refine go_ltl (y := 50) (by rw [hl_2185] <;> decide +kernel) (fun y18_1 hy_2187 => ?_)
    refine go_n (by rw [hl_2184] <;> decide +kernel) ?_
    refine go_n (by rw [hy_2187] <;> decide +kernel) ?_
    refine go_bd (c := 32) (S := Sq_199) (k_type (show _ = nI 50 by rw [hy_2187] <;> decide +kernel) (Nat.le_of_ble_eq_true rfl) K_2183 (by decide +kernel)) (fun r_35 hr_2188 K_2189 => ?_)
    refine go_n (by rw [hr_2188] <;> decide +kernel) ?_
    rw [hs_2186]
    refine go_u2 (n := 8183) (a0 := 1) (qi_lit 1) (a1 := 4294967288) (show _ = nI 4294967288 by rw [hl_2185] <;> decide +kernel) (fun self6 hs_2192 x3_6 hl_2190 x4_6 hl_2191 => ?_)
    unfold L_L_types_6
    refine go_p (by rw [hl_2191] <;> decide +kernel) ?_
    refine go_z (c := 1) (by rw [hl_2190] <;> decide +kernel) (by decide) ?_
    exact go_s hl_2190 K_2189
  refine go_n (by rw [hr_2140] <;> decide +kernel) ?_
  refine go_bd (c := 1) (S := Sq_206) ?_ (fun r_337 hr_2193 K_2194 => ?_)
  · unfold f_L_types
    refine go_u2 (n := 8191) (a0 := 1) (qi_lit 1) (a1 := 56) (qi_lit 56) (fun self6 hs_2197 x3_6 hl_2195 x4_6 hl_2196 => ?_)
    unfold L_L_types_6
    refine go_n (by rw [hl_2196] <;> decide +kernel) ?_
    refine go_ltl (y := 0) (by rw [hl_2196] <;> decide +kernel) (fun y18_1 hy_2198 => ?_)
    refine go_n (by rw [hl_2195] <;> decide +kernel) ?_
    refine go_p (by rw [hy_2198] <;> decide +kernel) ?_
    rw [hs_2197]
    refine go_u2 (n := 8190) (a0 := 1) (qi_lit 1) (a1 := 48) (show _ = nI 48 by rw [hl_2196] <;> decide +kernel) (fun self6 hs_2201 x3_6 hl_2199 x4_6 hl_2200 => ?_)
    unfold L_L_types_6
    refine go_n (by rw [hl_2200] <;> decide +kernel) ?_
    refine go_ltl (y := 45) (by rw [hl_2200] <;> decide +kernel) (fun y18_1 hy_2202 => ?_)
    refine go_n (by rw [hl_2199] <;> decide +kernel) ?_
    refine go_n (by rw [hy_2202] <;> decide +kernel) ?_
    refine go_bd (c := 33) (S := Sq_200) (k_type (show _ = nI 45 by rw [hy_2202] <;> decide +kernel) (Nat.le_of_ble_eq_true rfl) K_2141 (by decide +kernel)) (fun r_35 hr_2203 K_2204 => ?_)
    refine go_n (by rw [hr_2203] <;> decide +kernel) ?_
    rw [hs_2201]
    refine go_u2 (n := 8189) (a0 := 1) (qi_lit 1) (a1 := 40) (show _ = nI 40 by rw [hl_2200] <;> decide +kernel) (fun self6 hs_2207 x3_6 hl_2205 x4_6 hl_2206 => ?_)
    unfold L_L_types_6
    refine go_n (by rw [hl_2206] <;> decide +kernel) ?_
    refine go_ltl (y := 50) (by rw [hl_2206] <;> decide +kernel) (fun y18_1 hy_2208 => ?_)
    refine go_n (by rw [hl_2205] <;> decide +kernel) ?_
    refine go_n (by rw [hy_2208] <;> decide +kernel) ?_
    refine go_bd (c := 34) (S := Sq_201) (k_type (show _ = nI 50 by rw [hy_2208] <;> decide +kernel) (Nat.le_of_ble_eq_true rfl) K_2204 (by decide +kernel)) (fun r_35 hr_2209 K_2210 => ?_)
    refine go_n (by rw [hr_2209] <;> decide +kernel) ?_
    rw [hs_2207]
    refine go_u2 (n := 8188) (a0 := 1) (qi_lit 1) (a1 := 32) (show _ = nI 32 by rw [hl_2206] <;> decide +kernel) (fun self6 hs_2213 x3_6 hl_2211 x4_6 hl_2212 => ?_)
    unfold L_L_types_6
    refine go_n (by rw [hl_2212] <;> decide +kernel) ?_
    refine go_ltl (y := 48) (by rw [hl_2212] <;> decide +kernel) (fun y18_1 hy_2214 => ?_)
    refine go_n (by rw [hl_2211] <;> decide +kernel) ?_
    refine go_n (by rw [hy_2214] <;> decide +kernel) ?_
    refine go_bd (c := 35) (S := Sq_202) (k_type (show _ = nI 48 by rw [hy_2214] <;> decide +kernel) (Nat.le_of_ble_eq_true rfl) K_2210 (by decide +kernel)) (fun r_35 hr_2215 K_2216 => ?_)
    refine go_n (by rw [hr_2215] <;> decide +kernel) ?_
    rw [hs_2213]
    refine go_u2 (n := 8187) (a0 := 1) (qi_lit 1) (a1 := 24) (show _ = nI 24 by rw [hl_2212] <;> decide +kernel) (fun self6 hs_2219 x3_6 hl_2217 x4_6 hl_2218 => ?_)
    unfold L_L_types_6
    refine go_n (by rw [hl_2218] <;> decide +kernel) ?_
    refine go_ltl (y := 59) (by rw [hl_2218] <;> decide +kernel) (fun y18_1 hy_2220 => ?_)
    refine go_n (by rw [hl_2217] <;> decide +kernel) ?_
    refine go_n (by rw [hy_2220] <;> decide +kernel) ?_
    refine go_bd (c := 36) (S := Sq_203) (k_type (show _ = nI 59 by rw [hy_2220] <;> decide +kernel) (Nat.le_of_ble_eq_true rfl) K_2216 (by decide +kernel)) (fun r_35 hr_2221 K_2222 => ?_)
    refine go_n (by rw [hr_2221] <;> decide +kernel) ?_
    rw [hs_2219]
    refine go_u2 (n := 8186) (a0 := 1) (qi_lit 1) (a1 := 16) (show _ = nI 16 by rw [hl_2218] <;> decide +kernel) (fun self6 hs_2225 x3_6 hl_2223 x4_6 hl_2224 => ?_)
    unfold L_L_types_6
    refine go_n (by rw [hl_2224] <;> decide +kernel) ?_
    refine go_ltl (y := 116) (by rw [hl_2224] <;> decide +kernel) (fun y18_1 hy_2226 => ?_)
    refine go_n (by rw [hl_2223] <;> decide +kernel) ?_
    refine go_n (by rw [hy_2226] <;> decide +kernel) ?_
    refine go_bd (c := 37) (S := Sq_204) (k_type (show _ = nI 116 by rw [hy_2226] <;> decide +kernel) (Nat.le_of_ble_eq_true rfl) K_2222 (by decide +kernel)) (fun r_35 hr_2227 K_2228 => ?_)
    refine go_n (by rw [hr_2227] <;> decide +kernel) ?_
    rw [hs_2225]
    refine go_u2 (n := 8185) (a0 := 1) (qi_lit 1) (a1 := 8) (show _ = nI 8 by rw [hl_2224] <;> decide +kernel) (fun self6 hs_2231 x3_6 hl_2229 x4_6 hl_2230 => ?_)
    unfold L_L_types_6
    refine go_n (by rw [hl_2230] <;> decide +kernel) ?_
    refine go_ltl (y := 49) (by rw [hl_2230] <;> decide +kernel) (fun y18_1 hy_2232 => ?_)
    refine go_n (by rw [hl_2229] <;> decide +kernel) ?_
    refine go_n (by rw [hy_2232] <;> decide +kernel) ?_
    refine go_bd (c := 38) (S := Sq_205) (k_type (show _ = nI 49 by rw [hy_2232] <;> decide +kernel) (Nat.le_of_ble_eq_true rfl) K_2228 (by decide +kernel)) (fun r_35 hr_2233 K_2234 => ?_)
    refine go_n (by rw [hr_2233] <;> decide +kernel) ?_
    rw [hs_2231]
    refine go_u2 (n := 8184) (a0 := 1) (qi_lit 1) (a1 := 0) (show _ = nI 0 by rw [hl_2230] <;> decide +kernel) (fun self6 hs_2237 x3_6 hl_2235 x4_6 hl_2236 => ?_)
    unfold L_L_types_6
    refine go_n (by rw [hl_2236] <;> decide +kernel) ?_
    refine go_ltl (y := 48) (by rw [hl_2236] <;> decide +kernel) (fun y18_1 hy_2238 => ?_)
    refine go_n (by rw [hl_2235] <;> decide +kernel) ?_
    refine go_n (by rw [hy_2238] <;> decide +kernel) ?_
    refine go_bd (c := 39) (S := Sq_206) (k_type (show _ = nI 48 by rw [hy_2238] <;> decide +kernel) (Nat.le_of_ble_eq_true rfl) K_2234 (by decide +kernel)) (fun r_35 hr_2239 K_2240 => ?_)
    refine go_n (by rw [hr_2239] <;> decide +kernel) ?_
    rw [hs_2237]
    refine go_u2 (n := 8183) (a0 := 1) (qi_lit 1) (a1 := 4294967288) (show _ = nI 4294967288 by rw [hl_2236] <;> decide +kernel) (fun self6 hs_2243 x3_6 hl_2241 x4_6 hl_2242 => ?_)
    unfold L_L_types_6
    refine go_p (by rw [hl_2242] <;> decide +kernel) ?_
    refine go_z (c := 1) (by rw [hl_2241] <;> decide +kernel) (by decide) ?_
    exact go_s hl_2241 K_2240
  refine go_n (by rw [hr_2193] <;> decide +kernel) ?_
  refine go_bd (c := 4294967295) (S := Sq_207) (k_letterError  K_2194 (by decide +kernel)) (fun r_344 hr_2244 K_2245 => ?_)
  refine go_p (by rw [hr_2244] <;> decide +kernel) ?_
  refine go_bd (c := 4294967295) (S := Sq_208) (k_impossibleOrder  K_2245 (by decide +kernel)) (fun r_352 hr_2246 K_2247 => ?_)
  refine go_p (by rw [hr_2246] <;> decide +kernel) ?_
  refine go_bd (c := 4) (S := Sq_209) (k_carryOut  K_2247 (by decide +kernel)) (fun r_360 hr_2248 K_2249 => ?_)
  refine go_p (by rw [hr_2248] <;> decide +kernel) ?_
  refine go_bi (c := 10) (k_day K_2249 (by decide +kernel)) (fun r_368 hr_2250 => ?_)
  refine go_p (by rw [hr_2250] <;> decide +kernel) ?_
  refine go_bd (c := 1) (S := Sq_209) ?_ (fun r_382 hr_2251 K_2252 => ?_)
  · unfold f_L_accounts
    refine go_bi (c := 50) (k_purse K_2249 (by decide +kernel)) (fun r_1 hr_2253 => ?_)
    refine go_p (by rw [hr_2253] <;> decide +kernel) ?_
    refine go_bi (c := 50) (k_purseByAccounts K_2249 (by decide +kernel)) (fun r_9 hr_2254 => ?_)
    refine go_p (by rw [hr_2254] <;> decide +kernel) ?_
    refine go_bi (c := 2) (k_collected K_2249 (by decide +kernel)) (fun r_17 hr_2255 => ?_)
    refine go_p (by rw [hr_2255] <;> decide +kernel) ?_
    refine go_bi (c := 0) (k_fees K_2249 (by decide +kernel)) (fun r_25 hr_2256 => ?_)
    refine go_p (by rw [hr_2256] <;> decide +kernel) ?_
    refine go_bi (c := 2) (k_fines K_2249 (by decide +kernel)) (fun r_33 hr_2257 => ?_)
    refine go_p (by rw [hr_2257] <;> decide +kernel) ?_
    refine go_z1 ?_
    exact go_s (qi_lit 1) K_2249
  refine go_n (by rw [hr_2251] <;> decide +kernel) ?_
  refine go_bd (c := 1080) (S := Sq_209) (k_breakDayOf (qi_lit 0) K_2252 (by decide +kernel)) (fun r_390 hr_2258 K_2259 => ?_)
  refine go_p (by rw [hr_2258] <;> decide +kernel) ?_
  refine go_bd (c := 0) (S := Sq_209) (k_descantIn (qi_lit 0) K_2259 (by decide +kernel)) (fun r_401 hr_2260 K_2261 => ?_)
  refine go_p (by rw [hr_2260] <;> decide +kernel) ?_
  refine go_bd (c := 4294967295) (S := Sq_210) (k_letterError  K_2261 (by decide +kernel)) (fun r_408 hr_2262 K_2263 => ?_)
  refine go_p (by rw [hr_2262] <;> decide +kernel) ?_
  refine go_bd (c := 1) (S := Sq_211) (k_impossibleOrder  K_2263 (by decide +kernel)) (fun r_416 hr_2264 K_2265 => ?_)
  refine go_p (by rw [hr_2264] <;> decide +kernel) ?_
  refine go_bd (c := 4294965283) (S := Sq_211) ?_ (fun r_429 hr_2266 K_2267 => ?_)
  · unfold f_L_call
    refine go_n (by decide +kernel) ?_
    refine go_n (by decide +kernel) ?_
    refine go_n (by decide +kernel) ?_
    unfold f_L_rest
    refine go_hn (by decide +kernel) ?_
    refine go_hn (by decide +kernel) ?_
    refine go_hp (by decide +kernel) ?_
    exact hc_tb (k := 3) (t_carryOut  K_2265 (by decide +kernel)) (by decide) (by decide +kernel)
  refine go_p (by rw [hr_2266] <;> decide +kernel) ?_
  refine go_bi (c := 1) (k_singers K_2267 (by decide +kernel)) (fun r_439 hr_2268 => ?_)
  refine go_p (by rw [hr_2268] <;> decide +kernel) ?_
  refine go_bi (c := 1) (k_recordedStates K_2267 (by decide +kernel)) (fun r_447 hr_2269 => ?_)
  refine go_p (by rw [hr_2269] <;> decide +kernel) ?_
  refine go_bd (c := 39) (S := Sq_212) (k_clearLetter  K_2267 (by decide +kernel)) (fun r_455 hr_2270 K_2271 => ?_)
  refine go_p (by rw [hr_2270] <;> decide +kernel) ?_
  refine go_bd (c := 1) (S := Sq_220) ?_ (fun r_467 hr_2272 K_2273 => ?_)
  · unfold f_L_types
    refine go_u2 (n := 8191) (a0 := 1) (qi_lit 1) (a1 := 56) (qi_lit 56) (fun self6 hs_2276 x3_6 hl_2274 x4_6 hl_2275 => ?_)
    unfold L_L_types_6
    refine go_n (by rw [hl_2275] <;> decide +kernel) ?_
    refine go_ltl (y := 120) (by rw [hl_2275] <;> decide +kernel) (fun y18_1 hy_2277 => ?_)
    refine go_n (by rw [hl_2274] <;> decide +kernel) ?_
    refine go_n (by rw [hy_2277] <;> decide +kernel) ?_
    refine go_bd (c := 1) (S := Sq_213) (k_type (show _ = nI 120 by rw [hy_2277] <;> decide +kernel) (Nat.le_of_ble_eq_true rfl) K_2271 (by decide +kernel)) (fun r_35 hr_2278 K_2279 => ?_)
    refine go_n (by rw [hr_2278] <;> decide +kernel) ?_
    rw [hs_2276]
    refine go_u2 (n := 8190) (a0 := 1) (qi_lit 1) (a1 := 48) (show _ = nI 48 by rw [hl_2275] <;> decide +kernel) (fun self6 hs_2282 x3_6 hl_2280 x4_6 hl_2281 => ?_)
    unfold L_L_types_6
    refine go_n (by rw [hl_2281] <;> decide +kernel) ?_
    refine go_ltl (y := 48) (by rw [hl_2281] <;> decide +kernel) (fun y18_1 hy_2283 => ?_)
    refine go_n (by rw [hl_2280] <;> decide +kernel) ?_
    refine go_n (by rw [hy_2283] <;> decide +kernel) ?_
    refine go_bd (c := 2) (S := Sq_214) (k_type (show _ = nI 48 by rw [hy_2283] <;> decide +kernel) (Nat.le_of_ble_eq_true rfl) K_2279 (by decide +kernel)) (fun r_35 hr_2284 K_2285 => ?_)
    refine go_n (by rw [hr_2284] <;> decide +kernel) ?_
    rw [hs_2282]
    refine go_u2 (n := 8189) (a0 := 1) (qi_lit 1) (a1 := 40) (show _ = nI 40 by rw [hl_2281] <;> decide +kernel) (fun self6 hs_2288 x3_6 hl_2286 x4_6 hl_2287 => ?_)
    unfold L_L_types_6
    refine go_n (by rw [hl_2287] <;> decide +kernel) ?_
    refine go_ltl (y := 59) (by rw [hl_2287] <;> decide +kernel) (fun y18_1 hy_2289 => ?_)
    refine go_n (by rw [hl_2286] <;> decide +kernel) ?_
    refine go_n (by rw [hy_2289] <;> decide +kernel) ?_
    refine go_bd (c := 3) (S := Sq_215) (k_type (show _ = nI 59 by rw [hy_2289] <;> decide +kernel) (Nat.le_of_ble_eq_true rfl) K_2285 (by decide +kernel)) (fun r_35 hr_2290 K_2291 => ?_)
    refine go_n (by rw [hr_2290] <;> decide +kernel) ?_
    rw [hs_2288]
    refine go_u2 (n := 8188) (a0 := 1) (qi_lit 1) (a1 := 32) (show _ = nI 32 by rw [hl_2287] <;> decide +kernel) (fun self6 hs_2294 x3_6 hl_2292 x4_6 hl_2293 => ?_)
    unfold L_L_types_6
    refine go_n (by rw [hl_2293] <;> decide +kernel) ?_
    refine go_ltl (y := 110) (by rw [hl_2293] <;> decide +kernel) (fun y18_1 hy_2295 => ?_)
    refine go_n (by rw [hl_2292] <;> decide +kernel) ?_
    refine go_n (by rw [hy_2295] <;> decide +kernel) ?_
    refine go_bd (c := 4) (S := Sq_216) (k_type (show _ = nI 110 by rw [hy_2295] <;> decide +kernel) (Nat.le_of_ble_eq_true rfl) K_2291 (by decide +kernel)) (fun r_35 hr_2296 K_2297 => ?_)
    refine go_n (by rw [hr_2296] <;> decide +kernel) ?_
    rw [hs_2294]
    refine go_u2 (n := 8187) (a0 := 1) (qi_lit 1) (a1 := 24) (show _ = nI 24 by rw [hl_2293] <;> decide +kernel) (fun self6 hs_2300 x3_6 hl_2298 x4_6 hl_2299 => ?_)
    unfold L_L_types_6
    refine go_n (by rw [hl_2299] <;> decide +kernel) ?_
    refine go_ltl (y := 48) (by rw [hl_2299] <;> decide +kernel) (fun y18_1 hy_2301 => ?_)
    refine go_n (by rw [hl_2298] <;> decide +kernel) ?_
    refine go_n (by rw [hy_2301] <;> decide +kernel) ?_
    refine go_bd (c := 5) (S := Sq_217) (k_type (show _ = nI 48 by rw [hy_2301] <;> decide +kernel) (Nat.le_of_ble_eq_true rfl) K_2297 (by decide +kernel)) (fun r_35 hr_2302 K_2303 => ?_)
    refine go_n (by rw [hr_2302] <;> decide +kernel) ?_
    rw [hs_2300]
    refine go_u2 (n := 8186) (a0 := 1) (qi_lit 1) (a1 := 16) (show _ = nI 16 by rw [hl_2299] <;> decide +kernel) (fun self6 hs_2306 x3_6 hl_2304 x4_6 hl_2305 => ?_)
    unfold L_L_types_6
    refine go_n (by rw [hl_2305] <;> decide +kernel) ?_
    refine go_ltl (y := 58) (by rw [hl_2305] <;> decide +kernel) (fun y18_1 hy_2307 => ?_)
    refine go_n (by rw [hl_2304] <;> decide +kernel) ?_
    refine go_n (by rw [hy_2307] <;> decide +kernel) ?_
    refine go_bd (c := 6) (S := Sq_218) (k_type (show _ = nI 58 by rw [hy_2307] <;> decide +kernel) (Nat.le_of_ble_eq_true rfl) K_2303 (by decide +kernel)) (fun r_35 hr_2308 K_2309 => ?_)
    refine go_n (by rw [hr_2308] <;> decide +kernel) ?_
    rw [hs_2306]
    refine go_u2 (n := 8185) (a0 := 1) (qi_lit 1) (a1 := 8) (show _ = nI 8 by rw [hl_2305] <;> decide +kernel) (fun self6 hs_2312 x3_6 hl_2310 x4_6 hl_2311 => ?_)
    unfold L_L_types_6
    refine go_n (by rw [hl_2311] <;> decide +kernel) ?_
    refine go_ltl (y := 57) (by rw [hl_2311] <;> decide +kernel) (fun y18_1 hy_2313 => ?_)
    refine go_n (by rw [hl_2310] <;> decide +kernel) ?_
    refine go_n (by rw [hy_2313] <;> decide +kernel) ?_
    refine go_bd (c := 7) (S := Sq_219) (k_type (show _ = nI 57 by rw [hy_2313] <;> decide +kernel) (Nat.le_of_ble_eq_true rfl) K_2309 (by decide +kernel)) (fun r_35 hr_2314 K_2315 => ?_)
    refine go_n (by rw [hr_2314] <;> decide +kernel) ?_
    rw [hs_2312]
    refine go_u2 (n := 8184) (a0 := 1) (qi_lit 1) (a1 := 0) (show _ = nI 0 by rw [hl_2311] <;> decide +kernel) (fun self6 hs_2318 x3_6 hl_2316 x4_6 hl_2317 => ?_)
    unfold L_L_types_6
    refine go_n (by rw [hl_2317] <;> decide +kernel) ?_
    refine go_ltl (y := 57) (by rw [hl_2317] <;> decide +kernel) (fun y18_1 hy_2319 => ?_)
    refine go_n (by rw [hl_2316] <;> decide +kernel) ?_
    refine go_n (by rw [hy_2319] <;> decide +kernel) ?_
    refine go_bd (c := 8) (S := Sq_220) (k_type (show _ = nI 57 by rw [hy_2319] <;> decide +kernel) (Nat.le_of_ble_eq_true rfl) K_2315 (by decide +kernel)) (fun r_35 hr_2320 K_2321 => ?_)
    refine go_n (by rw [hr_2320] <;> decide +kernel) ?_
    rw [hs_2318]
    refine go_u2 (n := 8183) (a0 := 1) (qi_lit 1) (a1 := 4294967288) (show _ = nI 4294967288 by rw [hl_2317] <;> decide +kernel) (fun self6 hs_2324 x3_6 hl_2322 x4_6 hl_2323 => ?_)
    unfold L_L_types_6
    refine go_p (by rw [hl_2323] <;> decide +kernel) ?_
    refine go_z (c := 1) (by rw [hl_2322] <;> decide +kernel) (by decide) ?_
    exact go_s hl_2322 K_2321
  refine go_n (by rw [hr_2272] <;> decide +kernel) ?_
  refine go_bd (c := 1) (S := Sq_223) ?_ (fun r_477 hr_2325 K_2326 => ?_)
  · unfold f_L_types
    refine go_u2 (n := 8191) (a0 := 1) (qi_lit 1) (a1 := 56) (qi_lit 56) (fun self6 hs_2329 x3_6 hl_2327 x4_6 hl_2328 => ?_)
    unfold L_L_types_6
    refine go_n (by rw [hl_2328] <;> decide +kernel) ?_
    refine go_ltl (y := 0) (by rw [hl_2328] <;> decide +kernel) (fun y18_1 hy_2330 => ?_)
    refine go_n (by rw [hl_2327] <;> decide +kernel) ?_
    refine go_p (by rw [hy_2330] <;> decide +kernel) ?_
    rw [hs_2329]
    refine go_u2 (n := 8190) (a0 := 1) (qi_lit 1) (a1 := 48) (show _ = nI 48 by rw [hl_2328] <;> decide +kernel) (fun self6 hs_2333 x3_6 hl_2331 x4_6 hl_2332 => ?_)
    unfold L_L_types_6
    refine go_n (by rw [hl_2332] <;> decide +kernel) ?_
    refine go_ltl (y := 0) (by rw [hl_2332] <;> decide +kernel) (fun y18_1 hy_2334 => ?_)
    refine go_n (by rw [hl_2331] <;> decide +kernel) ?_
    refine go_p (by rw [hy_2334] <;> decide +kernel) ?_
    rw [hs_2333]
    refine go_u2 (n := 8189) (a0 := 1) (qi_lit 1) (a1 := 40) (show _ = nI 40 by rw [hl_2332] <;> decide +kernel) (fun self6 hs_2337 x3_6 hl_2335 x4_6 hl_2336 => ?_)
    unfold L_L_types_6
    refine go_n (by rw [hl_2336] <;> decide +kernel) ?_
    refine go_ltl (y := 0) (by rw [hl_2336] <;> decide +kernel) (fun y18_1 hy_2338 => ?_)
    refine go_n (by rw [hl_2335] <;> decide +kernel) ?_
    refine go_p (by rw [hy_2338] <;> decide +kernel) ?_
    rw [hs_2337]
    refine go_u2 (n := 8188) (a0 := 1) (qi_lit 1) (a1 := 32) (show _ = nI 32 by rw [hl_2336] <;> decide +kernel) (fun self6 hs_2341 x3_6 hl_2339 x4_6 hl_2340 => ?_)
    unfold L_L_types_6
    refine go_n (by rw [hl_2340] <;> decide +kernel) ?_
    refine go_ltl (y := 0) (by rw [hl_2340] <;> decide +kernel) (fun y18_1 hy_2342 => ?_)
    refine go_n (by rw [hl_2339] <;> decide +kernel) ?_
    refine go_p (by rw [hy_2342] <;> decide +kernel) ?_
    rw [hs_2341]
    refine go_u2 (n := 8187) (a0 := 1) (qi_lit 1) (a1 := 24) (show _ = nI 24 by rw [hl_2340] <;> decide +kernel) (fun self6 hs_2345 x3_6 hl_2343 x4_6 hl_2344 => ?_)
    unfold L_L_types_6
    refine go_n (by rw [hl_2344] <;> decide +kernel) ?_
    refine go_ltl (y := 0) (by rw [hl_2344] <;> decide +kernel) (fun y18_1 hy_2346 => ?_)
    refine go_n (by rw [hl_2343] <;> decide +kernel) ?_
    refine go_p (by rw [hy_2346] <;> decide +kernel) ?_
    rw [hs_2345]
    refine go_u2 (n := 8186) (a0 := 1) (qi_lit 1) (a1 := 16) (show _ = nI 16 by rw [hl_2344] <;> decide +kernel) (fun self6 hs_2349 x3_6 hl_2347 x4_6 hl_2348 => ?_)
    unfold L_L_types_6
    refine go_n (by rw [hl_2348] <;> decide +kernel) ?_
    refine go_ltl (y := 45) (by rw [hl_2348] <;> decide +kernel) (fun y18_1 hy_2350 => ?_)
    refine go_n (by rw [hl_2347] <;> decide +kernel) ?_
    refine go_n (by rw [hy_2350] <;> decide +kernel) ?_
    refine go_bd (c := 9) (S := Sq_221) (k_type (show _ = nI 45 by rw [hy_2350] <;> decide +kernel) (Nat.le_of_ble_eq_true rfl) K_2273 (by decide +kernel)) (fun r_35 hr_2351 K_2352 => ?_)
    refine go_n (by rw [hr_2351] <;> decide +kernel) ?_
    rw [hs_2349]
    refine go_u2 (n := 8185) (a0 := 1) (qi_lit 1) (a1 := 8) (show _ = nI 8 by rw [hl_2348] <;> decide +kernel) (fun self6 hs_2355 x3_6 hl_2353 x4_6 hl_2354 => ?_)
    unfold L_L_types_6
    refine go_n (by rw [hl_2354] <;> decide +kernel) ?_
    refine go_ltl (y := 57) (by rw [hl_2354] <;> decide +kernel) (fun y18_1 hy_2356 => ?_)
    refine go_n (by rw [hl_2353] <;> decide +kernel) ?_
    refine go_n (by rw [hy_2356] <;> decide +kernel) ?_
    refine go_bd (c := 10) (S := Sq_222) (k_type (show _ = nI 57 by rw [hy_2356] <;> decide +kernel) (Nat.le_of_ble_eq_true rfl) K_2352 (by decide +kernel)) (fun r_35 hr_2357 K_2358 => ?_)
    refine go_n (by rw [hr_2357] <;> decide +kernel) ?_
    rw [hs_2355]
    refine go_u2 (n := 8184) (a0 := 1) (qi_lit 1) (a1 := 0) (show _ = nI 0 by rw [hl_2354] <;> decide +kernel) (fun self6 hs_2361 x3_6 hl_2359 x4_6 hl_2360 => ?_)
    unfold L_L_types_6
    refine go_n (by rw [hl_2360] <;> decide +kernel) ?_
    refine go_ltl (y := 57) (by rw [hl_2360] <;> decide +kernel) (fun y18_1 hy_2362 => ?_)
    refine go_n (by rw [hl_2359] <;> decide +kernel) ?_
    refine go_n (by rw [hy_2362] <;> decide +kernel) ?_
    refine go_bd (c := 11) (S := Sq_223) (k_type (show _ = nI 57 by rw [hy_2362] <;> decide +kernel) (Nat.le_of_ble_eq_true rfl) K_2358 (by decide +kernel)) (fun r_35 hr_2363 K_2364 => ?_)
    refine go_n (by rw [hr_2363] <;> decide +kernel) ?_
    rw [hs_2361]
    refine go_u2 (n := 8183) (a0 := 1) (qi_lit 1) (a1 := 4294967288) (show _ = nI 4294967288 by rw [hl_2360] <;> decide +kernel) (fun self6 hs_2367 x3_6 hl_2365 x4_6 hl_2366 => ?_)
    unfold L_L_types_6
    refine go_p (by rw [hl_2366] <;> decide +kernel) ?_
    refine go_z (c := 1) (by rw [hl_2365] <;> decide +kernel) (by decide) ?_
    exact go_s hl_2365 K_2364
  refine go_n (by rw [hr_2325] <;> decide +kernel) ?_
  refine go_bd (c := 1) (S := Sq_224) (k_impossibleOrder  K_2326 (by decide +kernel)) (fun r_484 hr_2368 K_2369 => ?_)
  refine go_p (by rw [hr_2368] <;> decide +kernel) ?_
  refine go_bd (c := 11) (S := Sq_225) (k_clearLetter  K_2369 (by decide +kernel)) (fun r_492 hr_2370 K_2371 => ?_)
  refine go_p (by rw [hr_2370] <;> decide +kernel) ?_
  refine go_bd (c := 1) (S := Sq_233) ?_ (fun r_504 hr_2372 K_2373 => ?_)
  · unfold f_L_types
    refine go_u2 (n := 8191) (a0 := 1) (qi_lit 1) (a1 := 56) (qi_lit 56) (fun self6 hs_2376 x3_6 hl_2374 x4_6 hl_2375 => ?_)
    unfold L_L_types_6
    refine go_n (by rw [hl_2375] <;> decide +kernel) ?_
    refine go_ltl (y := 106) (by rw [hl_2375] <;> decide +kernel) (fun y18_1 hy_2377 => ?_)
    refine go_n (by rw [hl_2374] <;> decide +kernel) ?_
    refine go_n (by rw [hy_2377] <;> decide +kernel) ?_
    refine go_bd (c := 1) (S := Sq_226) (k_type (show _ = nI 106 by rw [hy_2377] <;> decide +kernel) (Nat.le_of_ble_eq_true rfl) K_2371 (by decide +kernel)) (fun r_35 hr_2378 K_2379 => ?_)
    refine go_n (by rw [hr_2378] <;> decide +kernel) ?_
    rw [hs_2376]
    refine go_u2 (n := 8190) (a0 := 1) (qi_lit 1) (a1 := 48) (show _ = nI 48 by rw [hl_2375] <;> decide +kernel) (fun self6 hs_2382 x3_6 hl_2380 x4_6 hl_2381 => ?_)
    unfold L_L_types_6
    refine go_n (by rw [hl_2381] <;> decide +kernel) ?_
    refine go_ltl (y := 50) (by rw [hl_2381] <;> decide +kernel) (fun y18_1 hy_2383 => ?_)
    refine go_n (by rw [hl_2380] <;> decide +kernel) ?_
    refine go_n (by rw [hy_2383] <;> decide +kernel) ?_
    refine go_bd (c := 2) (S := Sq_227) (k_type (show _ = nI 50 by rw [hy_2383] <;> decide +kernel) (Nat.le_of_ble_eq_true rfl) K_2379 (by decide +kernel)) (fun r_35 hr_2384 K_2385 => ?_)
    refine go_n (by rw [hr_2384] <;> decide +kernel) ?_
    rw [hs_2382]
    refine go_u2 (n := 8189) (a0 := 1) (qi_lit 1) (a1 := 40) (show _ = nI 40 by rw [hl_2381] <;> decide +kernel) (fun self6 hs_2388 x3_6 hl_2386 x4_6 hl_2387 => ?_)
    unfold L_L_types_6
    refine go_n (by rw [hl_2387] <;> decide +kernel) ?_
    refine go_ltl (y := 48) (by rw [hl_2387] <;> decide +kernel) (fun y18_1 hy_2389 => ?_)
    refine go_n (by rw [hl_2386] <;> decide +kernel) ?_
    refine go_n (by rw [hy_2389] <;> decide +kernel) ?_
    refine go_bd (c := 3) (S := Sq_228) (k_type (show _ = nI 48 by rw [hy_2389] <;> decide +kernel) (Nat.le_of_ble_eq_true rfl) K_2385 (by decide +kernel)) (fun r_35 hr_2390 K_2391 => ?_)
    refine go_n (by rw [hr_2390] <;> decide +kernel) ?_
    rw [hs_2388]
    refine go_u2 (n := 8188) (a0 := 1) (qi_lit 1) (a1 := 32) (show _ = nI 32 by rw [hl_2387] <;> decide +kernel) (fun self6 hs_2394 x3_6 hl_2392 x4_6 hl_2393 => ?_)
    unfold L_L_types_6
    refine go_n (by rw [hl_2393] <;> decide +kernel) ?_
    refine go_ltl (y := 104) (by rw [hl_2393] <;> decide +kernel) (fun y18_1 hy_2395 => ?_)
    refine go_n (by rw [hl_2392] <;> decide +kernel) ?_
    refine go_n (by rw [hy_2395] <;> decide +kernel) ?_
    refine go_bd (c := 4) (S := Sq_229) (k_type (show _ = nI 104 by rw [hy_2395] <;> decide +kernel) (Nat.le_of_ble_eq_true rfl) K_2391 (by decide +kernel)) (fun r_35 hr_2396 K_2397 => ?_)
    refine go_n (by rw [hr_2396] <;> decide +kernel) ?_
    rw [hs_2394]
    refine go_u2 (n := 8187) (a0 := 1) (qi_lit 1) (a1 := 24) (show _ = nI 24 by rw [hl_2393] <;> decide +kernel) (fun self6 hs_2400 x3_6 hl_2398 x4_6 hl_2399 => ?_)
    unfold L_L_types_6
    refine go_n (by rw [hl_2399] <;> decide +kernel) ?_
    refine go_ltl (y := 49) (by rw [hl_2399] <;> decide +kernel) (fun y18_1 hy_2401 => ?_)
    refine go_n (by rw [hl_2398] <;> decide +kernel) ?_
    refine go_n (by rw [hy_2401] <;> decide +kernel) ?_
    refine go_bd (c := 5) (S := Sq_230) (k_type (show _ = nI 49 by rw [hy_2401] <;> decide +kernel) (Nat.le_of_ble_eq_true rfl) K_2397 (by decide +kernel)) (fun r_35 hr_2402 K_2403 => ?_)
    refine go_n (by rw [hr_2402] <;> decide +kernel) ?_
    rw [hs_2400]
    refine go_u2 (n := 8186) (a0 := 1) (qi_lit 1) (a1 := 16) (show _ = nI 16 by rw [hl_2399] <;> decide +kernel) (fun self6 hs_2406 x3_6 hl_2404 x4_6 hl_2405 => ?_)
    unfold L_L_types_6
    refine go_n (by rw [hl_2405] <;> decide +kernel) ?_
    refine go_ltl (y := 53) (by rw [hl_2405] <;> decide +kernel) (fun y18_1 hy_2407 => ?_)
    refine go_n (by rw [hl_2404] <;> decide +kernel) ?_
    refine go_n (by rw [hy_2407] <;> decide +kernel) ?_
    refine go_bd (c := 6) (S := Sq_231) (k_type (show _ = nI 53 by rw [hy_2407] <;> decide +kernel) (Nat.le_of_ble_eq_true rfl) K_2403 (by decide +kernel)) (fun r_35 hr_2408 K_2409 => ?_)
    refine go_n (by rw [hr_2408] <;> decide +kernel) ?_
    rw [hs_2406]
    refine go_u2 (n := 8185) (a0 := 1) (qi_lit 1) (a1 := 8) (show _ = nI 8 by rw [hl_2405] <;> decide +kernel) (fun self6 hs_2412 x3_6 hl_2410 x4_6 hl_2411 => ?_)
    unfold L_L_types_6
    refine go_n (by rw [hl_2411] <;> decide +kernel) ?_
    refine go_ltl (y := 48) (by rw [hl_2411] <;> decide +kernel) (fun y18_1 hy_2413 => ?_)
    refine go_n (by rw [hl_2410] <;> decide +kernel) ?_
    refine go_n (by rw [hy_2413] <;> decide +kernel) ?_
    refine go_bd (c := 7) (S := Sq_232) (k_type (show _ = nI 48 by rw [hy_2413] <;> decide +kernel) (Nat.le_of_ble_eq_true rfl) K_2409 (by decide +kernel)) (fun r_35 hr_2414 K_2415 => ?_)
    refine go_n (by rw [hr_2414] <;> decide +kernel) ?_
    rw [hs_2412]
    refine go_u2 (n := 8184) (a0 := 1) (qi_lit 1) (a1 := 0) (show _ = nI 0 by rw [hl_2411] <;> decide +kernel) (fun self6 hs_2418 x3_6 hl_2416 x4_6 hl_2417 => ?_)
    unfold L_L_types_6
    refine go_n (by rw [hl_2417] <;> decide +kernel) ?_
    refine go_ltl (y := 114) (by rw [hl_2417] <;> decide +kernel) (fun y18_1 hy_2419 => ?_)
    refine go_n (by rw [hl_2416] <;> decide +kernel) ?_
    refine go_n (by rw [hy_2419] <;> decide +kernel) ?_
    refine go_bd (c := 8) (S := Sq_233) (k_type (show _ = nI 114 by rw [hy_2419] <;> decide +kernel) (Nat.le_of_ble_eq_true rfl) K_2415 (by decide +kernel)) (fun r_35 hr_2420 K_2421 => ?_)
    refine go_n (by rw [hr_2420] <;> decide +kernel) ?_
    rw [hs_2418]
    refine go_u2 (n := 8183) (a0 := 1) (qi_lit 1) (a1 := 4294967288) (show _ = nI 4294967288 by rw [hl_2417] <;> decide +kernel) (fun self6 hs_2424 x3_6 hl_2422 x4_6 hl_2423 => ?_)
    unfold L_L_types_6
    refine go_p (by rw [hl_2423] <;> decide +kernel) ?_
    refine go_z (c := 1) (by rw [hl_2422] <;> decide +kernel) (by decide) ?_
    exact go_s hl_2422 K_2421
  refine go_n (by rw [hr_2372] <;> decide +kernel) ?_
  refine go_bd (c := 1) (S := Sq_236) ?_ (fun r_514 hr_2425 K_2426 => ?_)
  · unfold f_L_types
    refine go_u2 (n := 8191) (a0 := 1) (qi_lit 1) (a1 := 56) (qi_lit 56) (fun self6 hs_2429 x3_6 hl_2427 x4_6 hl_2428 => ?_)
    unfold L_L_types_6
    refine go_n (by rw [hl_2428] <;> decide +kernel) ?_
    refine go_ltl (y := 0) (by rw [hl_2428] <;> decide +kernel) (fun y18_1 hy_2430 => ?_)
    refine go_n (by rw [hl_2427] <;> decide +kernel) ?_
    refine go_p (by rw [hy_2430] <;> decide +kernel) ?_
    rw [hs_2429]
    refine go_u2 (n := 8190) (a0 := 1) (qi_lit 1) (a1 := 48) (show _ = nI 48 by rw [hl_2428] <;> decide +kernel) (fun self6 hs_2433 x3_6 hl_2431 x4_6 hl_2432 => ?_)
    unfold L_L_types_6
    refine go_n (by rw [hl_2432] <;> decide +kernel) ?_
    refine go_ltl (y := 0) (by rw [hl_2432] <;> decide +kernel) (fun y18_1 hy_2434 => ?_)
    refine go_n (by rw [hl_2431] <;> decide +kernel) ?_
    refine go_p (by rw [hy_2434] <;> decide +kernel) ?_
    rw [hs_2433]
    refine go_u2 (n := 8189) (a0 := 1) (qi_lit 1) (a1 := 40) (show _ = nI 40 by rw [hl_2432] <;> decide +kernel) (fun self6 hs_2437 x3_6 hl_2435 x4_6 hl_2436 => ?_)
    unfold L_L_types_6
    refine go_n (by rw [hl_2436] <;> decide +kernel) ?_
    refine go_ltl (y := 0) (by rw [hl_2436] <;> decide +kernel) (fun y18_1 hy_2438 => ?_)
    refine go_n (by rw [hl_2435] <;> decide +kernel) ?_
    refine go_p (by rw [hy_2438] <;> decide +kernel) ?_
    rw [hs_2437]
    refine go_u2 (n := 8188) (a0 := 1) (qi_lit 1) (a1 := 32) (show _ = nI 32 by rw [hl_2436] <;> decide +kernel) (fun self6 hs_2441 x3_6 hl_2439 x4_6 hl_2440 => ?_)
    unfold L_L_types_6
    refine go_n (by rw [hl_2440] <;> decide +kernel) ?_
    refine go_ltl (y := 0) (by rw [hl_2440] <;> decide +kernel) (fun y18_1 hy_2442 => ?_)
    refine go_n (by rw [hl_2439] <;> decide +kernel) ?_
    refine go_p (by rw [hy_2442] <;> decide +kernel) ?_
    rw [hs_2441]
    refine go_u2 (n := 8187) (a0 := 1) (qi_lit 1) (a1 := 24) (show _ = nI 24 by rw [hl_2440] <;> decide +kernel) (fun self6 hs_2445 x3_6 hl_2443 x4_6 hl_2444 => ?_)
    unfold L_L_types_6
    refine go_n (by rw [hl_2444] <;> decide +kernel) ?_
    refine go_ltl (y := 0) (by rw [hl_2444] <;> decide +kernel) (fun y18_1 hy_2446 => ?_)
    refine go_n (by rw [hl_2443] <;> decide +kernel) ?_
    refine go_p (by rw [hy_2446] <;> decide +kernel) ?_
    rw [hs_2445]
    refine go_u2 (n := 8186) (a0 := 1) (qi_lit 1) (a1 := 16) (show _ = nI 16 by rw [hl_2444] <;> decide +kernel) (fun self6 hs_2449 x3_6 hl_2447 x4_6 hl_2448 => ?_)
    unfold L_L_types_6
    refine go_n (by rw [hl_2448] <;> decide +kernel) ?_
    refine go_ltl (y := 57) (by rw [hl_2448] <;> decide +kernel) (fun y18_1 hy_2450 => ?_)
    refine go_n (by rw [hl_2447] <;> decide +kernel) ?_
    refine go_n (by rw [hy_2450] <;> decide +kernel) ?_
    refine go_bd (c := 9) (S := Sq_234) (k_type (show _ = nI 57 by rw [hy_2450] <;> decide +kernel) (Nat.le_of_ble_eq_true rfl) K_2373 (by decide +kernel)) (fun r_35 hr_2451 K_2452 => ?_)
    refine go_n (by rw [hr_2451] <;> decide +kernel) ?_
    rw [hs_2449]
    refine go_u2 (n := 8185) (a0 := 1) (qi_lit 1) (a1 := 8) (show _ = nI 8 by rw [hl_2448] <;> decide +kernel) (fun self6 hs_2455 x3_6 hl_2453 x4_6 hl_2454 => ?_)
    unfold L_L_types_6
    refine go_n (by rw [hl_2454] <;> decide +kernel) ?_
    refine go_ltl (y := 45) (by rw [hl_2454] <;> decide +kernel) (fun y18_1 hy_2456 => ?_)
    refine go_n (by rw [hl_2453] <;> decide +kernel) ?_
    refine go_n (by rw [hy_2456] <;> decide +kernel) ?_
    refine go_bd (c := 10) (S := Sq_235) (k_type (show _ = nI 45 by rw [hy_2456] <;> decide +kernel) (Nat.le_of_ble_eq_true rfl) K_2452 (by decide +kernel)) (fun r_35 hr_2457 K_2458 => ?_)
    refine go_n (by rw [hr_2457] <;> decide +kernel) ?_
    rw [hs_2455]
    refine go_u2 (n := 8184) (a0 := 1) (qi_lit 1) (a1 := 0) (show _ = nI 0 by rw [hl_2454] <;> decide +kernel) (fun self6 hs_2461 x3_6 hl_2459 x4_6 hl_2460 => ?_)
    unfold L_L_types_6
    refine go_n (by rw [hl_2460] <;> decide +kernel) ?_
    refine go_ltl (y := 56) (by rw [hl_2460] <;> decide +kernel) (fun y18_1 hy_2462 => ?_)
    refine go_n (by rw [hl_2459] <;> decide +kernel) ?_
    refine go_n (by rw [hy_2462] <;> decide +kernel) ?_
    refine go_bd (c := 11) (S := Sq_236) (k_type (show _ = nI 56 by rw [hy_2462] <;> decide +kernel) (Nat.le_of_ble_eq_true rfl) K_2458 (by decide +kernel)) (fun r_35 hr_2463 K_2464 => ?_)
    refine go_n (by rw [hr_2463] <;> decide +kernel) ?_
    rw [hs_2461]
    refine go_u2 (n := 8183) (a0 := 1) (qi_lit 1) (a1 := 4294967288) (show _ = nI 4294967288 by rw [hl_2460] <;> decide +kernel) (fun self6 hs_2467 x3_6 hl_2465 x4_6 hl_2466 => ?_)
    unfold L_L_types_6
    refine go_p (by rw [hl_2466] <;> decide +kernel) ?_
    refine go_z (c := 1) (by rw [hl_2465] <;> decide +kernel) (by decide) ?_
    exact go_s hl_2465 K_2464
  refine go_n (by rw [hr_2425] <;> decide +kernel) ?_
  refine go_bd (c := 4294967295) (S := Sq_237) (k_letterError  K_2426 (by decide +kernel)) (fun r_521 hr_2468 K_2469 => ?_)
  refine go_p (by rw [hr_2468] <;> decide +kernel) ?_
  refine go_bd (c := 0) (S := Sq_238) (k_impossibleOrder  K_2469 (by decide +kernel)) (fun r_529 hr_2470 K_2471 => ?_)
  refine go_p (by rw [hr_2470] <;> decide +kernel) ?_
  refine go_bd (c := 11) (S := Sq_239) (k_clearLetter  K_2471 (by decide +kernel)) (fun r_536 hr_2472 K_2473 => ?_)
  refine go_p (by rw [hr_2472] <;> decide +kernel) ?_
  refine go_bd (c := 1) (S := Sq_247) ?_ (fun r_548 hr_2474 K_2475 => ?_)
  · unfold f_L_types
    refine go_u2 (n := 8191) (a0 := 1) (qi_lit 1) (a1 := 56) (qi_lit 56) (fun self6 hs_2478 x3_6 hl_2476 x4_6 hl_2477 => ?_)
    unfold L_L_types_6
    refine go_n (by rw [hl_2477] <;> decide +kernel) ?_
    refine go_ltl (y := 111) (by rw [hl_2477] <;> decide +kernel) (fun y18_1 hy_2479 => ?_)
    refine go_n (by rw [hl_2476] <;> decide +kernel) ?_
    refine go_n (by rw [hy_2479] <;> decide +kernel) ?_
    refine go_bd (c := 1) (S := Sq_240) (k_type (show _ = nI 111 by rw [hy_2479] <;> decide +kernel) (Nat.le_of_ble_eq_true rfl) K_2473 (by decide +kernel)) (fun r_35 hr_2480 K_2481 => ?_)
    refine go_n (by rw [hr_2480] <;> decide +kernel) ?_
    rw [hs_2478]
    refine go_u2 (n := 8190) (a0 := 1) (qi_lit 1) (a1 := 48) (show _ = nI 48 by rw [hl_2477] <;> decide +kernel) (fun self6 hs_2484 x3_6 hl_2482 x4_6 hl_2483 => ?_)
    unfold L_L_types_6
    refine go_n (by rw [hl_2483] <;> decide +kernel) ?_
    refine go_ltl (y := 48) (by rw [hl_2483] <;> decide +kernel) (fun y18_1 hy_2485 => ?_)
    refine go_n (by rw [hl_2482] <;> decide +kernel) ?_
    refine go_n (by rw [hy_2485] <;> decide +kernel) ?_
    refine go_bd (c := 2) (S := Sq_241) (k_type (show _ = nI 48 by rw [hy_2485] <;> decide +kernel) (Nat.le_of_ble_eq_true rfl) K_2481 (by decide +kernel)) (fun r_35 hr_2486 K_2487 => ?_)
    refine go_n (by rw [hr_2486] <;> decide +kernel) ?_
    rw [hs_2484]
    refine go_u2 (n := 8189) (a0 := 1) (qi_lit 1) (a1 := 40) (show _ = nI 40 by rw [hl_2483] <;> decide +kernel) (fun self6 hs_2490 x3_6 hl_2488 x4_6 hl_2489 => ?_)
    unfold L_L_types_6
    refine go_n (by rw [hl_2489] <;> decide +kernel) ?_
    refine go_ltl (y := 62) (by rw [hl_2489] <;> decide +kernel) (fun y18_1 hy_2491 => ?_)
    refine go_n (by rw [hl_2488] <;> decide +kernel) ?_
    refine go_n (by rw [hy_2491] <;> decide +kernel) ?_
    refine go_bd (c := 3) (S := Sq_242) (k_type (show _ = nI 62 by rw [hy_2491] <;> decide +kernel) (Nat.le_of_ble_eq_true rfl) K_2487 (by decide +kernel)) (fun r_35 hr_2492 K_2493 => ?_)
    refine go_n (by rw [hr_2492] <;> decide +kernel) ?_
    rw [hs_2490]
    refine go_u2 (n := 8188) (a0 := 1) (qi_lit 1) (a1 := 32) (show _ = nI 32 by rw [hl_2489] <;> decide +kernel) (fun self6 hs_2496 x3_6 hl_2494 x4_6 hl_2495 => ?_)
    unfold L_L_types_6
    refine go_n (by rw [hl_2495] <;> decide +kernel) ?_
    refine go_ltl (y := 51) (by rw [hl_2495] <;> decide +kernel) (fun y18_1 hy_2497 => ?_)
    refine go_n (by rw [hl_2494] <;> decide +kernel) ?_
    refine go_n (by rw [hy_2497] <;> decide +kernel) ?_
    refine go_bd (c := 4) (S := Sq_243) (k_type (show _ = nI 51 by rw [hy_2497] <;> decide +kernel) (Nat.le_of_ble_eq_true rfl) K_2493 (by decide +kernel)) (fun r_35 hr_2498 K_2499 => ?_)
    refine go_n (by rw [hr_2498] <;> decide +kernel) ?_
    rw [hs_2496]
    refine go_u2 (n := 8187) (a0 := 1) (qi_lit 1) (a1 := 24) (show _ = nI 24 by rw [hl_2495] <;> decide +kernel) (fun self6 hs_2502 x3_6 hl_2500 x4_6 hl_2501 => ?_)
    unfold L_L_types_6
    refine go_n (by rw [hl_2501] <;> decide +kernel) ?_
    refine go_ltl (y := 43) (by rw [hl_2501] <;> decide +kernel) (fun y18_1 hy_2503 => ?_)
    refine go_n (by rw [hl_2500] <;> decide +kernel) ?_
    refine go_n (by rw [hy_2503] <;> decide +kernel) ?_
    refine go_bd (c := 5) (S := Sq_244) (k_type (show _ = nI 43 by rw [hy_2503] <;> decide +kernel) (Nat.le_of_ble_eq_true rfl) K_2499 (by decide +kernel)) (fun r_35 hr_2504 K_2505 => ?_)
    refine go_n (by rw [hr_2504] <;> decide +kernel) ?_
    rw [hs_2502]
    refine go_u2 (n := 8186) (a0 := 1) (qi_lit 1) (a1 := 16) (show _ = nI 16 by rw [hl_2501] <;> decide +kernel) (fun self6 hs_2508 x3_6 hl_2506 x4_6 hl_2507 => ?_)
    unfold L_L_types_6
    refine go_n (by rw [hl_2507] <;> decide +kernel) ?_
    refine go_ltl (y := 53) (by rw [hl_2507] <;> decide +kernel) (fun y18_1 hy_2509 => ?_)
    refine go_n (by rw [hl_2506] <;> decide +kernel) ?_
    refine go_n (by rw [hy_2509] <;> decide +kernel) ?_
    refine go_bd (c := 6) (S := Sq_245) (k_type (show _ = nI 53 by rw [hy_2509] <;> decide +kernel) (Nat.le_of_ble_eq_true rfl) K_2505 (by decide +kernel)) (fun r_35 hr_2510 K_2511 => ?_)
    refine go_n (by rw [hr_2510] <;> decide +kernel) ?_
    rw [hs_2508]
    refine go_u2 (n := 8185) (a0 := 1) (qi_lit 1) (a1 := 8) (show _ = nI 8 by rw [hl_2507] <;> decide +kernel) (fun self6 hs_2514 x3_6 hl_2512 x4_6 hl_2513 => ?_)
    unfold L_L_types_6
    refine go_n (by rw [hl_2513] <;> decide +kernel) ?_
    refine go_ltl (y := 59) (by rw [hl_2513] <;> decide +kernel) (fun y18_1 hy_2515 => ?_)
    refine go_n (by rw [hl_2512] <;> decide +kernel) ?_
    refine go_n (by rw [hy_2515] <;> decide +kernel) ?_
    refine go_bd (c := 7) (S := Sq_246) (k_type (show _ = nI 59 by rw [hy_2515] <;> decide +kernel) (Nat.le_of_ble_eq_true rfl) K_2511 (by decide +kernel)) (fun r_35 hr_2516 K_2517 => ?_)
    refine go_n (by rw [hr_2516] <;> decide +kernel) ?_
    rw [hs_2514]
    refine go_u2 (n := 8184) (a0 := 1) (qi_lit 1) (a1 := 0) (show _ = nI 0 by rw [hl_2513] <;> decide +kernel) (fun self6 hs_2520 x3_6 hl_2518 x4_6 hl_2519 => ?_)
    unfold L_L_types_6
    refine go_n (by rw [hl_2519] <;> decide +kernel) ?_
    refine go_ltl (y := 110) (by rw [hl_2519] <;> decide +kernel) (fun y18_1 hy_2521 => ?_)
    refine go_n (by rw [hl_2518] <;> decide +kernel) ?_
    refine go_n (by rw [hy_2521] <;> decide +kernel) ?_
    refine go_bd (c := 8) (S := Sq_247) (k_type (show _ = nI 110 by rw [hy_2521] <;> decide +kernel) (Nat.le_of_ble_eq_true rfl) K_2517 (by decide +kernel)) (fun r_35 hr_2522 K_2523 => ?_)
    refine go_n (by rw [hr_2522] <;> decide +kernel) ?_
    rw [hs_2520]
    refine go_u2 (n := 8183) (a0 := 1) (qi_lit 1) (a1 := 4294967288) (show _ = nI 4294967288 by rw [hl_2519] <;> decide +kernel) (fun self6 hs_2526 x3_6 hl_2524 x4_6 hl_2525 => ?_)
    unfold L_L_types_6
    refine go_p (by rw [hl_2525] <;> decide +kernel) ?_
    refine go_z (c := 1) (by rw [hl_2524] <;> decide +kernel) (by decide) ?_
    exact go_s hl_2524 K_2523
  refine go_n (by rw [hr_2474] <;> decide +kernel) ?_
  refine go_bd (c := 1) (S := Sq_255) ?_ (fun r_558 hr_2527 K_2528 => ?_)
  · unfold f_L_types
    refine go_u2 (n := 8191) (a0 := 1) (qi_lit 1) (a1 := 56) (qi_lit 56) (fun self6 hs_2531 x3_6 hl_2529 x4_6 hl_2530 => ?_)
    unfold L_L_types_6
    refine go_n (by rw [hl_2530] <;> decide +kernel) ?_
    refine go_ltl (y := 48) (by rw [hl_2530] <;> decide +kernel) (fun y18_1 hy_2532 => ?_)
    refine go_n (by rw [hl_2529] <;> decide +kernel) ?_
    refine go_n (by rw [hy_2532] <;> decide +kernel) ?_
    refine go_bd (c := 9) (S := Sq_248) (k_type (show _ = nI 48 by rw [hy_2532] <;> decide +kernel) (Nat.le_of_ble_eq_true rfl) K_2475 (by decide +kernel)) (fun r_35 hr_2533 K_2534 => ?_)
    refine go_n (by rw [hr_2533] <;> decide +kernel) ?_
    rw [hs_2531]
    refine go_u2 (n := 8190) (a0 := 1) (qi_lit 1) (a1 := 48) (show _ = nI 48 by rw [hl_2530] <;> decide +kernel) (fun self6 hs_2537 x3_6 hl_2535 x4_6 hl_2536 => ?_)
    unfold L_L_types_6
    refine go_n (by rw [hl_2536] <;> decide +kernel) ?_
    refine go_ltl (y := 58) (by rw [hl_2536] <;> decide +kernel) (fun y18_1 hy_2538 => ?_)
    refine go_n (by rw [hl_2535] <;> decide +kernel) ?_
    refine go_n (by rw [hy_2538] <;> decide +kernel) ?_
    refine go_bd (c := 10) (S := Sq_249) (k_type (show _ = nI 58 by rw [hy_2538] <;> decide +kernel) (Nat.le_of_ble_eq_true rfl) K_2534 (by decide +kernel)) (fun r_35 hr_2539 K_2540 => ?_)
    refine go_n (by rw [hr_2539] <;> decide +kernel) ?_
    rw [hs_2537]
    refine go_u2 (n := 8189) (a0 := 1) (qi_lit 1) (a1 := 40) (show _ = nI 40 by rw [hl_2536] <;> decide +kernel) (fun self6 hs_2543 x3_6 hl_2541 x4_6 hl_2542 => ?_)
    unfold L_L_types_6
    refine go_n (by rw [hl_2542] <;> decide +kernel) ?_
    refine go_ltl (y := 49) (by rw [hl_2542] <;> decide +kernel) (fun y18_1 hy_2544 => ?_)
    refine go_n (by rw [hl_2541] <;> decide +kernel) ?_
    refine go_n (by rw [hy_2544] <;> decide +kernel) ?_
    refine go_bd (c := 11) (S := Sq_250) (k_type (show _ = nI 49 by rw [hy_2544] <;> decide +kernel) (Nat.le_of_ble_eq_true rfl) K_2540 (by decide +kernel)) (fun r_35 hr_2545 K_2546 => ?_)
    refine go_n (by rw [hr_2545] <;> decide +kernel) ?_
    rw [hs_2543]
    refine go_u2 (n := 8188) (a0 := 1) (qi_lit 1) (a1 := 32) (show _ = nI 32 by rw [hl_2542] <;> decide +kernel) (fun self6 hs_2549 x3_6 hl_2547 x4_6 hl_2548 => ?_)
    unfold L_L_types_6
    refine go_n (by rw [hl_2548] <;> decide +kernel) ?_
    refine go_ltl (y := 49) (by rw [hl_2548] <;> decide +kernel) (fun y18_1 hy_2550 => ?_)
    refine go_n (by rw [hl_2547] <;> decide +kernel) ?_
    refine go_n (by rw [hy_2550] <;> decide +kernel) ?_
    refine go_bd (c := 12) (S := Sq_251) (k_type (show _ = nI 49 by rw [hy_2550] <;> decide +kernel) (Nat.le_of_ble_eq_true rfl) K_2546 (by decide +kernel)) (fun r_35 hr_2551 K_2552 => ?_)
    refine go_n (by rw [hr_2551] <;> decide +kernel) ?_
    rw [hs_2549]
    refine go_u2 (n := 8187) (a0 := 1) (qi_lit 1) (a1 := 24) (show _ = nI 24 by rw [hl_2548] <;> decide +kernel) (fun self6 hs_2555 x3_6 hl_2553 x4_6 hl_2554 => ?_)
    unfold L_L_types_6
    refine go_n (by rw [hl_2554] <;> decide +kernel) ?_
    refine go_ltl (y := 45) (by rw [hl_2554] <;> decide +kernel) (fun y18_1 hy_2556 => ?_)
    refine go_n (by rw [hl_2553] <;> decide +kernel) ?_
    refine go_n (by rw [hy_2556] <;> decide +kernel) ?_
    refine go_bd (c := 13) (S := Sq_252) (k_type (show _ = nI 45 by rw [hy_2556] <;> decide +kernel) (Nat.le_of_ble_eq_true rfl) K_2552 (by decide +kernel)) (fun r_35 hr_2557 K_2558 => ?_)
    refine go_n (by rw [hr_2557] <;> decide +kernel) ?_
    rw [hs_2555]
    refine go_u2 (n := 8186) (a0 := 1) (qi_lit 1) (a1 := 16) (show _ = nI 16 by rw [hl_2554] <;> decide +kernel) (fun self6 hs_2561 x3_6 hl_2559 x4_6 hl_2560 => ?_)
    unfold L_L_types_6
    refine go_n (by rw [hl_2560] <;> decide +kernel) ?_
    refine go_ltl (y := 55) (by rw [hl_2560] <;> decide +kernel) (fun y18_1 hy_2562 => ?_)
    refine go_n (by rw [hl_2559] <;> decide +kernel) ?_
    refine go_n (by rw [hy_2562] <;> decide +kernel) ?_
    refine go_bd (c := 14) (S := Sq_253) (k_type (show _ = nI 55 by rw [hy_2562] <;> decide +kernel) (Nat.le_of_ble_eq_true rfl) K_2558 (by decide +kernel)) (fun r_35 hr_2563 K_2564 => ?_)
    refine go_n (by rw [hr_2563] <;> decide +kernel) ?_
    rw [hs_2561]
    refine go_u2 (n := 8185) (a0 := 1) (qi_lit 1) (a1 := 8) (show _ = nI 8 by rw [hl_2560] <;> decide +kernel) (fun self6 hs_2567 x3_6 hl_2565 x4_6 hl_2566 => ?_)
    unfold L_L_types_6
    refine go_n (by rw [hl_2566] <;> decide +kernel) ?_
    refine go_ltl (y := 49) (by rw [hl_2566] <;> decide +kernel) (fun y18_1 hy_2568 => ?_)
    refine go_n (by rw [hl_2565] <;> decide +kernel) ?_
    refine go_n (by rw [hy_2568] <;> decide +kernel) ?_
    refine go_bd (c := 15) (S := Sq_254) (k_type (show _ = nI 49 by rw [hy_2568] <;> decide +kernel) (Nat.le_of_ble_eq_true rfl) K_2564 (by decide +kernel)) (fun r_35 hr_2569 K_2570 => ?_)
    refine go_n (by rw [hr_2569] <;> decide +kernel) ?_
    rw [hs_2567]
    refine go_u2 (n := 8184) (a0 := 1) (qi_lit 1) (a1 := 0) (show _ = nI 0 by rw [hl_2566] <;> decide +kernel) (fun self6 hs_2573 x3_6 hl_2571 x4_6 hl_2572 => ?_)
    unfold L_L_types_6
    refine go_n (by rw [hl_2572] <;> decide +kernel) ?_
    refine go_ltl (y := 59) (by rw [hl_2572] <;> decide +kernel) (fun y18_1 hy_2574 => ?_)
    refine go_n (by rw [hl_2571] <;> decide +kernel) ?_
    refine go_n (by rw [hy_2574] <;> decide +kernel) ?_
    refine go_bd (c := 16) (S := Sq_255) (k_type (show _ = nI 59 by rw [hy_2574] <;> decide +kernel) (Nat.le_of_ble_eq_true rfl) K_2570 (by decide +kernel)) (fun r_35 hr_2575 K_2576 => ?_)
    refine go_n (by rw [hr_2575] <;> decide +kernel) ?_
    rw [hs_2573]
    refine go_u2 (n := 8183) (a0 := 1) (qi_lit 1) (a1 := 4294967288) (show _ = nI 4294967288 by rw [hl_2572] <;> decide +kernel) (fun self6 hs_2579 x3_6 hl_2577 x4_6 hl_2578 => ?_)
    unfold L_L_types_6
    refine go_p (by rw [hl_2578] <;> decide +kernel) ?_
    refine go_z (c := 1) (by rw [hl_2577] <;> decide +kernel) (by decide) ?_
    exact go_s hl_2577 K_2576
  refine go_n (by rw [hr_2527] <;> decide +kernel) ?_
  refine go_bd (c := 1) (S := Sq_257) ?_ (fun r_568 hr_2580 K_2581 => ?_)
  · unfold f_L_types
    refine go_u2 (n := 8191) (a0 := 1) (qi_lit 1) (a1 := 56) (qi_lit 56) (fun self6 hs_2584 x3_6 hl_2582 x4_6 hl_2583 => ?_)
    unfold L_L_types_6
    refine go_n (by rw [hl_2583] <;> decide +kernel) ?_
    refine go_ltl (y := 0) (by rw [hl_2583] <;> decide +kernel) (fun y18_1 hy_2585 => ?_)
    refine go_n (by rw [hl_2582] <;> decide +kernel) ?_
    refine go_p (by rw [hy_2585] <;> decide +kernel) ?_
    rw [hs_2584]
    refine go_u2 (n := 8190) (a0 := 1) (qi_lit 1) (a1 := 48) (show _ = nI 48 by rw [hl_2583] <;> decide +kernel) (fun self6 hs_2588 x3_6 hl_2586 x4_6 hl_2587 => ?_)
    unfold L_L_types_6
    refine go_n (by rw [hl_2587] <;> decide +kernel) ?_
    refine go_ltl (y := 0) (by rw [hl_2587] <;> decide +kernel) (fun y18_1 hy_2589 => ?_)
    refine go_n (by rw [hl_2586] <;> decide +kernel) ?_
    refine go_p (by rw [hy_2589] <;> decide +kernel) ?_
    rw [hs_2588]
    refine go_u2 (n := 8189) (a0 := 1) (qi_lit 1) (a1 := 40) (show _ = nI 40 by rw [hl_2587] <;> decide +kernel) (fun self6 hs_2592 x3_6 hl_2590 x4_6 hl_2591 => ?_)
    unfold L_L_types_6
    refine go_n (by rw [hl_2591] <;> decide +kernel) ?_
    refine go_ltl (y := 0) (by rw [hl_2591] <;> decide +kernel) (fun y18_1 hy_2593 => ?_)
    refine go_n (by rw [hl_2590] <;> decide +kernel) ?_
    refine go_p (by rw [hy_2593] <;> decide +kernel) ?_
    rw [hs_2592]
    refine go_u2 (n := 8188) (a0 := 1) (qi_lit 1) (a1 := 32) (show _ = nI 32 by rw [hl_2591] <;> decide +kernel) (fun self6 hs_2596 x3_6 hl_2594 x4_6 hl_2595 => ?_)
    unfold L_L_types_6
    refine go_n (by rw [hl_2595] <;> decide +kernel) ?_
    refine go_ltl (y := 0) (by rw [hl_2595] <;> decide +kernel) (fun y18_1 hy_2597 => ?_)
    refine go_n (by rw [hl_2594] <;> decide +kernel) ?_
    refine go_p (by rw [hy_2597] <;> decide +kernel) ?_
    rw [hs_2596]
    refine go_u2 (n := 8187) (a0 := 1) (qi_lit 1) (a1 := 24) (show _ = nI 24 by rw [hl_2595] <;> decide +kernel) (fun self6 hs_2600 x3_6 hl_2598 x4_6 hl_2599 => ?_)
    unfold L_L_types_6
    refine go_n (by rw [hl_2599] <;> decide +kernel) ?_
    refine go_ltl (y := 0) (by rw [hl_2599] <;> decide +kernel) (fun y18_1 hy_2601 => ?_)
    refine go_n (by rw [hl_2598] <;> decide +kernel) ?_
    refine go_p (by rw [hy_2601] <;> decide +kernel) ?_
    rw [hs_2600]
    refine go_u2 (n := 8186) (a0 := 1) (qi_lit 1) (a1 := 16) (show _ = nI 16 by rw [hl_2599] <;> decide +kernel) (fun self6 hs_2604 x3_6 hl_2602 x4_6 hl_2603 => ?_)
    unfold L_L_types_6
    refine go_n (by rw [hl_2603] <;> decide +kernel) ?_
    refine go_ltl (y := 0) (by rw [hl_2603] <;> decide +kernel) (fun y18_1 hy_2605 => ?_)
    refine go_n (by rw [hl_2602] <;> decide +kernel) ?_
    refine go_p (by rw [hy_2605] <;> decide +kernel) ?_
    rw [hs_2604]
    refine go_u2 (n := 8185) (a0 := 1) (qi_lit 1) (a1 := 8) (show _ = nI 8 by rw [hl_2603] <;> decide +kernel) (fun self6 hs_2608 x3_6 hl_2606 x4_6 hl_2607 => ?_)
    unfold L_L_types_6
    refine go_n (by rw [hl_2607] <;> decide +kernel) ?_
    refine go_ltl (y := 120) (by rw [hl_2607] <;> decide +kernel) (fun y18_1 hy_2609 => ?_)
    refine go_n (by rw [hl_2606] <;> decide +kernel) ?_
    refine go_n (by rw [hy_2609] <;> decide +kernel) ?_
    refine go_bd (c := 17) (S := Sq_256) (k_type (show _ = nI 120 by rw [hy_2609] <;> decide +kernel) (Nat.le_of_ble_eq_true rfl) K_2528 (by decide +kernel)) (fun r_35 hr_2610 K_2611 => ?_)
    refine go_n (by rw [hr_2610] <;> decide +kernel) ?_
    rw [hs_2608]
    refine go_u2 (n := 8184) (a0 := 1) (qi_lit 1) (a1 := 0) (show _ = nI 0 by rw [hl_2607] <;> decide +kernel) (fun self6 hs_2614 x3_6 hl_2612 x4_6 hl_2613 => ?_)
    unfold L_L_types_6
    refine go_n (by rw [hl_2613] <;> decide +kernel) ?_
    refine go_ltl (y := 48) (by rw [hl_2613] <;> decide +kernel) (fun y18_1 hy_2615 => ?_)
    refine go_n (by rw [hl_2612] <;> decide +kernel) ?_
    refine go_n (by rw [hy_2615] <;> decide +kernel) ?_
    refine go_bd (c := 18) (S := Sq_257) (k_type (show _ = nI 48 by rw [hy_2615] <;> decide +kernel) (Nat.le_of_ble_eq_true rfl) K_2611 (by decide +kernel)) (fun r_35 hr_2616 K_2617 => ?_)
    refine go_n (by rw [hr_2616] <;> decide +kernel) ?_
    rw [hs_2614]
    refine go_u2 (n := 8183) (a0 := 1) (qi_lit 1) (a1 := 4294967288) (show _ = nI 4294967288 by rw [hl_2613] <;> decide +kernel) (fun self6 hs_2620 x3_6 hl_2618 x4_6 hl_2619 => ?_)
    unfold L_L_types_6
    refine go_p (by rw [hl_2619] <;> decide +kernel) ?_
    refine go_z (c := 1) (by rw [hl_2618] <;> decide +kernel) (by decide) ?_
    exact go_s hl_2618 K_2617
  refine go_n (by rw [hr_2580] <;> decide +kernel) ?_
  refine go_bd (c := 3) (S := Sq_258) (k_carryOut  K_2581 (by decide +kernel)) (fun r_575 hr_2621 K_2622 => ?_)
  refine go_p (by rw [hr_2621] <;> decide +kernel) ?_
  refine go_bd (c := 0) (S := Sq_258) (k_isInChoir (qi_lit 0) K_2622 (by decide +kernel)) (fun r_584 hr_2623 K_2624 => ?_)
  refine go_p (by rw [hr_2623] <;> decide +kernel) ?_
  refine go_bd (c := 1) (S := Sq_258) (k_isExcused (qi_lit 0) (qi_lit 71) K_2624 (by decide +kernel)) (fun r_594 hr_2625 K_2626 => ?_)
  refine go_n (by rw [hr_2625] <;> decide +kernel) ?_
  refine go_bd (c := 1) (S := Sq_258) (k_favoursOf (qi_lit 3) K_2626 (by decide +kernel)) (fun r_602 hr_2627 K_2628 => ?_)
  refine go_p (by rw [hr_2627] <;> decide +kernel) ?_
  refine go_bd (c := 1) (S := Sq_259) (k_undo  K_2628 (by decide +kernel)) (fun r_610 hr_2629 K_2630 => ?_)
  refine go_p (by rw [hr_2629] <;> decide +kernel) ?_
  refine go_bd (c := 0) (S := Sq_260) (k_undo  K_2630 (by decide +kernel)) (fun r_618 hr_2631 K_2632 => ?_)
  refine go_p (by rw [hr_2631] <;> decide +kernel) ?_
  refine go_bi (c := 0) (k_day K_2632 (by decide +kernel)) (fun r_625 hr_2633 => ?_)
  refine go_p (by rw [hr_2633] <;> decide +kernel) ?_
  refine go_bd (c := 18) (S := Sq_261) (k_clearLetter  K_2632 (by decide +kernel)) (fun r_632 hr_2634 K_2635 => ?_)
  refine go_p (by rw [hr_2634] <;> decide +kernel) ?_
  refine go_u1 (n := 8191) (a0 := 0) (qi_lit 0) (fun self644 hs_2637 x1_644 hl_2636 => ?_)
  unfold L_L_texts_644
  refine go_n (by rw [hl_2636] <;> decide +kernel) ?_
  refine go_jn (fun j676 hj_2638 => ?_)
  refine go_lt (a := 0) (show _ = nI 0 by rw [hl_2636] <;> decide +kernel) (fun y653_1 hy_2639 => ?_)
  refine go_p (by rw [hy_2639] <;> decide +kernel) ?_
  rw [hj_2638]
  refine go_bd (c := 1) (S := Sq_262) (k_type (show _ = nI 116 by decide +kernel) (Nat.le_of_ble_eq_true rfl) K_2635 (by decide +kernel)) (fun r_676 hr_2640 K_2641 => ?_)
  refine go_p (by rw [hr_2640, hl_2636] <;> decide +kernel) ?_
  rw [hs_2637]
  refine go_u1 (n := 8190) (a0 := 1) (show _ = nI 1 by rw [hl_2636] <;> decide +kernel) (fun self644 hs_2643 x1_644 hl_2642 => ?_)
  unfold L_L_texts_644
  refine go_n (by rw [hl_2642] <;> decide +kernel) ?_
  refine go_jn (fun j676 hj_2644 => ?_)
  refine go_lt (a := 1) (show _ = nI 1 by rw [hl_2642] <;> decide +kernel) (fun y653_1 hy_2645 => ?_)
  refine go_n (by rw [hy_2645] <;> decide +kernel) ?_
  refine go_lt (a := 1) (show _ = nI 1 by rw [hl_2642] <;> decide +kernel) (fun y664_2 hy_2646 => ?_)
  refine go_p (by rw [hy_2646] <;> decide +kernel) ?_
  rw [hj_2644]
  refine go_bd (c := 2) (S := Sq_263) (k_type (show _ = nI 49 by decide +kernel) (Nat.le_of_ble_eq_true rfl) K_2641 (by decide +kernel)) (fun r_676 hr_2647 K_2648 => ?_)
  refine go_p (by rw [hr_2647, hl_2642] <;> decide +kernel) ?_
  rw [hs_2643]
  refine go_u1 (n := 8189) (a0 := 2) (show _ = nI 2 by rw [hl_2642] <;> decide +kernel) (fun self644 hs_2650 x1_644 hl_2649 => ?_)
  unfold L_L_texts_644
  refine go_n (by rw [hl_2649] <;> decide +kernel) ?_
  refine go_jn (fun j676 hj_2651 => ?_)
  refine go_lt (a := 2) (show _ = nI 2 by rw [hl_2649] <;> decide +kernel) (fun y653_1 hy_2652 => ?_)
  refine go_n (by rw [hy_2652] <;> decide +kernel) ?_
  refine go_lt (a := 2) (show _ = nI 2 by rw [hl_2649] <;> decide +kernel) (fun y664_2 hy_2653 => ?_)
  refine go_n (by rw [hy_2653] <;> decide +kernel) ?_
  rw [hj_2651]
  refine go_bd (c := 3) (S := Sq_264) (k_type (show _ = nI 59 by decide +kernel) (Nat.le_of_ble_eq_true rfl) K_2648 (by decide +kernel)) (fun r_676 hr_2654 K_2655 => ?_)
  refine go_p (by rw [hr_2654, hl_2649] <;> decide +kernel) ?_
  rw [hs_2650]
  refine go_u1 (n := 8188) (a0 := 3) (show _ = nI 3 by rw [hl_2649] <;> decide +kernel) (fun self644 hs_2657 x1_644 hl_2656 => ?_)
  unfold L_L_texts_644
  refine go_n (by rw [hl_2656] <;> decide +kernel) ?_
  refine go_jn (fun j676 hj_2658 => ?_)
  refine go_lt (a := 0) (show _ = nI 0 by rw [hl_2656] <;> decide +kernel) (fun y653_1 hy_2659 => ?_)
  refine go_p (by rw [hy_2659] <;> decide +kernel) ?_
  rw [hj_2658]
  refine go_bd (c := 4) (S := Sq_265) (k_type (show _ = nI 116 by decide +kernel) (Nat.le_of_ble_eq_true rfl) K_2655 (by decide +kernel)) (fun r_676 hr_2660 K_2661 => ?_)
  refine go_p (by rw [hr_2660, hl_2656] <;> decide +kernel) ?_
  rw [hs_2657]
  refine go_u1 (n := 8187) (a0 := 4) (show _ = nI 4 by rw [hl_2656] <;> decide +kernel) (fun self644 hs_2663 x1_644 hl_2662 => ?_)
  unfold L_L_texts_644
  refine go_n (by rw [hl_2662] <;> decide +kernel) ?_
  refine go_jn (fun j676 hj_2664 => ?_)
  refine go_lt (a := 1) (show _ = nI 1 by rw [hl_2662] <;> decide +kernel) (fun y653_1 hy_2665 => ?_)
  refine go_n (by rw [hy_2665] <;> decide +kernel) ?_
  refine go_lt (a := 1) (show _ = nI 1 by rw [hl_2662] <;> decide +kernel) (fun y664_2 hy_2666 => ?_)
  refine go_p (by rw [hy_2666] <;> decide +kernel) ?_
  rw [hj_2664]
  refine go_bd (c := 5) (S := Sq_266) (k_type (show _ = nI 49 by decide +kernel) (Nat.le_of_ble_eq_true rfl) K_2661 (by decide +kernel)) (fun r_676 hr_2667 K_2668 => ?_)
  refine go_p (by rw [hr_2667, hl_2662] <;> decide +kernel) ?_
  rw [hs_2663]
  refine go_u1 (n := 8186) (a0 := 5) (show _ = nI 5 by rw [hl_2662] <;> decide +kernel) (fun self644 hs_2670 x1_644 hl_2669 => ?_)
  unfold L_L_texts_644
  refine go_n (by rw [hl_2669] <;> decide +kernel) ?_
  refine go_jn (fun j676 hj_2671 => ?_)
  refine go_lt (a := 2) (show _ = nI 2 by rw [hl_2669] <;> decide +kernel) (fun y653_1 hy_2672 => ?_)
  refine go_n (by rw [hy_2672] <;> decide +kernel) ?_
  refine go_lt (a := 2) (show _ = nI 2 by rw [hl_2669] <;> decide +kernel) (fun y664_2 hy_2673 => ?_)
  refine go_n (by rw [hy_2673] <;> decide +kernel) ?_
  rw [hj_2671]
  refine go_bd (c := 6) (S := Sq_267) (k_type (show _ = nI 59 by decide +kernel) (Nat.le_of_ble_eq_true rfl) K_2668 (by decide +kernel)) (fun r_676 hr_2674 K_2675 => ?_)
  refine go_p (by rw [hr_2674, hl_2669] <;> decide +kernel) ?_
  rw [hs_2670]
  refine go_u1 (n := 8185) (a0 := 6) (show _ = nI 6 by rw [hl_2669] <;> decide +kernel) (fun self644 hs_2677 x1_644 hl_2676 => ?_)
  unfold L_L_texts_644
  refine go_n (by rw [hl_2676] <;> decide +kernel) ?_
  refine go_jn (fun j676 hj_2678 => ?_)
  refine go_lt (a := 0) (show _ = nI 0 by rw [hl_2676] <;> decide +kernel) (fun y653_1 hy_2679 => ?_)
  refine go_p (by rw [hy_2679] <;> decide +kernel) ?_
  rw [hj_2678]
  refine go_bd (c := 7) (S := Sq_268) (k_type (show _ = nI 116 by decide +kernel) (Nat.le_of_ble_eq_true rfl) K_2675 (by decide +kernel)) (fun r_676 hr_2680 K_2681 => ?_)
  refine go_p (by rw [hr_2680, hl_2676] <;> decide +kernel) ?_
  rw [hs_2677]
  refine go_u1 (n := 8184) (a0 := 7) (show _ = nI 7 by rw [hl_2676] <;> decide +kernel) (fun self644 hs_2683 x1_644 hl_2682 => ?_)
  unfold L_L_texts_644
  refine go_n (by rw [hl_2682] <;> decide +kernel) ?_
  refine go_jn (fun j676 hj_2684 => ?_)
  refine go_lt (a := 1) (show _ = nI 1 by rw [hl_2682] <;> decide +kernel) (fun y653_1 hy_2685 => ?_)
  refine go_n (by rw [hy_2685] <;> decide +kernel) ?_
  refine go_lt (a := 1) (show _ = nI 1 by rw [hl_2682] <;> decide +kernel) (fun y664_2 hy_2686 => ?_)
  refine go_p (by rw [hy_2686] <;> decide +kernel) ?_
  rw [hj_2684]
  refine go_bd (c := 8) (S := Sq_269) (k_type (show _ = nI 49 by decide +kernel) (Nat.le_of_ble_eq_true rfl) K_2681 (by decide +kernel)) (fun r_676 hr_2687 K_2688 => ?_)
  refine go_p (by rw [hr_2687, hl_2682] <;> decide +kernel) ?_
  rw [hs_2683]
  refine go_u1 (n := 8183) (a0 := 8) (show _ = nI 8 by rw [hl_2682] <;> decide +kernel) (fun self644 hs_2690 x1_644 hl_2689 => ?_)
  unfold L_L_texts_644
  refine go_n (by rw [hl_2689] <;> decide +kernel) ?_
  refine go_jn (fun j676 hj_2691 => ?_)
  refine go_lt (a := 2) (show _ = nI 2 by rw [hl_2689] <;> decide +kernel) (fun y653_1 hy_2692 => ?_)
  refine go_n (by rw [hy_2692] <;> decide +kernel) ?_
  refine go_lt (a := 2) (show _ = nI 2 by rw [hl_2689] <;> decide +kernel) (fun y664_2 hy_2693 => ?_)
  refine go_n (by rw [hy_2693] <;> decide +kernel) ?_
  rw [hj_2691]
  refine go_bd (c := 9) (S := Sq_270) (k_type (show _ = nI 59 by decide +kernel) (Nat.le_of_ble_eq_true rfl) K_2688 (by decide +kernel)) (fun r_676 hr_2694 K_2695 => ?_)
  refine go_p (by rw [hr_2694, hl_2689] <;> decide +kernel) ?_
  rw [hs_2690]
  refine go_u1 (n := 8182) (a0 := 9) (show _ = nI 9 by rw [hl_2689] <;> decide +kernel) (fun self644 hs_2697 x1_644 hl_2696 => ?_)
  unfold L_L_texts_644
  refine go_n (by rw [hl_2696] <;> decide +kernel) ?_
  refine go_jn (fun j676 hj_2698 => ?_)
  refine go_lt (a := 0) (show _ = nI 0 by rw [hl_2696] <;> decide +kernel) (fun y653_1 hy_2699 => ?_)
  refine go_p (by rw [hy_2699] <;> decide +kernel) ?_
  rw [hj_2698]
  refine go_bd (c := 10) (S := Sq_271) (k_type (show _ = nI 116 by decide +kernel) (Nat.le_of_ble_eq_true rfl) K_2695 (by decide +kernel)) (fun r_676 hr_2700 K_2701 => ?_)
  refine go_p (by rw [hr_2700, hl_2696] <;> decide +kernel) ?_
  rw [hs_2697]
  refine go_u1 (n := 8181) (a0 := 10) (show _ = nI 10 by rw [hl_2696] <;> decide +kernel) (fun self644 hs_2703 x1_644 hl_2702 => ?_)
  unfold L_L_texts_644
  refine go_n (by rw [hl_2702] <;> decide +kernel) ?_
  refine go_jn (fun j676 hj_2704 => ?_)
  refine go_lt (a := 1) (show _ = nI 1 by rw [hl_2702] <;> decide +kernel) (fun y653_1 hy_2705 => ?_)
  refine go_n (by rw [hy_2705] <;> decide +kernel) ?_
  refine go_lt (a := 1) (show _ = nI 1 by rw [hl_2702] <;> decide +kernel) (fun y664_2 hy_2706 => ?_)
  refine go_p (by rw [hy_2706] <;> decide +kernel) ?_
  rw [hj_2704]
  refine go_bd (c := 11) (S := Sq_272) (k_type (show _ = nI 49 by decide +kernel) (Nat.le_of_ble_eq_true rfl) K_2701 (by decide +kernel)) (fun r_676 hr_2707 K_2708 => ?_)
  refine go_p (by rw [hr_2707, hl_2702] <;> decide +kernel) ?_
  rw [hs_2703]
  refine go_u1 (n := 8180) (a0 := 11) (show _ = nI 11 by rw [hl_2702] <;> decide +kernel) (fun self644 hs_2710 x1_644 hl_2709 => ?_)
  unfold L_L_texts_644
  refine go_n (by rw [hl_2709] <;> decide +kernel) ?_
  refine go_jn (fun j676 hj_2711 => ?_)
  refine go_lt (a := 2) (show _ = nI 2 by rw [hl_2709] <;> decide +kernel) (fun y653_1 hy_2712 => ?_)
  refine go_n (by rw [hy_2712] <;> decide +kernel) ?_
  refine go_lt (a := 2) (show _ = nI 2 by rw [hl_2709] <;> decide +kernel) (fun y664_2 hy_2713 => ?_)
  refine go_n (by rw [hy_2713] <;> decide +kernel) ?_
  rw [hj_2711]
  refine go_bd (c := 12) (S := Sq_273) (k_type (show _ = nI 59 by decide +kernel) (Nat.le_of_ble_eq_true rfl) K_2708 (by decide +kernel)) (fun r_676 hr_2714 K_2715 => ?_)
  refine go_p (by rw [hr_2714, hl_2709] <;> decide +kernel) ?_
  rw [hs_2710]
  refine go_u1 (n := 8179) (a0 := 12) (show _ = nI 12 by rw [hl_2709] <;> decide +kernel) (fun self644 hs_2717 x1_644 hl_2716 => ?_)
  unfold L_L_texts_644
  refine go_n (by rw [hl_2716] <;> decide +kernel) ?_
  refine go_jn (fun j676 hj_2718 => ?_)
  refine go_lt (a := 0) (show _ = nI 0 by rw [hl_2716] <;> decide +kernel) (fun y653_1 hy_2719 => ?_)
  refine go_p (by rw [hy_2719] <;> decide +kernel) ?_
  rw [hj_2718]
  refine go_bd (c := 13) (S := Sq_274) (k_type (show _ = nI 116 by decide +kernel) (Nat.le_of_ble_eq_true rfl) K_2715 (by decide +kernel)) (fun r_676 hr_2720 K_2721 => ?_)
  refine go_p (by rw [hr_2720, hl_2716] <;> decide +kernel) ?_
  rw [hs_2717]
  refine go_u1 (n := 8178) (a0 := 13) (show _ = nI 13 by rw [hl_2716] <;> decide +kernel) (fun self644 hs_2723 x1_644 hl_2722 => ?_)
  unfold L_L_texts_644
  refine go_n (by rw [hl_2722] <;> decide +kernel) ?_
  refine go_jn (fun j676 hj_2724 => ?_)
  refine go_lt (a := 1) (show _ = nI 1 by rw [hl_2722] <;> decide +kernel) (fun y653_1 hy_2725 => ?_)
  refine go_n (by rw [hy_2725] <;> decide +kernel) ?_
  refine go_lt (a := 1) (show _ = nI 1 by rw [hl_2722] <;> decide +kernel) (fun y664_2 hy_2726 => ?_)
  refine go_p (by rw [hy_2726] <;> decide +kernel) ?_
  rw [hj_2724]
  refine go_bd (c := 14) (S := Sq_275) (k_type (show _ = nI 49 by decide +kernel) (Nat.le_of_ble_eq_true rfl) K_2721 (by decide +kernel)) (fun r_676 hr_2727 K_2728 => ?_)
  refine go_p (by rw [hr_2727, hl_2722] <;> decide +kernel) ?_
  rw [hs_2723]
  refine go_u1 (n := 8177) (a0 := 14) (show _ = nI 14 by rw [hl_2722] <;> decide +kernel) (fun self644 hs_2730 x1_644 hl_2729 => ?_)
  unfold L_L_texts_644
  refine go_n (by rw [hl_2729] <;> decide +kernel) ?_
  refine go_jn (fun j676 hj_2731 => ?_)
  refine go_lt (a := 2) (show _ = nI 2 by rw [hl_2729] <;> decide +kernel) (fun y653_1 hy_2732 => ?_)
  refine go_n (by rw [hy_2732] <;> decide +kernel) ?_
  refine go_lt (a := 2) (show _ = nI 2 by rw [hl_2729] <;> decide +kernel) (fun y664_2 hy_2733 => ?_)
  refine go_n (by rw [hy_2733] <;> decide +kernel) ?_
  rw [hj_2731]
  refine go_bd (c := 15) (S := Sq_276) (k_type (show _ = nI 59 by decide +kernel) (Nat.le_of_ble_eq_true rfl) K_2728 (by decide +kernel)) (fun r_676 hr_2734 K_2735 => ?_)
  refine go_p (by rw [hr_2734, hl_2729] <;> decide +kernel) ?_
  rw [hs_2730]
  refine go_u1 (n := 8176) (a0 := 15) (show _ = nI 15 by rw [hl_2729] <;> decide +kernel) (fun self644 hs_2737 x1_644 hl_2736 => ?_)
  unfold L_L_texts_644
  refine go_n (by rw [hl_2736] <;> decide +kernel) ?_
  refine go_jn (fun j676 hj_2738 => ?_)
  refine go_lt (a := 0) (show _ = nI 0 by rw [hl_2736] <;> decide +kernel) (fun y653_1 hy_2739 => ?_)
  refine go_p (by rw [hy_2739] <;> decide +kernel) ?_
  rw [hj_2738]
  refine go_bd (c := 16) (S := Sq_277) (k_type (show _ = nI 116 by decide +kernel) (Nat.le_of_ble_eq_true rfl) K_2735 (by decide +kernel)) (fun r_676 hr_2740 K_2741 => ?_)
  refine go_p (by rw [hr_2740, hl_2736] <;> decide +kernel) ?_
  rw [hs_2737]
  refine go_u1 (n := 8175) (a0 := 16) (show _ = nI 16 by rw [hl_2736] <;> decide +kernel) (fun self644 hs_2743 x1_644 hl_2742 => ?_)
  unfold L_L_texts_644
  refine go_n (by rw [hl_2742] <;> decide +kernel) ?_
  refine go_jn (fun j676 hj_2744 => ?_)
  refine go_lt (a := 1) (show _ = nI 1 by rw [hl_2742] <;> decide +kernel) (fun y653_1 hy_2745 => ?_)
  refine go_n (by rw [hy_2745] <;> decide +kernel) ?_
  refine go_lt (a := 1) (show _ = nI 1 by rw [hl_2742] <;> decide +kernel) (fun y664_2 hy_2746 => ?_)
  refine go_p (by rw [hy_2746] <;> decide +kernel) ?_
  rw [hj_2744]
  refine go_bd (c := 17) (S := Sq_278) (k_type (show _ = nI 49 by decide +kernel) (Nat.le_of_ble_eq_true rfl) K_2741 (by decide +kernel)) (fun r_676 hr_2747 K_2748 => ?_)
  refine go_p (by rw [hr_2747, hl_2742] <;> decide +kernel) ?_
  rw [hs_2743]
  refine go_u1 (n := 8174) (a0 := 17) (show _ = nI 17 by rw [hl_2742] <;> decide +kernel) (fun self644 hs_2750 x1_644 hl_2749 => ?_)
  unfold L_L_texts_644
  refine go_n (by rw [hl_2749] <;> decide +kernel) ?_
  refine go_jn (fun j676 hj_2751 => ?_)
  refine go_lt (a := 2) (show _ = nI 2 by rw [hl_2749] <;> decide +kernel) (fun y653_1 hy_2752 => ?_)
  refine go_n (by rw [hy_2752] <;> decide +kernel) ?_
  refine go_lt (a := 2) (show _ = nI 2 by rw [hl_2749] <;> decide +kernel) (fun y664_2 hy_2753 => ?_)
  refine go_n (by rw [hy_2753] <;> decide +kernel) ?_
  rw [hj_2751]
  refine go_bd (c := 18) (S := Sq_279) (k_type (show _ = nI 59 by decide +kernel) (Nat.le_of_ble_eq_true rfl) K_2748 (by decide +kernel)) (fun r_676 hr_2754 K_2755 => ?_)
  refine go_p (by rw [hr_2754, hl_2749] <;> decide +kernel) ?_
  rw [hs_2750]
  refine go_u1 (n := 8173) (a0 := 18) (show _ = nI 18 by rw [hl_2749] <;> decide +kernel) (fun self644 hs_2757 x1_644 hl_2756 => ?_)
  unfold L_L_texts_644
  refine go_n (by rw [hl_2756] <;> decide +kernel) ?_
  refine go_jn (fun j676 hj_2758 => ?_)
  refine go_lt (a := 0) (show _ = nI 0 by rw [hl_2756] <;> decide +kernel) (fun y653_1 hy_2759 => ?_)
  refine go_p (by rw [hy_2759] <;> decide +kernel) ?_
  rw [hj_2758]
  refine go_bd (c := 19) (S := Sq_280) (k_type (show _ = nI 116 by decide +kernel) (Nat.le_of_ble_eq_true rfl) K_2755 (by decide +kernel)) (fun r_676 hr_2760 K_2761 => ?_)
  refine go_p (by rw [hr_2760, hl_2756] <;> decide +kernel) ?_
  rw [hs_2757]
  refine go_u1 (n := 8172) (a0 := 19) (show _ = nI 19 by rw [hl_2756] <;> decide +kernel) (fun self644 hs_2763 x1_644 hl_2762 => ?_)
  unfold L_L_texts_644
  refine go_n (by rw [hl_2762] <;> decide +kernel) ?_
  refine go_jn (fun j676 hj_2764 => ?_)
  refine go_lt (a := 1) (show _ = nI 1 by rw [hl_2762] <;> decide +kernel) (fun y653_1 hy_2765 => ?_)
  refine go_n (by rw [hy_2765] <;> decide +kernel) ?_
  refine go_lt (a := 1) (show _ = nI 1 by rw [hl_2762] <;> decide +kernel) (fun y664_2 hy_2766 => ?_)
  refine go_p (by rw [hy_2766] <;> decide +kernel) ?_
  rw [hj_2764]
  refine go_bd (c := 20) (S := Sq_281) (k_type (show _ = nI 49 by decide +kernel) (Nat.le_of_ble_eq_true rfl) K_2761 (by decide +kernel)) (fun r_676 hr_2767 K_2768 => ?_)
  refine go_p (by rw [hr_2767, hl_2762] <;> decide +kernel) ?_
  rw [hs_2763]
  refine go_u1 (n := 8171) (a0 := 20) (show _ = nI 20 by rw [hl_2762] <;> decide +kernel) (fun self644 hs_2770 x1_644 hl_2769 => ?_)
  unfold L_L_texts_644
  refine go_n (by rw [hl_2769] <;> decide +kernel) ?_
  refine go_jn (fun j676 hj_2771 => ?_)
  refine go_lt (a := 2) (show _ = nI 2 by rw [hl_2769] <;> decide +kernel) (fun y653_1 hy_2772 => ?_)
  refine go_n (by rw [hy_2772] <;> decide +kernel) ?_
  refine go_lt (a := 2) (show _ = nI 2 by rw [hl_2769] <;> decide +kernel) (fun y664_2 hy_2773 => ?_)
  refine go_n (by rw [hy_2773] <;> decide +kernel) ?_
  rw [hj_2771]
  refine go_bd (c := 21) (S := Sq_282) (k_type (show _ = nI 59 by decide +kernel) (Nat.le_of_ble_eq_true rfl) K_2768 (by decide +kernel)) (fun r_676 hr_2774 K_2775 => ?_)
  refine go_p (by rw [hr_2774, hl_2769] <;> decide +kernel) ?_
  rw [hs_2770]
  refine go_u1 (n := 8170) (a0 := 21) (show _ = nI 21 by rw [hl_2769] <;> decide +kernel) (fun self644 hs_2777 x1_644 hl_2776 => ?_)
  unfold L_L_texts_644
  refine go_n (by rw [hl_2776] <;> decide +kernel) ?_
  refine go_jn (fun j676 hj_2778 => ?_)
  refine go_lt (a := 0) (show _ = nI 0 by rw [hl_2776] <;> decide +kernel) (fun y653_1 hy_2779 => ?_)
  refine go_p (by rw [hy_2779] <;> decide +kernel) ?_
  rw [hj_2778]
  refine go_bd (c := 22) (S := Sq_283) (k_type (show _ = nI 116 by decide +kernel) (Nat.le_of_ble_eq_true rfl) K_2775 (by decide +kernel)) (fun r_676 hr_2780 K_2781 => ?_)
  refine go_p (by rw [hr_2780, hl_2776] <;> decide +kernel) ?_
  rw [hs_2777]
  refine go_u1 (n := 8169) (a0 := 22) (show _ = nI 22 by rw [hl_2776] <;> decide +kernel) (fun self644 hs_2783 x1_644 hl_2782 => ?_)
  unfold L_L_texts_644
  refine go_n (by rw [hl_2782] <;> decide +kernel) ?_
  refine go_jn (fun j676 hj_2784 => ?_)
  refine go_lt (a := 1) (show _ = nI 1 by rw [hl_2782] <;> decide +kernel) (fun y653_1 hy_2785 => ?_)
  refine go_n (by rw [hy_2785] <;> decide +kernel) ?_
  refine go_lt (a := 1) (show _ = nI 1 by rw [hl_2782] <;> decide +kernel) (fun y664_2 hy_2786 => ?_)
  refine go_p (by rw [hy_2786] <;> decide +kernel) ?_
  rw [hj_2784]
  refine go_bd (c := 23) (S := Sq_284) (k_type (show _ = nI 49 by decide +kernel) (Nat.le_of_ble_eq_true rfl) K_2781 (by decide +kernel)) (fun r_676 hr_2787 K_2788 => ?_)
  refine go_p (by rw [hr_2787, hl_2782] <;> decide +kernel) ?_
  rw [hs_2783]
  refine go_u1 (n := 8168) (a0 := 23) (show _ = nI 23 by rw [hl_2782] <;> decide +kernel) (fun self644 hs_2790 x1_644 hl_2789 => ?_)
  unfold L_L_texts_644
  refine go_n (by rw [hl_2789] <;> decide +kernel) ?_
  refine go_jn (fun j676 hj_2791 => ?_)
  refine go_lt (a := 2) (show _ = nI 2 by rw [hl_2789] <;> decide +kernel) (fun y653_1 hy_2792 => ?_)
  refine go_n (by rw [hy_2792] <;> decide +kernel) ?_
  refine go_lt (a := 2) (show _ = nI 2 by rw [hl_2789] <;> decide +kernel) (fun y664_2 hy_2793 => ?_)
  refine go_n (by rw [hy_2793] <;> decide +kernel) ?_
  rw [hj_2791]
  refine go_bd (c := 24) (S := Sq_285) (k_type (show _ = nI 59 by decide +kernel) (Nat.le_of_ble_eq_true rfl) K_2788 (by decide +kernel)) (fun r_676 hr_2794 K_2795 => ?_)
  refine go_p (by rw [hr_2794, hl_2789] <;> decide +kernel) ?_
  rw [hs_2790]
  refine go_u1 (n := 8167) (a0 := 24) (show _ = nI 24 by rw [hl_2789] <;> decide +kernel) (fun self644 hs_2797 x1_644 hl_2796 => ?_)
  unfold L_L_texts_644
  refine go_n (by rw [hl_2796] <;> decide +kernel) ?_
  refine go_jn (fun j676 hj_2798 => ?_)
  refine go_lt (a := 0) (show _ = nI 0 by rw [hl_2796] <;> decide +kernel) (fun y653_1 hy_2799 => ?_)
  refine go_p (by rw [hy_2799] <;> decide +kernel) ?_
  rw [hj_2798]
  refine go_bd (c := 25) (S := Sq_286) (k_type (show _ = nI 116 by decide +kernel) (Nat.le_of_ble_eq_true rfl) K_2795 (by decide +kernel)) (fun r_676 hr_2800 K_2801 => ?_)
  refine go_p (by rw [hr_2800, hl_2796] <;> decide +kernel) ?_
  rw [hs_2797]
  refine go_u1 (n := 8166) (a0 := 25) (show _ = nI 25 by rw [hl_2796] <;> decide +kernel) (fun self644 hs_2803 x1_644 hl_2802 => ?_)
  unfold L_L_texts_644
  refine go_n (by rw [hl_2802] <;> decide +kernel) ?_
  refine go_jn (fun j676 hj_2804 => ?_)
  refine go_lt (a := 1) (show _ = nI 1 by rw [hl_2802] <;> decide +kernel) (fun y653_1 hy_2805 => ?_)
  refine go_n (by rw [hy_2805] <;> decide +kernel) ?_
  refine go_lt (a := 1) (show _ = nI 1 by rw [hl_2802] <;> decide +kernel) (fun y664_2 hy_2806 => ?_)
  refine go_p (by rw [hy_2806] <;> decide +kernel) ?_
  rw [hj_2804]
  refine go_bd (c := 26) (S := Sq_287) (k_type (show _ = nI 49 by decide +kernel) (Nat.le_of_ble_eq_true rfl) K_2801 (by decide +kernel)) (fun r_676 hr_2807 K_2808 => ?_)
  refine go_p (by rw [hr_2807, hl_2802] <;> decide +kernel) ?_
  rw [hs_2803]
  refine go_u1 (n := 8165) (a0 := 26) (show _ = nI 26 by rw [hl_2802] <;> decide +kernel) (fun self644 hs_2810 x1_644 hl_2809 => ?_)
  unfold L_L_texts_644
  refine go_n (by rw [hl_2809] <;> decide +kernel) ?_
  refine go_jn (fun j676 hj_2811 => ?_)
  refine go_lt (a := 2) (show _ = nI 2 by rw [hl_2809] <;> decide +kernel) (fun y653_1 hy_2812 => ?_)
  refine go_n (by rw [hy_2812] <;> decide +kernel) ?_
  refine go_lt (a := 2) (show _ = nI 2 by rw [hl_2809] <;> decide +kernel) (fun y664_2 hy_2813 => ?_)
  refine go_n (by rw [hy_2813] <;> decide +kernel) ?_
  rw [hj_2811]
  refine go_bd (c := 27) (S := Sq_288) (k_type (show _ = nI 59 by decide +kernel) (Nat.le_of_ble_eq_true rfl) K_2808 (by decide +kernel)) (fun r_676 hr_2814 K_2815 => ?_)
  refine go_p (by rw [hr_2814, hl_2809] <;> decide +kernel) ?_
  rw [hs_2810]
  refine go_u1 (n := 8164) (a0 := 27) (show _ = nI 27 by rw [hl_2809] <;> decide +kernel) (fun self644 hs_2817 x1_644 hl_2816 => ?_)
  unfold L_L_texts_644
  refine go_n (by rw [hl_2816] <;> decide +kernel) ?_
  refine go_jn (fun j676 hj_2818 => ?_)
  refine go_lt (a := 0) (show _ = nI 0 by rw [hl_2816] <;> decide +kernel) (fun y653_1 hy_2819 => ?_)
  refine go_p (by rw [hy_2819] <;> decide +kernel) ?_
  rw [hj_2818]
  refine go_bd (c := 28) (S := Sq_289) (k_type (show _ = nI 116 by decide +kernel) (Nat.le_of_ble_eq_true rfl) K_2815 (by decide +kernel)) (fun r_676 hr_2820 K_2821 => ?_)
  refine go_p (by rw [hr_2820, hl_2816] <;> decide +kernel) ?_
  rw [hs_2817]
  refine go_u1 (n := 8163) (a0 := 28) (show _ = nI 28 by rw [hl_2816] <;> decide +kernel) (fun self644 hs_2823 x1_644 hl_2822 => ?_)
  unfold L_L_texts_644
  refine go_n (by rw [hl_2822] <;> decide +kernel) ?_
  refine go_jn (fun j676 hj_2824 => ?_)
  refine go_lt (a := 1) (show _ = nI 1 by rw [hl_2822] <;> decide +kernel) (fun y653_1 hy_2825 => ?_)
  refine go_n (by rw [hy_2825] <;> decide +kernel) ?_
  refine go_lt (a := 1) (show _ = nI 1 by rw [hl_2822] <;> decide +kernel) (fun y664_2 hy_2826 => ?_)
  refine go_p (by rw [hy_2826] <;> decide +kernel) ?_
  rw [hj_2824]
  refine go_bd (c := 29) (S := Sq_290) (k_type (show _ = nI 49 by decide +kernel) (Nat.le_of_ble_eq_true rfl) K_2821 (by decide +kernel)) (fun r_676 hr_2827 K_2828 => ?_)
  refine go_p (by rw [hr_2827, hl_2822] <;> decide +kernel) ?_
  rw [hs_2823]
  refine go_u1 (n := 8162) (a0 := 29) (show _ = nI 29 by rw [hl_2822] <;> decide +kernel) (fun self644 hs_2830 x1_644 hl_2829 => ?_)
  unfold L_L_texts_644
  refine go_n (by rw [hl_2829] <;> decide +kernel) ?_
  refine go_jn (fun j676 hj_2831 => ?_)
  refine go_lt (a := 2) (show _ = nI 2 by rw [hl_2829] <;> decide +kernel) (fun y653_1 hy_2832 => ?_)
  refine go_n (by rw [hy_2832] <;> decide +kernel) ?_
  refine go_lt (a := 2) (show _ = nI 2 by rw [hl_2829] <;> decide +kernel) (fun y664_2 hy_2833 => ?_)
  refine go_n (by rw [hy_2833] <;> decide +kernel) ?_
  rw [hj_2831]
  refine go_bd (c := 30) (S := Sq_291) (k_type (show _ = nI 59 by decide +kernel) (Nat.le_of_ble_eq_true rfl) K_2828 (by decide +kernel)) (fun r_676 hr_2834 K_2835 => ?_)
  refine go_p (by rw [hr_2834, hl_2829] <;> decide +kernel) ?_
  rw [hs_2830]
  refine go_u1 (n := 8161) (a0 := 30) (show _ = nI 30 by rw [hl_2829] <;> decide +kernel) (fun self644 hs_2837 x1_644 hl_2836 => ?_)
  unfold L_L_texts_644
  refine go_n (by rw [hl_2836] <;> decide +kernel) ?_
  refine go_jn (fun j676 hj_2838 => ?_)
  refine go_lt (a := 0) (show _ = nI 0 by rw [hl_2836] <;> decide +kernel) (fun y653_1 hy_2839 => ?_)
  refine go_p (by rw [hy_2839] <;> decide +kernel) ?_
  rw [hj_2838]
  refine go_bd (c := 31) (S := Sq_292) (k_type (show _ = nI 116 by decide +kernel) (Nat.le_of_ble_eq_true rfl) K_2835 (by decide +kernel)) (fun r_676 hr_2840 K_2841 => ?_)
  refine go_p (by rw [hr_2840, hl_2836] <;> decide +kernel) ?_
  rw [hs_2837]
  refine go_u1 (n := 8160) (a0 := 31) (show _ = nI 31 by rw [hl_2836] <;> decide +kernel) (fun self644 hs_2843 x1_644 hl_2842 => ?_)
  unfold L_L_texts_644
  refine go_n (by rw [hl_2842] <;> decide +kernel) ?_
  refine go_jn (fun j676 hj_2844 => ?_)
  refine go_lt (a := 1) (show _ = nI 1 by rw [hl_2842] <;> decide +kernel) (fun y653_1 hy_2845 => ?_)
  refine go_n (by rw [hy_2845] <;> decide +kernel) ?_
  refine go_lt (a := 1) (show _ = nI 1 by rw [hl_2842] <;> decide +kernel) (fun y664_2 hy_2846 => ?_)
  refine go_p (by rw [hy_2846] <;> decide +kernel) ?_
  rw [hj_2844]
  refine go_bd (c := 32) (S := Sq_293) (k_type (show _ = nI 49 by decide +kernel) (Nat.le_of_ble_eq_true rfl) K_2841 (by decide +kernel)) (fun r_676 hr_2847 K_2848 => ?_)
  refine go_p (by rw [hr_2847, hl_2842] <;> decide +kernel) ?_
  rw [hs_2843]
  refine go_u1 (n := 8159) (a0 := 32) (show _ = nI 32 by rw [hl_2842] <;> decide +kernel) (fun self644 hs_2850 x1_644 hl_2849 => ?_)
  unfold L_L_texts_644
  refine go_n (by rw [hl_2849] <;> decide +kernel) ?_
  refine go_jn (fun j676 hj_2851 => ?_)
  refine go_lt (a := 2) (show _ = nI 2 by rw [hl_2849] <;> decide +kernel) (fun y653_1 hy_2852 => ?_)
  refine go_n (by rw [hy_2852] <;> decide +kernel) ?_
  refine go_lt (a := 2) (show _ = nI 2 by rw [hl_2849] <;> decide +kernel) (fun y664_2 hy_2853 => ?_)
  refine go_n (by rw [hy_2853] <;> decide +kernel) ?_
  rw [hj_2851]
  refine go_bd (c := 33) (S := Sq_294) (k_type (show _ = nI 59 by decide +kernel) (Nat.le_of_ble_eq_true rfl) K_2848 (by decide +kernel)) (fun r_676 hr_2854 K_2855 => ?_)
  refine go_p (by rw [hr_2854, hl_2849] <;> decide +kernel) ?_
  rw [hs_2850]
  refine go_u1 (n := 8158) (a0 := 33) (show _ = nI 33 by rw [hl_2849] <;> decide +kernel) (fun self644 hs_2857 x1_644 hl_2856 => ?_)
  unfold L_L_texts_644
  refine go_n (by rw [hl_2856] <;> decide +kernel) ?_
  refine go_jn (fun j676 hj_2858 => ?_)
  refine go_lt (a := 0) (show _ = nI 0 by rw [hl_2856] <;> decide +kernel) (fun y653_1 hy_2859 => ?_)
  refine go_p (by rw [hy_2859] <;> decide +kernel) ?_
  rw [hj_2858]
  refine go_bd (c := 34) (S := Sq_295) (k_type (show _ = nI 116 by decide +kernel) (Nat.le_of_ble_eq_true rfl) K_2855 (by decide +kernel)) (fun r_676 hr_2860 K_2861 => ?_)
  refine go_p (by rw [hr_2860, hl_2856] <;> decide +kernel) ?_
  rw [hs_2857]
  refine go_u1 (n := 8157) (a0 := 34) (show _ = nI 34 by rw [hl_2856] <;> decide +kernel) (fun self644 hs_2863 x1_644 hl_2862 => ?_)
  unfold L_L_texts_644
  refine go_n (by rw [hl_2862] <;> decide +kernel) ?_
  refine go_jn (fun j676 hj_2864 => ?_)
  refine go_lt (a := 1) (show _ = nI 1 by rw [hl_2862] <;> decide +kernel) (fun y653_1 hy_2865 => ?_)
  refine go_n (by rw [hy_2865] <;> decide +kernel) ?_
  refine go_lt (a := 1) (show _ = nI 1 by rw [hl_2862] <;> decide +kernel) (fun y664_2 hy_2866 => ?_)
  refine go_p (by rw [hy_2866] <;> decide +kernel) ?_
  rw [hj_2864]
  refine go_bd (c := 35) (S := Sq_296) (k_type (show _ = nI 49 by decide +kernel) (Nat.le_of_ble_eq_true rfl) K_2861 (by decide +kernel)) (fun r_676 hr_2867 K_2868 => ?_)
  refine go_p (by rw [hr_2867, hl_2862] <;> decide +kernel) ?_
  rw [hs_2863]
  refine go_u1 (n := 8156) (a0 := 35) (show _ = nI 35 by rw [hl_2862] <;> decide +kernel) (fun self644 hs_2870 x1_644 hl_2869 => ?_)
  unfold L_L_texts_644
  refine go_n (by rw [hl_2869] <;> decide +kernel) ?_
  refine go_jn (fun j676 hj_2871 => ?_)
  refine go_lt (a := 2) (show _ = nI 2 by rw [hl_2869] <;> decide +kernel) (fun y653_1 hy_2872 => ?_)
  refine go_n (by rw [hy_2872] <;> decide +kernel) ?_
  refine go_lt (a := 2) (show _ = nI 2 by rw [hl_2869] <;> decide +kernel) (fun y664_2 hy_2873 => ?_)
  refine go_n (by rw [hy_2873] <;> decide +kernel) ?_
  rw [hj_2871]
  refine go_bd (c := 36) (S := Sq_297) (k_type (show _ = nI 59 by decide +kernel) (Nat.le_of_ble_eq_true rfl) K_2868 (by decide +kernel)) (fun r_676 hr_2874 K_2875 => ?_)
  refine go_p (by rw [hr_2874, hl_2869] <;> decide +kernel) ?_
  rw [hs_2870]
  refine go_u1 (n := 8155) (a0 := 36) (show _ = nI 36 by rw [hl_2869] <;> decide +kernel) (fun self644 hs_2877 x1_644 hl_2876 => ?_)
  unfold L_L_texts_644
  refine go_n (by rw [hl_2876] <;> decide +kernel) ?_
  refine go_jn (fun j676 hj_2878 => ?_)
  refine go_lt (a := 0) (show _ = nI 0 by rw [hl_2876] <;> decide +kernel) (fun y653_1 hy_2879 => ?_)
  refine go_p (by rw [hy_2879] <;> decide +kernel) ?_
  rw [hj_2878]
  refine go_bd (c := 37) (S := Sq_298) (k_type (show _ = nI 116 by decide +kernel) (Nat.le_of_ble_eq_true rfl) K_2875 (by decide +kernel)) (fun r_676 hr_2880 K_2881 => ?_)
  refine go_p (by rw [hr_2880, hl_2876] <;> decide +kernel) ?_
  rw [hs_2877]
  refine go_u1 (n := 8154) (a0 := 37) (show _ = nI 37 by rw [hl_2876] <;> decide +kernel) (fun self644 hs_2883 x1_644 hl_2882 => ?_)
  unfold L_L_texts_644
  refine go_n (by rw [hl_2882] <;> decide +kernel) ?_
  refine go_jn (fun j676 hj_2884 => ?_)
  refine go_lt (a := 1) (show _ = nI 1 by rw [hl_2882] <;> decide +kernel) (fun y653_1 hy_2885 => ?_)
  refine go_n (by rw [hy_2885] <;> decide +kernel) ?_
  refine go_lt (a := 1) (show _ = nI 1 by rw [hl_2882] <;> decide +kernel) (fun y664_2 hy_2886 => ?_)
  refine go_p (by rw [hy_2886] <;> decide +kernel) ?_
  rw [hj_2884]
  refine go_bd (c := 38) (S := Sq_299) (k_type (show _ = nI 49 by decide +kernel) (Nat.le_of_ble_eq_true rfl) K_2881 (by decide +kernel)) (fun r_676 hr_2887 K_2888 => ?_)
  refine go_p (by rw [hr_2887, hl_2882] <;> decide +kernel) ?_
  rw [hs_2883]
  refine go_u1 (n := 8153) (a0 := 38) (show _ = nI 38 by rw [hl_2882] <;> decide +kernel) (fun self644 hs_2890 x1_644 hl_2889 => ?_)
  unfold L_L_texts_644
  refine go_n (by rw [hl_2889] <;> decide +kernel) ?_
  refine go_jn (fun j676 hj_2891 => ?_)
  refine go_lt (a := 2) (show _ = nI 2 by rw [hl_2889] <;> decide +kernel) (fun y653_1 hy_2892 => ?_)
  refine go_n (by rw [hy_2892] <;> decide +kernel) ?_
  refine go_lt (a := 2) (show _ = nI 2 by rw [hl_2889] <;> decide +kernel) (fun y664_2 hy_2893 => ?_)
  refine go_n (by rw [hy_2893] <;> decide +kernel) ?_
  rw [hj_2891]
  refine go_bd (c := 39) (S := Sq_300) (k_type (show _ = nI 59 by decide +kernel) (Nat.le_of_ble_eq_true rfl) K_2888 (by decide +kernel)) (fun r_676 hr_2894 K_2895 => ?_)
  refine go_p (by rw [hr_2894, hl_2889] <;> decide +kernel) ?_
  rw [hs_2890]
  refine go_u1 (n := 8152) (a0 := 39) (show _ = nI 39 by rw [hl_2889] <;> decide +kernel) (fun self644 hs_2897 x1_644 hl_2896 => ?_)
  unfold L_L_texts_644
  refine go_n (by rw [hl_2896] <;> decide +kernel) ?_
  refine go_jn (fun j676 hj_2898 => ?_)
  refine go_lt (a := 0) (show _ = nI 0 by rw [hl_2896] <;> decide +kernel) (fun y653_1 hy_2899 => ?_)
  refine go_p (by rw [hy_2899] <;> decide +kernel) ?_
  rw [hj_2898]
  refine go_bd (c := 40) (S := Sq_301) (k_type (show _ = nI 116 by decide +kernel) (Nat.le_of_ble_eq_true rfl) K_2895 (by decide +kernel)) (fun r_676 hr_2900 K_2901 => ?_)
  refine go_p (by rw [hr_2900, hl_2896] <;> decide +kernel) ?_
  rw [hs_2897]
  refine go_u1 (n := 8151) (a0 := 40) (show _ = nI 40 by rw [hl_2896] <;> decide +kernel) (fun self644 hs_2903 x1_644 hl_2902 => ?_)
  unfold L_L_texts_644
  refine go_n (by rw [hl_2902] <;> decide +kernel) ?_
  refine go_jn (fun j676 hj_2904 => ?_)
  refine go_lt (a := 1) (show _ = nI 1 by rw [hl_2902] <;> decide +kernel) (fun y653_1 hy_2905 => ?_)
  refine go_n (by rw [hy_2905] <;> decide +kernel) ?_
  refine go_lt (a := 1) (show _ = nI 1 by rw [hl_2902] <;> decide +kernel) (fun y664_2 hy_2906 => ?_)
  refine go_p (by rw [hy_2906] <;> decide +kernel) ?_
  rw [hj_2904]
  refine go_bd (c := 41) (S := Sq_302) (k_type (show _ = nI 49 by decide +kernel) (Nat.le_of_ble_eq_true rfl) K_2901 (by decide +kernel)) (fun r_676 hr_2907 K_2908 => ?_)
  refine go_p (by rw [hr_2907, hl_2902] <;> decide +kernel) ?_
  rw [hs_2903]
  refine go_u1 (n := 8150) (a0 := 41) (show _ = nI 41 by rw [hl_2902] <;> decide +kernel) (fun self644 hs_2910 x1_644 hl_2909 => ?_)
  unfold L_L_texts_644
  refine go_n (by rw [hl_2909] <;> decide +kernel) ?_
  refine go_jn (fun j676 hj_2911 => ?_)
  refine go_lt (a := 2) (show _ = nI 2 by rw [hl_2909] <;> decide +kernel) (fun y653_1 hy_2912 => ?_)
  refine go_n (by rw [hy_2912] <;> decide +kernel) ?_
  refine go_lt (a := 2) (show _ = nI 2 by rw [hl_2909] <;> decide +kernel) (fun y664_2 hy_2913 => ?_)
  refine go_n (by rw [hy_2913] <;> decide +kernel) ?_
  rw [hj_2911]
  refine go_bd (c := 42) (S := Sq_303) (k_type (show _ = nI 59 by decide +kernel) (Nat.le_of_ble_eq_true rfl) K_2908 (by decide +kernel)) (fun r_676 hr_2914 K_2915 => ?_)
  refine go_p (by rw [hr_2914, hl_2909] <;> decide +kernel) ?_
  rw [hs_2910]
  refine go_u1 (n := 8149) (a0 := 42) (show _ = nI 42 by rw [hl_2909] <;> decide +kernel) (fun self644 hs_2917 x1_644 hl_2916 => ?_)
  unfold L_L_texts_644
  refine go_n (by rw [hl_2916] <;> decide +kernel) ?_
  refine go_jn (fun j676 hj_2918 => ?_)
  refine go_lt (a := 0) (show _ = nI 0 by rw [hl_2916] <;> decide +kernel) (fun y653_1 hy_2919 => ?_)
  refine go_p (by rw [hy_2919] <;> decide +kernel) ?_
  rw [hj_2918]
  refine go_bd (c := 43) (S := Sq_304) (k_type (show _ = nI 116 by decide +kernel) (Nat.le_of_ble_eq_true rfl) K_2915 (by decide +kernel)) (fun r_676 hr_2920 K_2921 => ?_)
  refine go_p (by rw [hr_2920, hl_2916] <;> decide +kernel) ?_
  rw [hs_2917]
  refine go_u1 (n := 8148) (a0 := 43) (show _ = nI 43 by rw [hl_2916] <;> decide +kernel) (fun self644 hs_2923 x1_644 hl_2922 => ?_)
  unfold L_L_texts_644
  refine go_n (by rw [hl_2922] <;> decide +kernel) ?_
  refine go_jn (fun j676 hj_2924 => ?_)
  refine go_lt (a := 1) (show _ = nI 1 by rw [hl_2922] <;> decide +kernel) (fun y653_1 hy_2925 => ?_)
  refine go_n (by rw [hy_2925] <;> decide +kernel) ?_
  refine go_lt (a := 1) (show _ = nI 1 by rw [hl_2922] <;> decide +kernel) (fun y664_2 hy_2926 => ?_)
  refine go_p (by rw [hy_2926] <;> decide +kernel) ?_
  rw [hj_2924]
  refine go_bd (c := 44) (S := Sq_305) (k_type (show _ = nI 49 by decide +kernel) (Nat.le_of_ble_eq_true rfl) K_2921 (by decide +kernel)) (fun r_676 hr_2927 K_2928 => ?_)
  refine go_p (by rw [hr_2927, hl_2922] <;> decide +kernel) ?_
  rw [hs_2923]
  refine go_u1 (n := 8147) (a0 := 44) (show _ = nI 44 by rw [hl_2922] <;> decide +kernel) (fun self644 hs_2930 x1_644 hl_2929 => ?_)
  unfold L_L_texts_644
  refine go_n (by rw [hl_2929] <;> decide +kernel) ?_
  refine go_jn (fun j676 hj_2931 => ?_)
  refine go_lt (a := 2) (show _ = nI 2 by rw [hl_2929] <;> decide +kernel) (fun y653_1 hy_2932 => ?_)
  refine go_n (by rw [hy_2932] <;> decide +kernel) ?_
  refine go_lt (a := 2) (show _ = nI 2 by rw [hl_2929] <;> decide +kernel) (fun y664_2 hy_2933 => ?_)
  refine go_n (by rw [hy_2933] <;> decide +kernel) ?_
  rw [hj_2931]
  refine go_bd (c := 45) (S := Sq_306) (k_type (show _ = nI 59 by decide +kernel) (Nat.le_of_ble_eq_true rfl) K_2928 (by decide +kernel)) (fun r_676 hr_2934 K_2935 => ?_)
  refine go_p (by rw [hr_2934, hl_2929] <;> decide +kernel) ?_
  rw [hs_2930]
  refine go_u1 (n := 8146) (a0 := 45) (show _ = nI 45 by rw [hl_2929] <;> decide +kernel) (fun self644 hs_2937 x1_644 hl_2936 => ?_)
  unfold L_L_texts_644
  refine go_n (by rw [hl_2936] <;> decide +kernel) ?_
  refine go_jn (fun j676 hj_2938 => ?_)
  refine go_lt (a := 0) (show _ = nI 0 by rw [hl_2936] <;> decide +kernel) (fun y653_1 hy_2939 => ?_)
  refine go_p (by rw [hy_2939] <;> decide +kernel) ?_
  rw [hj_2938]
  refine go_bd (c := 46) (S := Sq_307) (k_type (show _ = nI 116 by decide +kernel) (Nat.le_of_ble_eq_true rfl) K_2935 (by decide +kernel)) (fun r_676 hr_2940 K_2941 => ?_)
  refine go_p (by rw [hr_2940, hl_2936] <;> decide +kernel) ?_
  rw [hs_2937]
  refine go_u1 (n := 8145) (a0 := 46) (show _ = nI 46 by rw [hl_2936] <;> decide +kernel) (fun self644 hs_2943 x1_644 hl_2942 => ?_)
  unfold L_L_texts_644
  refine go_n (by rw [hl_2942] <;> decide +kernel) ?_
  refine go_jn (fun j676 hj_2944 => ?_)
  refine go_lt (a := 1) (show _ = nI 1 by rw [hl_2942] <;> decide +kernel) (fun y653_1 hy_2945 => ?_)
  refine go_n (by rw [hy_2945] <;> decide +kernel) ?_
  refine go_lt (a := 1) (show _ = nI 1 by rw [hl_2942] <;> decide +kernel) (fun y664_2 hy_2946 => ?_)
  refine go_p (by rw [hy_2946] <;> decide +kernel) ?_
  rw [hj_2944]
  refine go_bd (c := 47) (S := Sq_308) (k_type (show _ = nI 49 by decide +kernel) (Nat.le_of_ble_eq_true rfl) K_2941 (by decide +kernel)) (fun r_676 hr_2947 K_2948 => ?_)
  refine go_p (by rw [hr_2947, hl_2942] <;> decide +kernel) ?_
  rw [hs_2943]
  refine go_u1 (n := 8144) (a0 := 47) (show _ = nI 47 by rw [hl_2942] <;> decide +kernel) (fun self644 hs_2950 x1_644 hl_2949 => ?_)
  unfold L_L_texts_644
  refine go_n (by rw [hl_2949] <;> decide +kernel) ?_
  refine go_jn (fun j676 hj_2951 => ?_)
  refine go_lt (a := 2) (show _ = nI 2 by rw [hl_2949] <;> decide +kernel) (fun y653_1 hy_2952 => ?_)
  refine go_n (by rw [hy_2952] <;> decide +kernel) ?_
  refine go_lt (a := 2) (show _ = nI 2 by rw [hl_2949] <;> decide +kernel) (fun y664_2 hy_2953 => ?_)
  refine go_n (by rw [hy_2953] <;> decide +kernel) ?_
  rw [hj_2951]
  refine go_bd (c := 48) (S := Sq_309) (k_type (show _ = nI 59 by decide +kernel) (Nat.le_of_ble_eq_true rfl) K_2948 (by decide +kernel)) (fun r_676 hr_2954 K_2955 => ?_)
  refine go_p (by rw [hr_2954, hl_2949] <;> decide +kernel) ?_
  rw [hs_2950]
  refine go_u1 (n := 8143) (a0 := 48) (show _ = nI 48 by rw [hl_2949] <;> decide +kernel) (fun self644 hs_2957 x1_644 hl_2956 => ?_)
  unfold L_L_texts_644
  refine go_n (by rw [hl_2956] <;> decide +kernel) ?_
  refine go_jn (fun j676 hj_2958 => ?_)
  refine go_lt (a := 0) (show _ = nI 0 by rw [hl_2956] <;> decide +kernel) (fun y653_1 hy_2959 => ?_)
  refine go_p (by rw [hy_2959] <;> decide +kernel) ?_
  rw [hj_2958]
  refine go_bd (c := 49) (S := Sq_310) (k_type (show _ = nI 116 by decide +kernel) (Nat.le_of_ble_eq_true rfl) K_2955 (by decide +kernel)) (fun r_676 hr_2960 K_2961 => ?_)
  refine go_p (by rw [hr_2960, hl_2956] <;> decide +kernel) ?_
  rw [hs_2957]
  refine go_u1 (n := 8142) (a0 := 49) (show _ = nI 49 by rw [hl_2956] <;> decide +kernel) (fun self644 hs_2963 x1_644 hl_2962 => ?_)
  unfold L_L_texts_644
  refine go_n (by rw [hl_2962] <;> decide +kernel) ?_
  refine go_jn (fun j676 hj_2964 => ?_)
  refine go_lt (a := 1) (show _ = nI 1 by rw [hl_2962] <;> decide +kernel) (fun y653_1 hy_2965 => ?_)
  refine go_n (by rw [hy_2965] <;> decide +kernel) ?_
  refine go_lt (a := 1) (show _ = nI 1 by rw [hl_2962] <;> decide +kernel) (fun y664_2 hy_2966 => ?_)
  refine go_p (by rw [hy_2966] <;> decide +kernel) ?_
  rw [hj_2964]
  refine go_bd (c := 50) (S := Sq_311) (k_type (show _ = nI 49 by decide +kernel) (Nat.le_of_ble_eq_true rfl) K_2961 (by decide +kernel)) (fun r_676 hr_2967 K_2968 => ?_)
  refine go_p (by rw [hr_2967, hl_2962] <;> decide +kernel) ?_
  rw [hs_2963]
  refine go_u1 (n := 8141) (a0 := 50) (show _ = nI 50 by rw [hl_2962] <;> decide +kernel) (fun self644 hs_2970 x1_644 hl_2969 => ?_)
  unfold L_L_texts_644
  refine go_n (by rw [hl_2969] <;> decide +kernel) ?_
  refine go_jn (fun j676 hj_2971 => ?_)
  refine go_lt (a := 2) (show _ = nI 2 by rw [hl_2969] <;> decide +kernel) (fun y653_1 hy_2972 => ?_)
  refine go_n (by rw [hy_2972] <;> decide +kernel) ?_
  refine go_lt (a := 2) (show _ = nI 2 by rw [hl_2969] <;> decide +kernel) (fun y664_2 hy_2973 => ?_)
  refine go_n (by rw [hy_2973] <;> decide +kernel) ?_
  rw [hj_2971]
  refine go_bd (c := 51) (S := Sq_312) (k_type (show _ = nI 59 by decide +kernel) (Nat.le_of_ble_eq_true rfl) K_2968 (by decide +kernel)) (fun r_676 hr_2974 K_2975 => ?_)
  refine go_p (by rw [hr_2974, hl_2969] <;> decide +kernel) ?_
  rw [hs_2970]
  refine go_u1 (n := 8140) (a0 := 51) (show _ = nI 51 by rw [hl_2969] <;> decide +kernel) (fun self644 hs_2977 x1_644 hl_2976 => ?_)
  unfold L_L_texts_644
  refine go_n (by rw [hl_2976] <;> decide +kernel) ?_
  refine go_jn (fun j676 hj_2978 => ?_)
  refine go_lt (a := 0) (show _ = nI 0 by rw [hl_2976] <;> decide +kernel) (fun y653_1 hy_2979 => ?_)
  refine go_p (by rw [hy_2979] <;> decide +kernel) ?_
  rw [hj_2978]
  refine go_bd (c := 52) (S := Sq_313) (k_type (show _ = nI 116 by decide +kernel) (Nat.le_of_ble_eq_true rfl) K_2975 (by decide +kernel)) (fun r_676 hr_2980 K_2981 => ?_)
  refine go_p (by rw [hr_2980, hl_2976] <;> decide +kernel) ?_
  rw [hs_2977]
  refine go_u1 (n := 8139) (a0 := 52) (show _ = nI 52 by rw [hl_2976] <;> decide +kernel) (fun self644 hs_2983 x1_644 hl_2982 => ?_)
  unfold L_L_texts_644
  refine go_n (by rw [hl_2982] <;> decide +kernel) ?_
  refine go_jn (fun j676 hj_2984 => ?_)
  refine go_lt (a := 1) (show _ = nI 1 by rw [hl_2982] <;> decide +kernel) (fun y653_1 hy_2985 => ?_)
  refine go_n (by rw [hy_2985] <;> decide +kernel) ?_
  refine go_lt (a := 1) (show _ = nI 1 by rw [hl_2982] <;> decide +kernel) (fun y664_2 hy_2986 => ?_)
  refine go_p (by rw [hy_2986] <;> decide +kernel) ?_
  rw [hj_2984]
  refine go_bd (c := 53) (S := Sq_314) (k_type (show _ = nI 49 by decide +kernel) (Nat.le_of_ble_eq_true rfl) K_2981 (by decide +kernel)) (fun r_676 hr_2987 K_2988 => ?_)
  refine go_p (by rw [hr_2987, hl_2982] <;> decide +kernel) ?_
  rw [hs_2983]
  refine go_u1 (n := 8138) (a0 := 53) (show _ = nI 53 by rw [hl_2982] <;> decide +kernel) (fun self644 hs_2990 x1_644 hl_2989 => ?_)
  unfold L_L_texts_644
  refine go_n (by rw [hl_2989] <;> decide +kernel) ?_
  refine go_jn (fun j676 hj_2991 => ?_)
  refine go_lt (a := 2) (show _ = nI 2 by rw [hl_2989] <;> decide +kernel) (fun y653_1 hy_2992 => ?_)
  refine go_n (by rw [hy_2992] <;> decide +kernel) ?_
  refine go_lt (a := 2) (show _ = nI 2 by rw [hl_2989] <;> decide +kernel) (fun y664_2 hy_2993 => ?_)
  refine go_n (by rw [hy_2993] <;> decide +kernel) ?_
  rw [hj_2991]
  refine go_bd (c := 54) (S := Sq_315) (k_type (show _ = nI 59 by decide +kernel) (Nat.le_of_ble_eq_true rfl) K_2988 (by decide +kernel)) (fun r_676 hr_2994 K_2995 => ?_)
  refine go_p (by rw [hr_2994, hl_2989] <;> decide +kernel) ?_
  rw [hs_2990]
  refine go_u1 (n := 8137) (a0 := 54) (show _ = nI 54 by rw [hl_2989] <;> decide +kernel) (fun self644 hs_2997 x1_644 hl_2996 => ?_)
  unfold L_L_texts_644
  refine go_n (by rw [hl_2996] <;> decide +kernel) ?_
  refine go_jn (fun j676 hj_2998 => ?_)
  refine go_lt (a := 0) (show _ = nI 0 by rw [hl_2996] <;> decide +kernel) (fun y653_1 hy_2999 => ?_)
  refine go_p (by rw [hy_2999] <;> decide +kernel) ?_
  rw [hj_2998]
  refine go_bd (c := 55) (S := Sq_316) (k_type (show _ = nI 116 by decide +kernel) (Nat.le_of_ble_eq_true rfl) K_2995 (by decide +kernel)) (fun r_676 hr_3000 K_3001 => ?_)
  refine go_p (by rw [hr_3000, hl_2996] <;> decide +kernel) ?_
  rw [hs_2997]
  refine go_u1 (n := 8136) (a0 := 55) (show _ = nI 55 by rw [hl_2996] <;> decide +kernel) (fun self644 hs_3003 x1_644 hl_3002 => ?_)
  unfold L_L_texts_644
  refine go_n (by rw [hl_3002] <;> decide +kernel) ?_
  refine go_jn (fun j676 hj_3004 => ?_)
  refine go_lt (a := 1) (show _ = nI 1 by rw [hl_3002] <;> decide +kernel) (fun y653_1 hy_3005 => ?_)
  refine go_n (by rw [hy_3005] <;> decide +kernel) ?_
  refine go_lt (a := 1) (show _ = nI 1 by rw [hl_3002] <;> decide +kernel) (fun y664_2 hy_3006 => ?_)
  refine go_p (by rw [hy_3006] <;> decide +kernel) ?_
  rw [hj_3004]
  refine go_bd (c := 56) (S := Sq_317) (k_type (show _ = nI 49 by decide +kernel) (Nat.le_of_ble_eq_true rfl) K_3001 (by decide +kernel)) (fun r_676 hr_3007 K_3008 => ?_)
  refine go_p (by rw [hr_3007, hl_3002] <;> decide +kernel) ?_
  rw [hs_3003]
  refine go_u1 (n := 8135) (a0 := 56) (show _ = nI 56 by rw [hl_3002] <;> decide +kernel) (fun self644 hs_3010 x1_644 hl_3009 => ?_)
  unfold L_L_texts_644
  refine go_n (by rw [hl_3009] <;> decide +kernel) ?_
  refine go_jn (fun j676 hj_3011 => ?_)
  refine go_lt (a := 2) (show _ = nI 2 by rw [hl_3009] <;> decide +kernel) (fun y653_1 hy_3012 => ?_)
  refine go_n (by rw [hy_3012] <;> decide +kernel) ?_
  refine go_lt (a := 2) (show _ = nI 2 by rw [hl_3009] <;> decide +kernel) (fun y664_2 hy_3013 => ?_)
  refine go_n (by rw [hy_3013] <;> decide +kernel) ?_
  rw [hj_3011]
  refine go_bd (c := 57) (S := Sq_318) (k_type (show _ = nI 59 by decide +kernel) (Nat.le_of_ble_eq_true rfl) K_3008 (by decide +kernel)) (fun r_676 hr_3014 K_3015 => ?_)
  refine go_p (by rw [hr_3014, hl_3009] <;> decide +kernel) ?_
  rw [hs_3010]
  refine go_u1 (n := 8134) (a0 := 57) (show _ = nI 57 by rw [hl_3009] <;> decide +kernel) (fun self644 hs_3017 x1_644 hl_3016 => ?_)
  unfold L_L_texts_644
  refine go_n (by rw [hl_3016] <;> decide +kernel) ?_
  refine go_jn (fun j676 hj_3018 => ?_)
  refine go_lt (a := 0) (show _ = nI 0 by rw [hl_3016] <;> decide +kernel) (fun y653_1 hy_3019 => ?_)
  refine go_p (by rw [hy_3019] <;> decide +kernel) ?_
  rw [hj_3018]
  refine go_bd (c := 58) (S := Sq_319) (k_type (show _ = nI 116 by decide +kernel) (Nat.le_of_ble_eq_true rfl) K_3015 (by decide +kernel)) (fun r_676 hr_3020 K_3021 => ?_)
  refine go_p (by rw [hr_3020, hl_3016] <;> decide +kernel) ?_
  rw [hs_3017]
  refine go_u1 (n := 8133) (a0 := 58) (show _ = nI 58 by rw [hl_3016] <;> decide +kernel) (fun self644 hs_3023 x1_644 hl_3022 => ?_)
  unfold L_L_texts_644
  refine go_n (by rw [hl_3022] <;> decide +kernel) ?_
  refine go_jn (fun j676 hj_3024 => ?_)
  refine go_lt (a := 1) (show _ = nI 1 by rw [hl_3022] <;> decide +kernel) (fun y653_1 hy_3025 => ?_)
  refine go_n (by rw [hy_3025] <;> decide +kernel) ?_
  refine go_lt (a := 1) (show _ = nI 1 by rw [hl_3022] <;> decide +kernel) (fun y664_2 hy_3026 => ?_)
  refine go_p (by rw [hy_3026] <;> decide +kernel) ?_
  rw [hj_3024]
  refine go_bd (c := 59) (S := Sq_320) (k_type (show _ = nI 49 by decide +kernel) (Nat.le_of_ble_eq_true rfl) K_3021 (by decide +kernel)) (fun r_676 hr_3027 K_3028 => ?_)
  refine go_p (by rw [hr_3027, hl_3022] <;> decide +kernel) ?_
  rw [hs_3023]
  refine go_u1 (n := 8132) (a0 := 59) (show _ = nI 59 by rw [hl_3022] <;> decide +kernel) (fun self644 hs_3030 x1_644 hl_3029 => ?_)
  unfold L_L_texts_644
  refine go_n (by rw [hl_3029] <;> decide +kernel) ?_
  refine go_jn (fun j676 hj_3031 => ?_)
  refine go_lt (a := 2) (show _ = nI 2 by rw [hl_3029] <;> decide +kernel) (fun y653_1 hy_3032 => ?_)
  refine go_n (by rw [hy_3032] <;> decide +kernel) ?_
  refine go_lt (a := 2) (show _ = nI 2 by rw [hl_3029] <;> decide +kernel) (fun y664_2 hy_3033 => ?_)
  refine go_n (by rw [hy_3033] <;> decide +kernel) ?_
  rw [hj_3031]
  refine go_bd (c := 60) (S := Sq_321) (k_type (show _ = nI 59 by decide +kernel) (Nat.le_of_ble_eq_true rfl) K_3028 (by decide +kernel)) (fun r_676 hr_3034 K_3035 => ?_)
  refine go_p (by rw [hr_3034, hl_3029] <;> decide +kernel) ?_
  rw [hs_3030]
  refine go_u1 (n := 8131) (a0 := 60) (show _ = nI 60 by rw [hl_3029] <;> decide +kernel) (fun self644 hs_3037 x1_644 hl_3036 => ?_)
  unfold L_L_texts_644
  refine go_n (by rw [hl_3036] <;> decide +kernel) ?_
  refine go_jn (fun j676 hj_3038 => ?_)
  refine go_lt (a := 0) (show _ = nI 0 by rw [hl_3036] <;> decide +kernel) (fun y653_1 hy_3039 => ?_)
  refine go_p (by rw [hy_3039] <;> decide +kernel) ?_
  rw [hj_3038]
  refine go_bd (c := 61) (S := Sq_322) (k_type (show _ = nI 116 by decide +kernel) (Nat.le_of_ble_eq_true rfl) K_3035 (by decide +kernel)) (fun r_676 hr_3040 K_3041 => ?_)
  refine go_p (by rw [hr_3040, hl_3036] <;> decide +kernel) ?_
  rw [hs_3037]
  refine go_u1 (n := 8130) (a0 := 61) (show _ = nI 61 by rw [hl_3036] <;> decide +kernel) (fun self644 hs_3043 x1_644 hl_3042 => ?_)
  unfold L_L_texts_644
  refine go_n (by rw [hl_3042] <;> decide +kernel) ?_
  refine go_jn (fun j676 hj_3044 => ?_)
  refine go_lt (a := 1) (show _ = nI 1 by rw [hl_3042] <;> decide +kernel) (fun y653_1 hy_3045 => ?_)
  refine go_n (by rw [hy_3045] <;> decide +kernel) ?_
  refine go_lt (a := 1) (show _ = nI 1 by rw [hl_3042] <;> decide +kernel) (fun y664_2 hy_3046 => ?_)
  refine go_p (by rw [hy_3046] <;> decide +kernel) ?_
  rw [hj_3044]
  refine go_bd (c := 62) (S := Sq_323) (k_type (show _ = nI 49 by decide +kernel) (Nat.le_of_ble_eq_true rfl) K_3041 (by decide +kernel)) (fun r_676 hr_3047 K_3048 => ?_)
  refine go_p (by rw [hr_3047, hl_3042] <;> decide +kernel) ?_
  rw [hs_3043]
  refine go_u1 (n := 8129) (a0 := 62) (show _ = nI 62 by rw [hl_3042] <;> decide +kernel) (fun self644 hs_3050 x1_644 hl_3049 => ?_)
  unfold L_L_texts_644
  refine go_n (by rw [hl_3049] <;> decide +kernel) ?_
  refine go_jn (fun j676 hj_3051 => ?_)
  refine go_lt (a := 2) (show _ = nI 2 by rw [hl_3049] <;> decide +kernel) (fun y653_1 hy_3052 => ?_)
  refine go_n (by rw [hy_3052] <;> decide +kernel) ?_
  refine go_lt (a := 2) (show _ = nI 2 by rw [hl_3049] <;> decide +kernel) (fun y664_2 hy_3053 => ?_)
  refine go_n (by rw [hy_3053] <;> decide +kernel) ?_
  rw [hj_3051]
  refine go_bd (c := 63) (S := Sq_324) (k_type (show _ = nI 59 by decide +kernel) (Nat.le_of_ble_eq_true rfl) K_3048 (by decide +kernel)) (fun r_676 hr_3054 K_3055 => ?_)
  refine go_p (by rw [hr_3054, hl_3049] <;> decide +kernel) ?_
  rw [hs_3050]
  refine go_u1 (n := 8128) (a0 := 63) (show _ = nI 63 by rw [hl_3049] <;> decide +kernel) (fun self644 hs_3057 x1_644 hl_3056 => ?_)
  unfold L_L_texts_644
  refine go_n (by rw [hl_3056] <;> decide +kernel) ?_
  refine go_jn (fun j676 hj_3058 => ?_)
  refine go_lt (a := 0) (show _ = nI 0 by rw [hl_3056] <;> decide +kernel) (fun y653_1 hy_3059 => ?_)
  refine go_p (by rw [hy_3059] <;> decide +kernel) ?_
  rw [hj_3058]
  refine go_bd (c := 64) (S := Sq_325) (k_type (show _ = nI 116 by decide +kernel) (Nat.le_of_ble_eq_true rfl) K_3055 (by decide +kernel)) (fun r_676 hr_3060 K_3061 => ?_)
  refine go_p (by rw [hr_3060, hl_3056] <;> decide +kernel) ?_
  rw [hs_3057]
  refine go_u1 (n := 8127) (a0 := 64) (show _ = nI 64 by rw [hl_3056] <;> decide +kernel) (fun self644 hs_3063 x1_644 hl_3062 => ?_)
  unfold L_L_texts_644
  refine go_n (by rw [hl_3062] <;> decide +kernel) ?_
  refine go_jn (fun j676 hj_3064 => ?_)
  refine go_lt (a := 1) (show _ = nI 1 by rw [hl_3062] <;> decide +kernel) (fun y653_1 hy_3065 => ?_)
  refine go_n (by rw [hy_3065] <;> decide +kernel) ?_
  refine go_lt (a := 1) (show _ = nI 1 by rw [hl_3062] <;> decide +kernel) (fun y664_2 hy_3066 => ?_)
  refine go_p (by rw [hy_3066] <;> decide +kernel) ?_
  rw [hj_3064]
  refine go_bd (c := 65) (S := Sq_326) (k_type (show _ = nI 49 by decide +kernel) (Nat.le_of_ble_eq_true rfl) K_3061 (by decide +kernel)) (fun r_676 hr_3067 K_3068 => ?_)
  refine go_p (by rw [hr_3067, hl_3062] <;> decide +kernel) ?_
  rw [hs_3063]
  refine go_u1 (n := 8126) (a0 := 65) (show _ = nI 65 by rw [hl_3062] <;> decide +kernel) (fun self644 hs_3070 x1_644 hl_3069 => ?_)
  unfold L_L_texts_644
  refine go_n (by rw [hl_3069] <;> decide +kernel) ?_
  refine go_jn (fun j676 hj_3071 => ?_)
  refine go_lt (a := 2) (show _ = nI 2 by rw [hl_3069] <;> decide +kernel) (fun y653_1 hy_3072 => ?_)
  refine go_n (by rw [hy_3072] <;> decide +kernel) ?_
  refine go_lt (a := 2) (show _ = nI 2 by rw [hl_3069] <;> decide +kernel) (fun y664_2 hy_3073 => ?_)
  refine go_n (by rw [hy_3073] <;> decide +kernel) ?_
  rw [hj_3071]
  refine go_bd (c := 66) (S := Sq_327) (k_type (show _ = nI 59 by decide +kernel) (Nat.le_of_ble_eq_true rfl) K_3068 (by decide +kernel)) (fun r_676 hr_3074 K_3075 => ?_)
  refine go_p (by rw [hr_3074, hl_3069] <;> decide +kernel) ?_
  rw [hs_3070]
  refine go_u1 (n := 8125) (a0 := 66) (show _ = nI 66 by rw [hl_3069] <;> decide +kernel) (fun self644 hs_3077 x1_644 hl_3076 => ?_)
  unfold L_L_texts_644
  refine go_n (by rw [hl_3076] <;> decide +kernel) ?_
  refine go_jn (fun j676 hj_3078 => ?_)
  refine go_lt (a := 0) (show _ = nI 0 by rw [hl_3076] <;> decide +kernel) (fun y653_1 hy_3079 => ?_)
  refine go_p (by rw [hy_3079] <;> decide +kernel) ?_
  rw [hj_3078]
  refine go_bd (c := 67) (S := Sq_328) (k_type (show _ = nI 116 by decide +kernel) (Nat.le_of_ble_eq_true rfl) K_3075 (by decide +kernel)) (fun r_676 hr_3080 K_3081 => ?_)
  refine go_p (by rw [hr_3080, hl_3076] <;> decide +kernel) ?_
  rw [hs_3077]
  refine go_u1 (n := 8124) (a0 := 67) (show _ = nI 67 by rw [hl_3076] <;> decide +kernel) (fun self644 hs_3083 x1_644 hl_3082 => ?_)
  unfold L_L_texts_644
  refine go_n (by rw [hl_3082] <;> decide +kernel) ?_
  refine go_jn (fun j676 hj_3084 => ?_)
  refine go_lt (a := 1) (show _ = nI 1 by rw [hl_3082] <;> decide +kernel) (fun y653_1 hy_3085 => ?_)
  refine go_n (by rw [hy_3085] <;> decide +kernel) ?_
  refine go_lt (a := 1) (show _ = nI 1 by rw [hl_3082] <;> decide +kernel) (fun y664_2 hy_3086 => ?_)
  refine go_p (by rw [hy_3086] <;> decide +kernel) ?_
  rw [hj_3084]
  refine go_bd (c := 68) (S := Sq_329) (k_type (show _ = nI 49 by decide +kernel) (Nat.le_of_ble_eq_true rfl) K_3081 (by decide +kernel)) (fun r_676 hr_3087 K_3088 => ?_)
  refine go_p (by rw [hr_3087, hl_3082] <;> decide +kernel) ?_
  rw [hs_3083]
  refine go_u1 (n := 8123) (a0 := 68) (show _ = nI 68 by rw [hl_3082] <;> decide +kernel) (fun self644 hs_3090 x1_644 hl_3089 => ?_)
  unfold L_L_texts_644
  refine go_n (by rw [hl_3089] <;> decide +kernel) ?_
  refine go_jn (fun j676 hj_3091 => ?_)
  refine go_lt (a := 2) (show _ = nI 2 by rw [hl_3089] <;> decide +kernel) (fun y653_1 hy_3092 => ?_)
  refine go_n (by rw [hy_3092] <;> decide +kernel) ?_
  refine go_lt (a := 2) (show _ = nI 2 by rw [hl_3089] <;> decide +kernel) (fun y664_2 hy_3093 => ?_)
  refine go_n (by rw [hy_3093] <;> decide +kernel) ?_
  rw [hj_3091]
  refine go_bd (c := 69) (S := Sq_330) (k_type (show _ = nI 59 by decide +kernel) (Nat.le_of_ble_eq_true rfl) K_3088 (by decide +kernel)) (fun r_676 hr_3094 K_3095 => ?_)
  refine go_p (by rw [hr_3094, hl_3089] <;> decide +kernel) ?_
  rw [hs_3090]
  refine go_u1 (n := 8122) (a0 := 69) (show _ = nI 69 by rw [hl_3089] <;> decide +kernel) (fun self644 hs_3097 x1_644 hl_3096 => ?_)
  unfold L_L_texts_644
  refine go_n (by rw [hl_3096] <;> decide +kernel) ?_
  refine go_jn (fun j676 hj_3098 => ?_)
  refine go_lt (a := 0) (show _ = nI 0 by rw [hl_3096] <;> decide +kernel) (fun y653_1 hy_3099 => ?_)
  refine go_p (by rw [hy_3099] <;> decide +kernel) ?_
  rw [hj_3098]
  refine go_bd (c := 70) (S := Sq_331) (k_type (show _ = nI 116 by decide +kernel) (Nat.le_of_ble_eq_true rfl) K_3095 (by decide +kernel)) (fun r_676 hr_3100 K_3101 => ?_)
  refine go_p (by rw [hr_3100, hl_3096] <;> decide +kernel) ?_
  rw [hs_3097]
  refine go_u1 (n := 8121) (a0 := 70) (show _ = nI 70 by rw [hl_3096] <;> decide +kernel) (fun self644 hs_3103 x1_644 hl_3102 => ?_)
  unfold L_L_texts_644
  refine go_n (by rw [hl_3102] <;> decide +kernel) ?_
  refine go_jn (fun j676 hj_3104 => ?_)
  refine go_lt (a := 1) (show _ = nI 1 by rw [hl_3102] <;> decide +kernel) (fun y653_1 hy_3105 => ?_)
  refine go_n (by rw [hy_3105] <;> decide +kernel) ?_
  refine go_lt (a := 1) (show _ = nI 1 by rw [hl_3102] <;> decide +kernel) (fun y664_2 hy_3106 => ?_)
  refine go_p (by rw [hy_3106] <;> decide +kernel) ?_
  rw [hj_3104]
  refine go_bd (c := 71) (S := Sq_332) (k_type (show _ = nI 49 by decide +kernel) (Nat.le_of_ble_eq_true rfl) K_3101 (by decide +kernel)) (fun r_676 hr_3107 K_3108 => ?_)
  refine go_p (by rw [hr_3107, hl_3102] <;> decide +kernel) ?_
  rw [hs_3103]
  refine go_u1 (n := 8120) (a0 := 71) (show _ = nI 71 by rw [hl_3102] <;> decide +kernel) (fun self644 hs_3110 x1_644 hl_3109 => ?_)
  unfold L_L_texts_644
  refine go_n (by rw [hl_3109] <;> decide +kernel) ?_
  refine go_jn (fun j676 hj_3111 => ?_)
  refine go_lt (a := 2) (show _ = nI 2 by rw [hl_3109] <;> decide +kernel) (fun y653_1 hy_3112 => ?_)
  refine go_n (by rw [hy_3112] <;> decide +kernel) ?_
  refine go_lt (a := 2) (show _ = nI 2 by rw [hl_3109] <;> decide +kernel) (fun y664_2 hy_3113 => ?_)
  refine go_n (by rw [hy_3113] <;> decide +kernel) ?_
  rw [hj_3111]
  refine go_bd (c := 72) (S := Sq_333) (k_type (show _ = nI 59 by decide +kernel) (Nat.le_of_ble_eq_true rfl) K_3108 (by decide +kernel)) (fun r_676 hr_3114 K_3115 => ?_)
  refine go_p (by rw [hr_3114, hl_3109] <;> decide +kernel) ?_
  rw [hs_3110]
  refine go_u1 (n := 8119) (a0 := 72) (show _ = nI 72 by rw [hl_3109] <;> decide +kernel) (fun self644 hs_3117 x1_644 hl_3116 => ?_)
  unfold L_L_texts_644
  refine go_n (by rw [hl_3116] <;> decide +kernel) ?_
  refine go_jn (fun j676 hj_3118 => ?_)
  refine go_lt (a := 0) (show _ = nI 0 by rw [hl_3116] <;> decide +kernel) (fun y653_1 hy_3119 => ?_)
  refine go_p (by rw [hy_3119] <;> decide +kernel) ?_
  rw [hj_3118]
  refine go_bd (c := 73) (S := Sq_334) (k_type (show _ = nI 116 by decide +kernel) (Nat.le_of_ble_eq_true rfl) K_3115 (by decide +kernel)) (fun r_676 hr_3120 K_3121 => ?_)
  refine go_p (by rw [hr_3120, hl_3116] <;> decide +kernel) ?_
  rw [hs_3117]
  refine go_u1 (n := 8118) (a0 := 73) (show _ = nI 73 by rw [hl_3116] <;> decide +kernel) (fun self644 hs_3123 x1_644 hl_3122 => ?_)
  unfold L_L_texts_644
  refine go_n (by rw [hl_3122] <;> decide +kernel) ?_
  refine go_jn (fun j676 hj_3124 => ?_)
  refine go_lt (a := 1) (show _ = nI 1 by rw [hl_3122] <;> decide +kernel) (fun y653_1 hy_3125 => ?_)
  refine go_n (by rw [hy_3125] <;> decide +kernel) ?_
  refine go_lt (a := 1) (show _ = nI 1 by rw [hl_3122] <;> decide +kernel) (fun y664_2 hy_3126 => ?_)
  refine go_p (by rw [hy_3126] <;> decide +kernel) ?_
  rw [hj_3124]
  refine go_bd (c := 74) (S := Sq_335) (k_type (show _ = nI 49 by decide +kernel) (Nat.le_of_ble_eq_true rfl) K_3121 (by decide +kernel)) (fun r_676 hr_3127 K_3128 => ?_)
  refine go_p (by rw [hr_3127, hl_3122] <;> decide +kernel) ?_
  rw [hs_3123]
  refine go_u1 (n := 8117) (a0 := 74) (show _ = nI 74 by rw [hl_3122] <;> decide +kernel) (fun self644 hs_3130 x1_644 hl_3129 => ?_)
  unfold L_L_texts_644
  refine go_n (by rw [hl_3129] <;> decide +kernel) ?_
  refine go_jn (fun j676 hj_3131 => ?_)
  refine go_lt (a := 2) (show _ = nI 2 by rw [hl_3129] <;> decide +kernel) (fun y653_1 hy_3132 => ?_)
  refine go_n (by rw [hy_3132] <;> decide +kernel) ?_
  refine go_lt (a := 2) (show _ = nI 2 by rw [hl_3129] <;> decide +kernel) (fun y664_2 hy_3133 => ?_)
  refine go_n (by rw [hy_3133] <;> decide +kernel) ?_
  rw [hj_3131]
  refine go_bd (c := 75) (S := Sq_336) (k_type (show _ = nI 59 by decide +kernel) (Nat.le_of_ble_eq_true rfl) K_3128 (by decide +kernel)) (fun r_676 hr_3134 K_3135 => ?_)
  refine go_p (by rw [hr_3134, hl_3129] <;> decide +kernel) ?_
  rw [hs_3130]
  refine go_u1 (n := 8116) (a0 := 75) (show _ = nI 75 by rw [hl_3129] <;> decide +kernel) (fun self644 hs_3137 x1_644 hl_3136 => ?_)
  unfold L_L_texts_644
  refine go_n (by rw [hl_3136] <;> decide +kernel) ?_
  refine go_jn (fun j676 hj_3138 => ?_)
  refine go_lt (a := 0) (show _ = nI 0 by rw [hl_3136] <;> decide +kernel) (fun y653_1 hy_3139 => ?_)
  refine go_p (by rw [hy_3139] <;> decide +kernel) ?_
  rw [hj_3138]
  refine go_bd (c := 76) (S := Sq_337) (k_type (show _ = nI 116 by decide +kernel) (Nat.le_of_ble_eq_true rfl) K_3135 (by decide +kernel)) (fun r_676 hr_3140 K_3141 => ?_)
  refine go_p (by rw [hr_3140, hl_3136] <;> decide +kernel) ?_
  rw [hs_3137]
  refine go_u1 (n := 8115) (a0 := 76) (show _ = nI 76 by rw [hl_3136] <;> decide +kernel) (fun self644 hs_3143 x1_644 hl_3142 => ?_)
  unfold L_L_texts_644
  refine go_n (by rw [hl_3142] <;> decide +kernel) ?_
  refine go_jn (fun j676 hj_3144 => ?_)
  refine go_lt (a := 1) (show _ = nI 1 by rw [hl_3142] <;> decide +kernel) (fun y653_1 hy_3145 => ?_)
  refine go_n (by rw [hy_3145] <;> decide +kernel) ?_
  refine go_lt (a := 1) (show _ = nI 1 by rw [hl_3142] <;> decide +kernel) (fun y664_2 hy_3146 => ?_)
  refine go_p (by rw [hy_3146] <;> decide +kernel) ?_
  rw [hj_3144]
  refine go_bd (c := 77) (S := Sq_338) (k_type (show _ = nI 49 by decide +kernel) (Nat.le_of_ble_eq_true rfl) K_3141 (by decide +kernel)) (fun r_676 hr_3147 K_3148 => ?_)
  refine go_p (by rw [hr_3147, hl_3142] <;> decide +kernel) ?_
  rw [hs_3143]
  refine go_u1 (n := 8114) (a0 := 77) (show _ = nI 77 by rw [hl_3142] <;> decide +kernel) (fun self644 hs_3150 x1_644 hl_3149 => ?_)
  unfold L_L_texts_644
  refine go_n (by rw [hl_3149] <;> decide +kernel) ?_
  refine go_jn (fun j676 hj_3151 => ?_)
  refine go_lt (a := 2) (show _ = nI 2 by rw [hl_3149] <;> decide +kernel) (fun y653_1 hy_3152 => ?_)
  refine go_n (by rw [hy_3152] <;> decide +kernel) ?_
  refine go_lt (a := 2) (show _ = nI 2 by rw [hl_3149] <;> decide +kernel) (fun y664_2 hy_3153 => ?_)
  refine go_n (by rw [hy_3153] <;> decide +kernel) ?_
  rw [hj_3151]
  refine go_bd (c := 78) (S := Sq_339) (k_type (show _ = nI 59 by decide +kernel) (Nat.le_of_ble_eq_true rfl) K_3148 (by decide +kernel)) (fun r_676 hr_3154 K_3155 => ?_)
  refine go_p (by rw [hr_3154, hl_3149] <;> decide +kernel) ?_
  rw [hs_3150]
  refine go_u1 (n := 8113) (a0 := 78) (show _ = nI 78 by rw [hl_3149] <;> decide +kernel) (fun self644 hs_3157 x1_644 hl_3156 => ?_)
  unfold L_L_texts_644
  refine go_n (by rw [hl_3156] <;> decide +kernel) ?_
  refine go_jn (fun j676 hj_3158 => ?_)
  refine go_lt (a := 0) (show _ = nI 0 by rw [hl_3156] <;> decide +kernel) (fun y653_1 hy_3159 => ?_)
  refine go_p (by rw [hy_3159] <;> decide +kernel) ?_
  rw [hj_3158]
  refine go_bd (c := 79) (S := Sq_340) (k_type (show _ = nI 116 by decide +kernel) (Nat.le_of_ble_eq_true rfl) K_3155 (by decide +kernel)) (fun r_676 hr_3160 K_3161 => ?_)
  refine go_p (by rw [hr_3160, hl_3156] <;> decide +kernel) ?_
  rw [hs_3157]
  refine go_u1 (n := 8112) (a0 := 79) (show _ = nI 79 by rw [hl_3156] <;> decide +kernel) (fun self644 hs_3163 x1_644 hl_3162 => ?_)
  unfold L_L_texts_644
  refine go_n (by rw [hl_3162] <;> decide +kernel) ?_
  refine go_jn (fun j676 hj_3164 => ?_)
  refine go_lt (a := 1) (show _ = nI 1 by rw [hl_3162] <;> decide +kernel) (fun y653_1 hy_3165 => ?_)
  refine go_n (by rw [hy_3165] <;> decide +kernel) ?_
  refine go_lt (a := 1) (show _ = nI 1 by rw [hl_3162] <;> decide +kernel) (fun y664_2 hy_3166 => ?_)
  refine go_p (by rw [hy_3166] <;> decide +kernel) ?_
  rw [hj_3164]
  refine go_bd (c := 80) (S := Sq_341) (k_type (show _ = nI 49 by decide +kernel) (Nat.le_of_ble_eq_true rfl) K_3161 (by decide +kernel)) (fun r_676 hr_3167 K_3168 => ?_)
  refine go_p (by rw [hr_3167, hl_3162] <;> decide +kernel) ?_
  rw [hs_3163]
  refine go_u1 (n := 8111) (a0 := 80) (show _ = nI 80 by rw [hl_3162] <;> decide +kernel) (fun self644 hs_3170 x1_644 hl_3169 => ?_)
  unfold L_L_texts_644
  refine go_p (by rw [hl_3169] <;> decide +kernel) ?_
  refine go_bd (c := 4294965283) (S := Sq_341) ?_ (fun r_700 hr_3171 K_3172 => ?_)
  · unfold f_L_call
    refine go_n (by decide +kernel) ?_
    refine go_n (by decide +kernel) ?_
    refine go_n (by decide +kernel) ?_
    unfold f_L_rest
    refine go_hp (by decide +kernel) ?_
    exact hc_tb (k := 3) (t_type (show _ = nI 120 by decide +kernel) (Nat.le_of_ble_eq_true rfl) K_3168 (by decide +kernel)) (by decide) (by decide +kernel)
  refine go_p (by rw [hr_3171] <;> decide +kernel) ?_
  refine go_bd (c := 4294967295) (S := Sq_342) (k_letterError  K_3172 (by decide +kernel)) (fun r_710 hr_3173 K_3174 => ?_)
  refine go_p (by rw [hr_3173] <;> decide +kernel) ?_
  refine go_bd (c := 80) (S := Sq_343) (k_clearLetter  K_3174 (by decide +kernel)) (fun r_718 hr_3175 K_3176 => ?_)
  refine go_p (by rw [hr_3175] <;> decide +kernel) ?_
  refine go_bd (c := 1) (S := Sq_344) (k_type (qi_lit 960) (Nat.le_of_ble_eq_true rfl) K_3176 (by decide +kernel)) (fun r_730 hr_3177 K_3178 => ?_)
  refine go_p (by rw [hr_3177] <;> decide +kernel) ?_
  refine go_bd (c := 0) (S := Sq_345) (k_letterError  K_3178 (by decide +kernel)) (fun r_738 hr_3179 K_3180 => ?_)
  refine go_p (by rw [hr_3179] <;> decide +kernel) ?_
  refine go_bd (c := 1) (S := Sq_346) (k_clearLetter  K_3180 (by decide +kernel)) (fun r_745 hr_3181 K_3182 => ?_)
  refine go_p (by rw [hr_3181] <;> decide +kernel) ?_
  refine go_z1 ?_
  exact go_s (qi_lit 1) K_3182
theorem ok_L_texts : TI 1 f_L_texts := ti_b (run_texts ⟨rm0_texts, _, IV_0⟩)

-- PRINTED by wip/whole/gen.py: a row an instruction: where the machine stands behind it
section Steps
variable {G : am_G} {d : Nat} {K : am_K} {h : am_H} {nc ns : Nat}
theorem e_82_0 : pg_code 82 0 = some (.aload_n 0, 1, 0, 0) := by decide +kernel
theorem u_82_0 {a : Nat} {lv : am_L} {st : List Value} : am_W G (am_M G d) 82 K 0 (some (.ref a) :: lv) st h nc ns = (am_W G (am_M G d) 82 K 1 (some (.ref a) :: lv) (.ref a :: st) h nc ns) := am_u e_82_0
theorem e_82_1 : pg_code 82 1 = some (.invokespecial 1, 3, 900, 1) := by decide +kernel
theorem u_82_1 {a : Nat} {lv : am_L} {st : List Value} : am_W G (am_M G d) 82 K 1 lv (.ref a :: st) h nc ns = (am_words st ≤ 8 ∧ am_W G (am_M G d) 82 K 4 lv st h nc ns) := am_u e_82_1
theorem e_82_4 : pg_code 82 4 = some (.aload_n 0, 1, 0, 0) := by decide +kernel
theorem u_82_4 {a : Nat} {lv : am_L} {st : List Value} : am_W G (am_M G d) 82 K 4 (some (.ref a) :: lv) st h nc ns = (am_W G (am_M G d) 82 K 5 (some (.ref a) :: lv) (.ref a :: st) h nc ns) := am_u e_82_4
theorem e_82_5 : pg_code 82 5 = some (.sipush 2550, 3, 0, 0) := by decide +kernel
theorem u_82_5 {lv : am_L} {st : List Value} : am_W G (am_M G d) 82 K 5 lv st h nc ns = (am_W G (am_M G d) 82 K 8 lv (.int 2550 :: st) h nc ns) := am_u e_82_5
theorem e_82_8 : pg_code 82 8 = some (.newarray .int, 2, 0, 0) := by decide +kernel
theorem e_82_10 : pg_code 82 10 = some (.putfield 7, 3, 7, 4) := by decide +kernel
theorem u_82_10 {a b : Nat} {lv : am_L} {st : List Value} : am_W G (am_M G d) 82 K 10 lv (.ref b :: .ref a :: st) h nc ns = (f_pf G d 82 K 13 lv st h nc ns (h a) 7 4 a (.ref b)) := (am_u e_82_10).trans (f_pf_eq ⟨rfl, rfl⟩)
theorem e_82_13 : pg_code 82 13 = some (.aload_n 0, 1, 0, 0) := by decide +kernel
theorem u_82_13 {a : Nat} {lv : am_L} {st : List Value} : am_W G (am_M G d) 82 K 13 (some (.ref a) :: lv) st h nc ns = (am_W G (am_M G d) 82 K 14 (some (.ref a) :: lv) (.ref a :: st) h nc ns) := am_u e_82_13
theorem e_82_14 : pg_code 82 14 = some (.sipush 2550, 3, 0, 0) := by decide +kernel
theorem u_82_14 {lv : am_L} {st : List Value} : am_W G (am_M G d) 82 K 14 lv st h nc ns = (am_W G (am_M G d) 82 K 17 lv (.int 2550 :: st) h nc ns) := am_u e_82_14
theorem e_82_17 : pg_code 82 17 = some (.newarray .int, 2, 0, 0) := by decide +kernel
theorem e_82_19 : pg_code 82 19 = some (.putfield 13, 3, 7, 5) := by decide +kernel
theorem u_82_19 {a b : Nat} {lv : am_L} {st : List Value} : am_W G (am_M G d) 82 K 19 lv (.ref b :: .ref a :: st) h nc ns = (f_pf G d 82 K 22 lv st h nc ns (h a) 7 5 a (.ref b)) := (am_u e_82_19).trans (f_pf_eq ⟨rfl, rfl⟩)
theorem e_82_22 : pg_code 82 22 = some (.aload_n 0, 1, 0, 0) := by decide +kernel
theorem u_82_22 {a : Nat} {lv : am_L} {st : List Value} : am_W G (am_M G d) 82 K 22 (some (.ref a) :: lv) st h nc ns = (am_W G (am_M G d) 82 K 23 (some (.ref a) :: lv) (.ref a :: st) h nc ns) := am_u e_82_22
theorem e_82_23 : pg_code 82 23 = some (.sipush 2550, 3, 0, 0) := by decide +kernel
theorem u_82_23 {lv : am_L} {st : List Value} : am_W G (am_M G d) 82 K 23 lv st h nc ns = (am_W G (am_M G d) 82 K 26 lv (.int 2550 :: st) h nc ns) := am_u e_82_23
theorem e_82_26 : pg_code 82 26 = some (.newarray .int, 2, 0, 0) := by decide +kernel
theorem e_82_28 : pg_code 82 28 = some (.putfield 16, 3, 7, 6) := by decide +kernel
theorem u_82_28 {a b : Nat} {lv : am_L} {st : List Value} : am_W G (am_M G d) 82 K 28 lv (.ref b :: .ref a :: st) h nc ns = (f_pf G d 82 K 31 lv st h nc ns (h a) 7 6 a (.ref b)) := (am_u e_82_28).trans (f_pf_eq ⟨rfl, rfl⟩)
theorem e_82_31 : pg_code 82 31 = some (.aload_n 0, 1, 0, 0) := by decide +kernel
theorem u_82_31 {a : Nat} {lv : am_L} {st : List Value} : am_W G (am_M G d) 82 K 31 (some (.ref a) :: lv) st h nc ns = (am_W G (am_M G d) 82 K 32 (some (.ref a) :: lv) (.ref a :: st) h nc ns) := am_u e_82_31
theorem e_82_32 : pg_code 82 32 = some (.sipush 2550, 3, 0, 0) := by decide +kernel
theorem u_82_32 {lv : am_L} {st : List Value} : am_W G (am_M G d) 82 K 32 lv st h nc ns = (am_W G (am_M G d) 82 K 35 lv (.int 2550 :: st) h nc ns) := am_u e_82_32
theorem e_82_35 : pg_code 82 35 = some (.newarray .boolean, 2, 0, 0) := by decide +kernel
theorem e_82_37 : pg_code 82 37 = some (.putfield 19, 3, 7, 7) := by decide +kernel
theorem u_82_37 {a b : Nat} {lv : am_L} {st : List Value} : am_W G (am_M G d) 82 K 37 lv (.ref b :: .ref a :: st) h nc ns = (f_pf G d 82 K 40 lv st h nc ns (h a) 7 7 a (.ref b)) := (am_u e_82_37).trans (f_pf_eq ⟨rfl, rfl⟩)
theorem e_82_40 : pg_code 82 40 = some (.aload_n 0, 1, 0, 0) := by decide +kernel
theorem u_82_40 {a : Nat} {lv : am_L} {st : List Value} : am_W G (am_M G d) 82 K 40 (some (.ref a) :: lv) st h nc ns = (am_W G (am_M G d) 82 K 41 (some (.ref a) :: lv) (.ref a :: st) h nc ns) := am_u e_82_40
theorem e_82_41 : pg_code 82 41 = some (.sipush 2550, 3, 0, 0) := by decide +kernel
theorem u_82_41 {lv : am_L} {st : List Value} : am_W G (am_M G d) 82 K 41 lv st h nc ns = (am_W G (am_M G d) 82 K 44 lv (.int 2550 :: st) h nc ns) := am_u e_82_41
theorem e_82_44 : pg_code 82 44 = some (.newarray .int, 2, 0, 0) := by decide +kernel
theorem e_82_46 : pg_code 82 46 = some (.putfield 23, 3, 7, 8) := by decide +kernel
theorem u_82_46 {a b : Nat} {lv : am_L} {st : List Value} : am_W G (am_M G d) 82 K 46 lv (.ref b :: .ref a :: st) h nc ns = (f_pf G d 82 K 49 lv st h nc ns (h a) 7 8 a (.ref b)) := (am_u e_82_46).trans (f_pf_eq ⟨rfl, rfl⟩)
theorem e_82_49 : pg_code 82 49 = some (.aload_n 0, 1, 0, 0) := by decide +kernel
theorem u_82_49 {a : Nat} {lv : am_L} {st : List Value} : am_W G (am_M G d) 82 K 49 (some (.ref a) :: lv) st h nc ns = (am_W G (am_M G d) 82 K 50 (some (.ref a) :: lv) (.ref a :: st) h nc ns) := am_u e_82_49
theorem e_82_50 : pg_code 82 50 = some (.sipush 2550, 3, 0, 0) := by decide +kernel
theorem u_82_50 {lv : am_L} {st : List Value} : am_W G (am_M G d) 82 K 50 lv st h nc ns = (am_W G (am_M G d) 82 K 53 lv (.int 2550 :: st) h nc ns) := am_u e_82_50
theorem e_82_53 : pg_code 82 53 = some (.newarray .long, 2, 0, 0) := by decide +kernel
theorem e_82_55 : pg_code 82 55 = some (.putfield 26, 3, 7, 9) := by decide +kernel
theorem u_82_55 {a b : Nat} {lv : am_L} {st : List Value} : am_W G (am_M G d) 82 K 55 lv (.ref b :: .ref a :: st) h nc ns = (f_pf G d 82 K 58 lv st h nc ns (h a) 7 9 a (.ref b)) := (am_u e_82_55).trans (f_pf_eq ⟨rfl, rfl⟩)
theorem e_82_58 : pg_code 82 58 = some (.aload_n 0, 1, 0, 0) := by decide +kernel
theorem u_82_58 {a : Nat} {lv : am_L} {st : List Value} : am_W G (am_M G d) 82 K 58 (some (.ref a) :: lv) st h nc ns = (am_W G (am_M G d) 82 K 59 (some (.ref a) :: lv) (.ref a :: st) h nc ns) := am_u e_82_58
theorem e_82_59 : pg_code 82 59 = some (.sipush 2550, 3, 0, 0) := by decide +kernel
theorem u_82_59 {lv : am_L} {st : List Value} : am_W G (am_M G d) 82 K 59 lv st h nc ns = (am_W G (am_M G d) 82 K 62 lv (.int 2550 :: st) h nc ns) := am_u e_82_59
theorem e_82_62 : pg_code 82 62 = some (.newarray .int, 2, 0, 0) := by decide +kernel
theorem e_82_64 : pg_code 82 64 = some (.putfield 30, 3, 7, 10) := by decide +kernel
theorem u_82_64 {a b : Nat} {lv : am_L} {st : List Value} : am_W G (am_M G d) 82 K 64 lv (.ref b :: .ref a :: st) h nc ns = (f_pf G d 82 K 67 lv st h nc ns (h a) 7 10 a (.ref b)) := (am_u e_82_64).trans (f_pf_eq ⟨rfl, rfl⟩)
theorem e_82_67 : pg_code 82 67 = some (.aload_n 0, 1, 0, 0) := by decide +kernel
theorem u_82_67 {a : Nat} {lv : am_L} {st : List Value} : am_W G (am_M G d) 82 K 67 (some (.ref a) :: lv) st h nc ns = (am_W G (am_M G d) 82 K 68 (some (.ref a) :: lv) (.ref a :: st) h nc ns) := am_u e_82_67
theorem e_82_68 : pg_code 82 68 = some (.sipush 2550, 3, 0, 0) := by decide +kernel
theorem u_82_68 {lv : am_L} {st : List Value} : am_W G (am_M G d) 82 K 68 lv st h nc ns = (am_W G (am_M G d) 82 K 71 lv (.int 2550 :: st) h nc ns) := am_u e_82_68
theorem e_82_71 : pg_code 82 71 = some (.newarray .int, 2, 0, 0) := by decide +kernel
theorem e_82_73 : pg_code 82 73 = some (.putfield 33, 3, 7, 11) := by decide +kernel
theorem u_82_73 {a b : Nat} {lv : am_L} {st : List Value} : am_W G (am_M G d) 82 K 73 lv (.ref b :: .ref a :: st) h nc ns = (f_pf G d 82 K 76 lv st h nc ns (h a) 7 11 a (.ref b)) := (am_u e_82_73).trans (f_pf_eq ⟨rfl, rfl⟩)
theorem e_82_76 : pg_code 82 76 = some (.aload_n 0, 1, 0, 0) := by decide +kernel
theorem u_82_76 {a : Nat} {lv : am_L} {st : List Value} : am_W G (am_M G d) 82 K 76 (some (.ref a) :: lv) st h nc ns = (am_W G (am_M G d) 82 K 77 (some (.ref a) :: lv) (.ref a :: st) h nc ns) := am_u e_82_76
theorem e_82_77 : pg_code 82 77 = some (.sipush 2550, 3, 0, 0) := by decide +kernel
theorem u_82_77 {lv : am_L} {st : List Value} : am_W G (am_M G d) 82 K 77 lv st h nc ns = (am_W G (am_M G d) 82 K 80 lv (.int 2550 :: st) h nc ns) := am_u e_82_77
theorem e_82_80 : pg_code 82 80 = some (.newarray .int, 2, 0, 0) := by decide +kernel
theorem e_82_82 : pg_code 82 82 = some (.putfield 36, 3, 7, 12) := by decide +kernel
theorem u_82_82 {a b : Nat} {lv : am_L} {st : List Value} : am_W G (am_M G d) 82 K 82 lv (.ref b :: .ref a :: st) h nc ns = (f_pf G d 82 K 85 lv st h nc ns (h a) 7 12 a (.ref b)) := (am_u e_82_82).trans (f_pf_eq ⟨rfl, rfl⟩)
theorem e_82_85 : pg_code 82 85 = some (.aload_n 0, 1, 0, 0) := by decide +kernel
theorem u_82_85 {a : Nat} {lv : am_L} {st : List Value} : am_W G (am_M G d) 82 K 85 (some (.ref a) :: lv) st h nc ns = (am_W G (am_M G d) 82 K 86 (some (.ref a) :: lv) (.ref a :: st) h nc ns) := am_u e_82_85
theorem e_82_86 : pg_code 82 86 = some (.sipush 2550, 3, 0, 0) := by decide +kernel
theorem u_82_86 {lv : am_L} {st : List Value} : am_W G (am_M G d) 82 K 86 lv st h nc ns = (am_W G (am_M G d) 82 K 89 lv (.int 2550 :: st) h nc ns) := am_u e_82_86
theorem e_82_89 : pg_code 82 89 = some (.newarray .boolean, 2, 0, 0) := by decide +kernel
theorem e_82_91 : pg_code 82 91 = some (.putfield 39, 3, 7, 13) := by decide +kernel
theorem u_82_91 {a b : Nat} {lv : am_L} {st : List Value} : am_W G (am_M G d) 82 K 91 lv (.ref b :: .ref a :: st) h nc ns = (f_pf G d 82 K 94 lv st h nc ns (h a) 7 13 a (.ref b)) := (am_u e_82_91).trans (f_pf_eq ⟨rfl, rfl⟩)
theorem e_82_94 : pg_code 82 94 = some (.aload_n 0, 1, 0, 0) := by decide +kernel
theorem u_82_94 {a : Nat} {lv : am_L} {st : List Value} : am_W G (am_M G d) 82 K 94 (some (.ref a) :: lv) st h nc ns = (am_W G (am_M G d) 82 K 95 (some (.ref a) :: lv) (.ref a :: st) h nc ns) := am_u e_82_94
theorem e_82_95 : pg_code 82 95 = some (.sipush 2550, 3, 0, 0) := by decide +kernel
theorem u_82_95 {lv : am_L} {st : List Value} : am_W G (am_M G d) 82 K 95 lv st h nc ns = (am_W G (am_M G d) 82 K 98 lv (.int 2550 :: st) h nc ns) := am_u e_82_95
theorem e_82_98 : pg_code 82 98 = some (.newarray .long, 2, 0, 0) := by decide +kernel
theorem e_82_100 : pg_code 82 100 = some (.putfield 42, 3, 7, 14) := by decide +kernel
theorem u_82_100 {a b : Nat} {lv : am_L} {st : List Value} : am_W G (am_M G d) 82 K 100 lv (.ref b :: .ref a :: st) h nc ns = (f_pf G d 82 K 103 lv st h nc ns (h a) 7 14 a (.ref b)) := (am_u e_82_100).trans (f_pf_eq ⟨rfl, rfl⟩)
theorem e_82_103 : pg_code 82 103 = some (.aload_n 0, 1, 0, 0) := by decide +kernel
theorem u_82_103 {a : Nat} {lv : am_L} {st : List Value} : am_W G (am_M G d) 82 K 103 (some (.ref a) :: lv) st h nc ns = (am_W G (am_M G d) 82 K 104 (some (.ref a) :: lv) (.ref a :: st) h nc ns) := am_u e_82_103
theorem e_82_104 : pg_code 82 104 = some (.sipush 2550, 3, 0, 0) := by decide +kernel
theorem u_82_104 {lv : am_L} {st : List Value} : am_W G (am_M G d) 82 K 104 lv st h nc ns = (am_W G (am_M G d) 82 K 107 lv (.int 2550 :: st) h nc ns) := am_u e_82_104
theorem e_82_107 : pg_code 82 107 = some (.newarray .long, 2, 0, 0) := by decide +kernel
theorem e_82_109 : pg_code 82 109 = some (.putfield 45, 3, 7, 15) := by decide +kernel
theorem u_82_109 {a b : Nat} {lv : am_L} {st : List Value} : am_W G (am_M G d) 82 K 109 lv (.ref b :: .ref a :: st) h nc ns = (f_pf G d 82 K 112 lv st h nc ns (h a) 7 15 a (.ref b)) := (am_u e_82_109).trans (f_pf_eq ⟨rfl, rfl⟩)
theorem e_82_112 : pg_code 82 112 = some (.aload_n 0, 1, 0, 0) := by decide +kernel
theorem u_82_112 {a : Nat} {lv : am_L} {st : List Value} : am_W G (am_M G d) 82 K 112 (some (.ref a) :: lv) st h nc ns = (am_W G (am_M G d) 82 K 113 (some (.ref a) :: lv) (.ref a :: st) h nc ns) := am_u e_82_112
theorem e_82_113 : pg_code 82 113 = some (.sipush 2550, 3, 0, 0) := by decide +kernel
theorem u_82_113 {lv : am_L} {st : List Value} : am_W G (am_M G d) 82 K 113 lv st h nc ns = (am_W G (am_M G d) 82 K 116 lv (.int 2550 :: st) h nc ns) := am_u e_82_113
theorem e_82_116 : pg_code 82 116 = some (.newarray .boolean, 2, 0, 0) := by decide +kernel
theorem e_82_118 : pg_code 82 118 = some (.putfield 48, 3, 7, 16) := by decide +kernel
theorem u_82_118 {a b : Nat} {lv : am_L} {st : List Value} : am_W G (am_M G d) 82 K 118 lv (.ref b :: .ref a :: st) h nc ns = (f_pf G d 82 K 121 lv st h nc ns (h a) 7 16 a (.ref b)) := (am_u e_82_118).trans (f_pf_eq ⟨rfl, rfl⟩)
theorem e_82_121 : pg_code 82 121 = some (.aload_n 0, 1, 0, 0) := by decide +kernel
theorem u_82_121 {a : Nat} {lv : am_L} {st : List Value} : am_W G (am_M G d) 82 K 121 (some (.ref a) :: lv) st h nc ns = (am_W G (am_M G d) 82 K 122 (some (.ref a) :: lv) (.ref a :: st) h nc ns) := am_u e_82_121
theorem e_82_122 : pg_code 82 122 = some (.sipush 1020, 3, 0, 0) := by decide +kernel
theorem u_82_122 {lv : am_L} {st : List Value} : am_W G (am_M G d) 82 K 122 lv st h nc ns = (am_W G (am_M G d) 82 K 125 lv (.int 1020 :: st) h nc ns) := am_u e_82_122
theorem e_82_125 : pg_code 82 125 = some (.newarray .long, 2, 0, 0) := by decide +kernel
theorem e_82_127 : pg_code 82 127 = some (.putfield 51, 3, 7, 17) := by decide +kernel
theorem u_82_127 {a b : Nat} {lv : am_L} {st : List Value} : am_W G (am_M G d) 82 K 127 lv (.ref b :: .ref a :: st) h nc ns = (f_pf G d 82 K 130 lv st h nc ns (h a) 7 17 a (.ref b)) := (am_u e_82_127).trans (f_pf_eq ⟨rfl, rfl⟩)
theorem e_82_130 : pg_code 82 130 = some (.aload_n 0, 1, 0, 0) := by decide +kernel
theorem u_82_130 {a : Nat} {lv : am_L} {st : List Value} : am_W G (am_M G d) 82 K 130 (some (.ref a) :: lv) st h nc ns = (am_W G (am_M G d) 82 K 131 (some (.ref a) :: lv) (.ref a :: st) h nc ns) := am_u e_82_130
theorem e_82_131 : pg_code 82 131 = some (.iconst 4, 1, 0, 0) := by decide +kernel
theorem u_82_131 {lv : am_L} {st : List Value} : am_W G (am_M G d) 82 K 131 lv st h nc ns = (am_W G (am_M G d) 82 K 132 lv (.int 4 :: st) h nc ns) := am_u e_82_131
theorem e_82_132 : pg_code 82 132 = some (.newarray .int, 2, 0, 0) := by decide +kernel
theorem e_82_134 : pg_code 82 134 = some (.putfield 54, 3, 7, 19) := by decide +kernel
theorem u_82_134 {a b : Nat} {lv : am_L} {st : List Value} : am_W G (am_M G d) 82 K 134 lv (.ref b :: .ref a :: st) h nc ns = (f_pf G d 82 K 137 lv st h nc ns (h a) 7 19 a (.ref b)) := (am_u e_82_134).trans (f_pf_eq ⟨rfl, rfl⟩)
theorem e_82_137 : pg_code 82 137 = some (.aload_n 0, 1, 0, 0) := by decide +kernel
theorem u_82_137 {a : Nat} {lv : am_L} {st : List Value} : am_W G (am_M G d) 82 K 137 (some (.ref a) :: lv) st h nc ns = (am_W G (am_M G d) 82 K 138 (some (.ref a) :: lv) (.ref a :: st) h nc ns) := am_u e_82_137
theorem e_82_138 : pg_code 82 138 = some (.sipush 600, 3, 0, 0) := by decide +kernel
theorem u_82_138 {lv : am_L} {st : List Value} : am_W G (am_M G d) 82 K 138 lv st h nc ns = (am_W G (am_M G d) 82 K 141 lv (.int 600 :: st) h nc ns) := am_u e_82_138
theorem e_82_141 : pg_code 82 141 = some (.newarray .int, 2, 0, 0) := by decide +kernel
theorem e_82_143 : pg_code 82 143 = some (.putfield 57, 3, 7, 20) := by decide +kernel
theorem u_82_143 {a b : Nat} {lv : am_L} {st : List Value} : am_W G (am_M G d) 82 K 143 lv (.ref b :: .ref a :: st) h nc ns = (f_pf G d 82 K 146 lv st h nc ns (h a) 7 20 a (.ref b)) := (am_u e_82_143).trans (f_pf_eq ⟨rfl, rfl⟩)
theorem e_82_146 : pg_code 82 146 = some (.aload_n 0, 1, 0, 0) := by decide +kernel
theorem u_82_146 {a : Nat} {lv : am_L} {st : List Value} : am_W G (am_M G d) 82 K 146 (some (.ref a) :: lv) st h nc ns = (am_W G (am_M G d) 82 K 147 (some (.ref a) :: lv) (.ref a :: st) h nc ns) := am_u e_82_146
theorem e_82_147 : pg_code 82 147 = some (.sipush 600, 3, 0, 0) := by decide +kernel
theorem u_82_147 {lv : am_L} {st : List Value} : am_W G (am_M G d) 82 K 147 lv st h nc ns = (am_W G (am_M G d) 82 K 150 lv (.int 600 :: st) h nc ns) := am_u e_82_147
theorem e_82_150 : pg_code 82 150 = some (.newarray .int, 2, 0, 0) := by decide +kernel
theorem e_82_152 : pg_code 82 152 = some (.putfield 60, 3, 7, 21) := by decide +kernel
theorem u_82_152 {a b : Nat} {lv : am_L} {st : List Value} : am_W G (am_M G d) 82 K 152 lv (.ref b :: .ref a :: st) h nc ns = (f_pf G d 82 K 155 lv st h nc ns (h a) 7 21 a (.ref b)) := (am_u e_82_152).trans (f_pf_eq ⟨rfl, rfl⟩)
theorem e_82_155 : pg_code 82 155 = some (.aload_n 0, 1, 0, 0) := by decide +kernel
theorem u_82_155 {a : Nat} {lv : am_L} {st : List Value} : am_W G (am_M G d) 82 K 155 (some (.ref a) :: lv) st h nc ns = (am_W G (am_M G d) 82 K 156 (some (.ref a) :: lv) (.ref a :: st) h nc ns) := am_u e_82_155
theorem e_82_156 : pg_code 82 156 = some (.sipush 600, 3, 0, 0) := by decide +kernel
theorem u_82_156 {lv : am_L} {st : List Value} : am_W G (am_M G d) 82 K 156 lv st h nc ns = (am_W G (am_M G d) 82 K 159 lv (.int 600 :: st) h nc ns) := am_u e_82_156
theorem e_82_159 : pg_code 82 159 = some (.newarray .int, 2, 0, 0) := by decide +kernel
theorem e_82_161 : pg_code 82 161 = some (.putfield 63, 3, 7, 22) := by decide +kernel
theorem u_82_161 {a b : Nat} {lv : am_L} {st : List Value} : am_W G (am_M G d) 82 K 161 lv (.ref b :: .ref a :: st) h nc ns = (f_pf G d 82 K 164 lv st h nc ns (h a) 7 22 a (.ref b)) := (am_u e_82_161).trans (f_pf_eq ⟨rfl, rfl⟩)
theorem e_82_164 : pg_code 82 164 = some (.aload_n 0, 1, 0, 0) := by decide +kernel
theorem u_82_164 {a : Nat} {lv : am_L} {st : List Value} : am_W G (am_M G d) 82 K 164 (some (.ref a) :: lv) st h nc ns = (am_W G (am_M G d) 82 K 165 (some (.ref a) :: lv) (.ref a :: st) h nc ns) := am_u e_82_164
theorem e_82_165 : pg_code 82 165 = some (.sipush 600, 3, 0, 0) := by decide +kernel
theorem u_82_165 {lv : am_L} {st : List Value} : am_W G (am_M G d) 82 K 165 lv st h nc ns = (am_W G (am_M G d) 82 K 168 lv (.int 600 :: st) h nc ns) := am_u e_82_165
theorem e_82_168 : pg_code 82 168 = some (.newarray .int, 2, 0, 0) := by decide +kernel
theorem e_82_170 : pg_code 82 170 = some (.putfield 66, 3, 7, 23) := by decide +kernel
theorem u_82_170 {a b : Nat} {lv : am_L} {st : List Value} : am_W G (am_M G d) 82 K 170 lv (.ref b :: .ref a :: st) h nc ns = (f_pf G d 82 K 173 lv st h nc ns (h a) 7 23 a (.ref b)) := (am_u e_82_170).trans (f_pf_eq ⟨rfl, rfl⟩)
theorem e_82_173 : pg_code 82 173 = some (.aload_n 0, 1, 0, 0) := by decide +kernel
theorem u_82_173 {a : Nat} {lv : am_L} {st : List Value} : am_W G (am_M G d) 82 K 173 (some (.ref a) :: lv) st h nc ns = (am_W G (am_M G d) 82 K 174 (some (.ref a) :: lv) (.ref a :: st) h nc ns) := am_u e_82_173
theorem e_82_174 : pg_code 82 174 = some (.sipush 600, 3, 0, 0) := by decide +kernel
theorem u_82_174 {lv : am_L} {st : List Value} : am_W G (am_M G d) 82 K 174 lv st h nc ns = (am_W G (am_M G d) 82 K 177 lv (.int 600 :: st) h nc ns) := am_u e_82_174
theorem e_82_177 : pg_code 82 177 = some (.newarray .int, 2, 0, 0) := by decide +kernel
theorem e_82_179 : pg_code 82 179 = some (.putfield 69, 3, 7, 24) := by decide +kernel
theorem u_82_179 {a b : Nat} {lv : am_L} {st : List Value} : am_W G (am_M G d) 82 K 179 lv (.ref b :: .ref a :: st) h nc ns = (f_pf G d 82 K 182 lv st h nc ns (h a) 7 24 a (.ref b)) := (am_u e_82_179).trans (f_pf_eq ⟨rfl, rfl⟩)
theorem e_82_182 : pg_code 82 182 = some (.aload_n 0, 1, 0, 0) := by decide +kernel
theorem u_82_182 {a : Nat} {lv : am_L} {st : List Value} : am_W G (am_M G d) 82 K 182 (some (.ref a) :: lv) st h nc ns = (am_W G (am_M G d) 82 K 183 (some (.ref a) :: lv) (.ref a :: st) h nc ns) := am_u e_82_182
theorem e_82_183 : pg_code 82 183 = some (.sipush 600, 3, 0, 0) := by decide +kernel
theorem u_82_183 {lv : am_L} {st : List Value} : am_W G (am_M G d) 82 K 183 lv st h nc ns = (am_W G (am_M G d) 82 K 186 lv (.int 600 :: st) h nc ns) := am_u e_82_183
theorem e_82_186 : pg_code 82 186 = some (.newarray .int, 2, 0, 0) := by decide +kernel
theorem e_82_188 : pg_code 82 188 = some (.putfield 72, 3, 7, 25) := by decide +kernel
theorem u_82_188 {a b : Nat} {lv : am_L} {st : List Value} : am_W G (am_M G d) 82 K 188 lv (.ref b :: .ref a :: st) h nc ns = (f_pf G d 82 K 191 lv st h nc ns (h a) 7 25 a (.ref b)) := (am_u e_82_188).trans (f_pf_eq ⟨rfl, rfl⟩)
theorem e_82_191 : pg_code 82 191 = some (.aload_n 0, 1, 0, 0) := by decide +kernel
theorem u_82_191 {a : Nat} {lv : am_L} {st : List Value} : am_W G (am_M G d) 82 K 191 (some (.ref a) :: lv) st h nc ns = (am_W G (am_M G d) 82 K 192 (some (.ref a) :: lv) (.ref a :: st) h nc ns) := am_u e_82_191
theorem e_82_192 : pg_code 82 192 = some (.sipush 150, 3, 0, 0) := by decide +kernel
theorem u_82_192 {lv : am_L} {st : List Value} : am_W G (am_M G d) 82 K 192 lv st h nc ns = (am_W G (am_M G d) 82 K 195 lv (.int 150 :: st) h nc ns) := am_u e_82_192
theorem e_82_195 : pg_code 82 195 = some (.newarray .int, 2, 0, 0) := by decide +kernel
theorem e_82_197 : pg_code 82 197 = some (.putfield 75, 3, 7, 28) := by decide +kernel
theorem u_82_197 {a b : Nat} {lv : am_L} {st : List Value} : am_W G (am_M G d) 82 K 197 lv (.ref b :: .ref a :: st) h nc ns = (f_pf G d 82 K 200 lv st h nc ns (h a) 7 28 a (.ref b)) := (am_u e_82_197).trans (f_pf_eq ⟨rfl, rfl⟩)
theorem e_82_200 : pg_code 82 200 = some (.aload_n 0, 1, 0, 0) := by decide +kernel
theorem u_82_200 {a : Nat} {lv : am_L} {st : List Value} : am_W G (am_M G d) 82 K 200 (some (.ref a) :: lv) st h nc ns = (am_W G (am_M G d) 82 K 201 (some (.ref a) :: lv) (.ref a :: st) h nc ns) := am_u e_82_200
theorem e_82_201 : pg_code 82 201 = some (.sipush 150, 3, 0, 0) := by decide +kernel
theorem u_82_201 {lv : am_L} {st : List Value} : am_W G (am_M G d) 82 K 201 lv st h nc ns = (am_W G (am_M G d) 82 K 204 lv (.int 150 :: st) h nc ns) := am_u e_82_201
theorem e_82_204 : pg_code 82 204 = some (.newarray .boolean, 2, 0, 0) := by decide +kernel
theorem e_82_206 : pg_code 82 206 = some (.putfield 78, 3, 7, 29) := by decide +kernel
theorem u_82_206 {a b : Nat} {lv : am_L} {st : List Value} : am_W G (am_M G d) 82 K 206 lv (.ref b :: .ref a :: st) h nc ns = (f_pf G d 82 K 209 lv st h nc ns (h a) 7 29 a (.ref b)) := (am_u e_82_206).trans (f_pf_eq ⟨rfl, rfl⟩)
theorem e_82_209 : pg_code 82 209 = some (.aload_n 0, 1, 0, 0) := by decide +kernel
theorem u_82_209 {a : Nat} {lv : am_L} {st : List Value} : am_W G (am_M G d) 82 K 209 (some (.ref a) :: lv) st h nc ns = (am_W G (am_M G d) 82 K 210 (some (.ref a) :: lv) (.ref a :: st) h nc ns) := am_u e_82_209
theorem e_82_210 : pg_code 82 210 = some (.sipush 150, 3, 0, 0) := by decide +kernel
theorem u_82_210 {lv : am_L} {st : List Value} : am_W G (am_M G d) 82 K 210 lv st h nc ns = (am_W G (am_M G d) 82 K 213 lv (.int 150 :: st) h nc ns) := am_u e_82_210
theorem e_82_213 : pg_code 82 213 = some (.newarray .int, 2, 0, 0) := by decide +kernel
theorem e_82_215 : pg_code 82 215 = some (.putfield 81, 3, 7, 30) := by decide +kernel
theorem u_82_215 {a b : Nat} {lv : am_L} {st : List Value} : am_W G (am_M G d) 82 K 215 lv (.ref b :: .ref a :: st) h nc ns = (f_pf G d 82 K 218 lv st h nc ns (h a) 7 30 a (.ref b)) := (am_u e_82_215).trans (f_pf_eq ⟨rfl, rfl⟩)
theorem e_82_218 : pg_code 82 218 = some (.aload_n 0, 1, 0, 0) := by decide +kernel
theorem u_82_218 {a : Nat} {lv : am_L} {st : List Value} : am_W G (am_M G d) 82 K 218 (some (.ref a) :: lv) st h nc ns = (am_W G (am_M G d) 82 K 219 (some (.ref a) :: lv) (.ref a :: st) h nc ns) := am_u e_82_218
theorem e_82_219 : pg_code 82 219 = some (.bipush 60, 2, 0, 0) := by decide +kernel
theorem u_82_219 {lv : am_L} {st : List Value} : am_W G (am_M G d) 82 K 219 lv st h nc ns = (am_W G (am_M G d) 82 K 221 lv (.int 60 :: st) h nc ns) := am_u e_82_219
theorem e_82_221 : pg_code 82 221 = some (.newarray .boolean, 2, 0, 0) := by decide +kernel
theorem e_82_223 : pg_code 82 223 = some (.putfield 84, 3, 7, 31) := by decide +kernel
theorem u_82_223 {a b : Nat} {lv : am_L} {st : List Value} : am_W G (am_M G d) 82 K 223 lv (.ref b :: .ref a :: st) h nc ns = (f_pf G d 82 K 226 lv st h nc ns (h a) 7 31 a (.ref b)) := (am_u e_82_223).trans (f_pf_eq ⟨rfl, rfl⟩)
theorem e_82_226 : pg_code 82 226 = some (.aload_n 0, 1, 0, 0) := by decide +kernel
theorem u_82_226 {a : Nat} {lv : am_L} {st : List Value} : am_W G (am_M G d) 82 K 226 (some (.ref a) :: lv) st h nc ns = (am_W G (am_M G d) 82 K 227 (some (.ref a) :: lv) (.ref a :: st) h nc ns) := am_u e_82_226
theorem e_82_227 : pg_code 82 227 = some (.sipush 150, 3, 0, 0) := by decide +kernel
theorem u_82_227 {lv : am_L} {st : List Value} : am_W G (am_M G d) 82 K 227 lv st h nc ns = (am_W G (am_M G d) 82 K 230 lv (.int 150 :: st) h nc ns) := am_u e_82_227
theorem e_82_230 : pg_code 82 230 = some (.newarray .int, 2, 0, 0) := by decide +kernel
theorem e_82_232 : pg_code 82 232 = some (.putfield 87, 3, 7, 32) := by decide +kernel
theorem u_82_232 {a b : Nat} {lv : am_L} {st : List Value} : am_W G (am_M G d) 82 K 232 lv (.ref b :: .ref a :: st) h nc ns = (f_pf G d 82 K 235 lv st h nc ns (h a) 7 32 a (.ref b)) := (am_u e_82_232).trans (f_pf_eq ⟨rfl, rfl⟩)
theorem e_82_235 : pg_code 82 235 = some (.return_, 1, 0, 0) := by decide +kernel
theorem u_82_235 {lv : am_L} : am_W G (am_M G d) 82 K 235 lv [] h nc ns = (K (.inl none) h) := (am_u e_82_235).trans (f_t ⟨rfl, rfl⟩)
theorem e_83_0 : pg_code 83 0 = some (.aload_n 0, 1, 0, 0) := by decide +kernel
theorem u_83_0 {a : Nat} {lv : am_L} {st : List Value} : am_W G (am_M G d) 83 K 0 (some (.ref a) :: lv) st h nc ns = (am_W G (am_M G d) 83 K 1 (some (.ref a) :: lv) (.ref a :: st) h nc ns) := am_u e_83_0
theorem e_83_1 : pg_code 83 1 = some (.getfield 90, 3, 7, 0) := by decide +kernel
theorem u_83_1 {a : Nat} {lv : am_L} {st : List Value} : am_W G (am_M G d) 83 K 1 lv (.ref a :: st) h nc ns = (f_gf G d 83 K 4 lv st h nc ns (h a) 7 0) := am_u e_83_1
theorem e_83_4 : pg_code 83 4 = some (.ireturn, 1, 0, 0) := by decide +kernel
theorem u_83_4 {a : Int32} {lv : am_L} : am_W G (am_M G d) 83 K 4 lv [.int a] h nc ns = (K (.inl (some (.int a))) h) := (am_u e_83_4).trans (f_t ⟨rfl, .int, rfl, rfl⟩)
theorem e_84_0 : pg_code 84 0 = some (.aload_n 0, 1, 0, 0) := by decide +kernel
theorem u_84_0 {a : Nat} {lv : am_L} {st : List Value} : am_W G (am_M G d) 84 K 0 (some (.ref a) :: lv) st h nc ns = (am_W G (am_M G d) 84 K 1 (some (.ref a) :: lv) (.ref a :: st) h nc ns) := am_u e_84_0
theorem e_84_1 : pg_code 84 1 = some (.iconst 0, 1, 0, 0) := by decide +kernel
theorem u_84_1 {lv : am_L} {st : List Value} : am_W G (am_M G d) 84 K 1 lv st h nc ns = (am_W G (am_M G d) 84 K 2 lv (.int 0 :: st) h nc ns) := am_u e_84_1
theorem e_84_2 : pg_code 84 2 = some (.putfield 90, 3, 7, 0) := by decide +kernel
theorem u_84_2 {a : Nat} {b : Int32} {lv : am_L} {st : List Value} : am_W G (am_M G d) 84 K 2 lv (.int b :: .ref a :: st) h nc ns = (f_pf G d 84 K 5 lv st h nc ns (h a) 7 0 a (.int b)) := (am_u e_84_2).trans (f_pf_eq ⟨rfl, rfl⟩)
theorem e_84_5 : pg_code 84 5 = some (.aload_n 0, 1, 0, 0) := by decide +kernel
theorem u_84_5 {a : Nat} {lv : am_L} {st : List Value} : am_W G (am_M G d) 84 K 5 (some (.ref a) :: lv) st h nc ns = (am_W G (am_M G d) 84 K 6 (some (.ref a) :: lv) (.ref a :: st) h nc ns) := am_u e_84_5
theorem e_84_6 : pg_code 84 6 = some (.getfield 101, 3, 7, 1) := by decide +kernel
theorem u_84_6 {a : Nat} {lv : am_L} {st : List Value} : am_W G (am_M G d) 84 K 6 lv (.ref a :: st) h nc ns = (f_gf G d 84 K 9 lv st h nc ns (h a) 7 1) := am_u e_84_6
theorem e_84_9 : pg_code 84 9 = some (.bipush 60, 2, 0, 0) := by decide +kernel
theorem u_84_9 {lv : am_L} {st : List Value} : am_W G (am_M G d) 84 K 9 lv st h nc ns = (am_W G (am_M G d) 84 K 11 lv (.int 60 :: st) h nc ns) := am_u e_84_9
theorem e_84_11 : pg_code 84 11 = some (.if_icmp .ne 9, 3, 20, 0) := by decide +kernel
theorem u_84_11 {a b : Int32} {lv : am_L} {st : List Value} : am_W G (am_M G d) 84 K 11 lv (.int b :: .int a :: st) h nc ns = (am_br (¬ a = b) (am_W G (am_M G d) 84 K 20 lv st h nc ns) (am_W G (am_M G d) 84 K 14 lv st h nc ns)) := am_u e_84_11
theorem e_84_14 : pg_code 84 14 = some (.aload_n 0, 1, 0, 0) := by decide +kernel
theorem u_84_14 {a : Nat} {lv : am_L} {st : List Value} : am_W G (am_M G d) 84 K 14 (some (.ref a) :: lv) st h nc ns = (am_W G (am_M G d) 84 K 15 (some (.ref a) :: lv) (.ref a :: st) h nc ns) := am_u e_84_14
theorem e_84_15 : pg_code 84 15 = some (.iconst 1, 1, 0, 0) := by decide +kernel
theorem u_84_15 {lv : am_L} {st : List Value} : am_W G (am_M G d) 84 K 15 lv st h nc ns = (am_W G (am_M G d) 84 K 16 lv (.int 1 :: st) h nc ns) := am_u e_84_15
theorem e_84_16 : pg_code 84 16 = some (.invokevirtual 104, 3, 85, 2) := by decide +kernel
theorem u_84_16 {a : Nat} {v0 : Value} {lv : am_L} {st : List Value} : am_W G (am_M G d) 84 K 16 lv (v0 :: .ref a :: st) h nc ns = ((am_words st ≤ 8 ∧ nc + 0 ≤ 0 ∧ ns + 0 ≤ 0 ∧ f_rc (h a) 7) ∧ am_M G d 85 [.ref a, v0] h (am_back 84 K (am_W G (am_M G d) 84 K) 85 16 lv st nc ns)) := (am_u e_84_16).trans (f_iv_eq (a := a) (G := G) (d := d) (k := 84) (K := K) (pc := 16) (lv := lv) (st := st) (h := h) (nc := nc) (ns := ns) (x := 85) (X := am_W G (am_M G d) 84 K) [v0] (by decide) rfl)
theorem e_84_19 : pg_code 84 19 = some (.ireturn, 1, 0, 0) := by decide +kernel
theorem u_84_19 {a : Int32} {lv : am_L} : am_W G (am_M G d) 84 K 19 lv [.int a] h nc ns = (K (.inl (some (.int a))) h) := (am_u e_84_19).trans (f_t ⟨rfl, .int, rfl, rfl⟩)
theorem e_84_20 : pg_code 84 20 = some (.aload_n 0, 1, 0, 0) := by decide +kernel
theorem u_84_20 {a : Nat} {lv : am_L} {st : List Value} : am_W G (am_M G d) 84 K 20 (some (.ref a) :: lv) st h nc ns = (am_W G (am_M G d) 84 K 21 (some (.ref a) :: lv) (.ref a :: st) h nc ns) := am_u e_84_20
theorem e_84_21 : pg_code 84 21 = some (.getfield 51, 3, 7, 17) := by decide +kernel
theorem u_84_21 {a : Nat} {lv : am_L} {st : List Value} : am_W G (am_M G d) 84 K 21 lv (.ref a :: st) h nc ns = (f_gf G d 84 K 24 lv st h nc ns (h a) 7 17) := am_u e_84_21
theorem e_84_24 : pg_code 84 24 = some (.sipush 960, 3, 0, 0) := by decide +kernel
theorem u_84_24 {lv : am_L} {st : List Value} : am_W G (am_M G d) 84 K 24 lv st h nc ns = (am_W G (am_M G d) 84 K 27 lv (.int 960 :: st) h nc ns) := am_u e_84_24
theorem e_84_27 : pg_code 84 27 = some (.aload_n 0, 1, 0, 0) := by decide +kernel
theorem u_84_27 {a : Nat} {lv : am_L} {st : List Value} : am_W G (am_M G d) 84 K 27 (some (.ref a) :: lv) st h nc ns = (am_W G (am_M G d) 84 K 28 (some (.ref a) :: lv) (.ref a :: st) h nc ns) := am_u e_84_27
theorem e_84_28 : pg_code 84 28 = some (.getfield 101, 3, 7, 1) := by decide +kernel
theorem u_84_28 {a : Nat} {lv : am_L} {st : List Value} : am_W G (am_M G d) 84 K 28 lv (.ref a :: st) h nc ns = (f_gf G d 84 K 31 lv st h nc ns (h a) 7 1) := am_u e_84_28
theorem e_84_31 : pg_code 84 31 = some (.iadd, 1, 0, 0) := by decide +kernel
theorem u_84_31 {a b : Int32} {lv : am_L} {st : List Value} : am_W G (am_M G d) 84 K 31 lv (.int b :: .int a :: st) h nc ns = (am_W G (am_M G d) 84 K 32 lv (.int (a + b) :: st) h nc ns) := am_u e_84_31
theorem e_84_32 : pg_code 84 32 = some (.lload_n 1, 1, 0, 0) := by decide +kernel
theorem u_84_32 {a : Int64} {z0 : Option Value} {lv : am_L} {st : List Value} : am_W G (am_M G d) 84 K 32 (z0 :: some (.long a) :: lv) st h nc ns = (am_W G (am_M G d) 84 K 33 (z0 :: some (.long a) :: lv) (.long a :: st) h nc ns) := am_u e_84_32
theorem e_84_33 : pg_code 84 33 = some (.lastore, 1, 0, 0) := by decide +kernel
theorem u_84_33 {a : Nat} {j : Int32} {b : Int64} {lv : am_L} {st : List Value} : am_W G (am_M G d) 84 K 33 lv (.long b :: .int j :: .ref a :: st) h nc ns = (f_ls G d 84 K 34 lv st h nc ns (h a) a j b) := am_u e_84_33
theorem e_84_34 : pg_code 84 34 = some (.aload_n 0, 1, 0, 0) := by decide +kernel
theorem u_84_34 {a : Nat} {lv : am_L} {st : List Value} : am_W G (am_M G d) 84 K 34 (some (.ref a) :: lv) st h nc ns = (am_W G (am_M G d) 84 K 35 (some (.ref a) :: lv) (.ref a :: st) h nc ns) := am_u e_84_34
theorem e_84_35 : pg_code 84 35 = some (.dup, 1, 0, 0) := by decide +kernel
theorem u_84_35 {a : Nat} {lv : am_L} {st : List Value} : am_W G (am_M G d) 84 K 35 lv (.ref a :: st) h nc ns = (am_W G (am_M G d) 84 K 36 lv (.ref a :: .ref a :: st) h nc ns) := (am_u e_84_35).trans (f_t rfl)
theorem e_84_36 : pg_code 84 36 = some (.getfield 101, 3, 7, 1) := by decide +kernel
theorem u_84_36 {a : Nat} {lv : am_L} {st : List Value} : am_W G (am_M G d) 84 K 36 lv (.ref a :: st) h nc ns = (f_gf G d 84 K 39 lv st h nc ns (h a) 7 1) := am_u e_84_36
theorem e_84_39 : pg_code 84 39 = some (.iconst 1, 1, 0, 0) := by decide +kernel
theorem u_84_39 {lv : am_L} {st : List Value} : am_W G (am_M G d) 84 K 39 lv st h nc ns = (am_W G (am_M G d) 84 K 40 lv (.int 1 :: st) h nc ns) := am_u e_84_39
theorem e_84_40 : pg_code 84 40 = some (.iadd, 1, 0, 0) := by decide +kernel
theorem u_84_40 {a b : Int32} {lv : am_L} {st : List Value} : am_W G (am_M G d) 84 K 40 lv (.int b :: .int a :: st) h nc ns = (am_W G (am_M G d) 84 K 41 lv (.int (a + b) :: st) h nc ns) := am_u e_84_40
theorem e_84_41 : pg_code 84 41 = some (.putfield 101, 3, 7, 1) := by decide +kernel
theorem u_84_41 {a : Nat} {b : Int32} {lv : am_L} {st : List Value} : am_W G (am_M G d) 84 K 41 lv (.int b :: .ref a :: st) h nc ns = (f_pf G d 84 K 44 lv st h nc ns (h a) 7 1 a (.int b)) := (am_u e_84_41).trans (f_pf_eq ⟨rfl, rfl⟩)
theorem e_84_44 : pg_code 84 44 = some (.aload_n 0, 1, 0, 0) := by decide +kernel
theorem u_84_44 {a : Nat} {lv : am_L} {st : List Value} : am_W G (am_M G d) 84 K 44 (some (.ref a) :: lv) st h nc ns = (am_W G (am_M G d) 84 K 45 (some (.ref a) :: lv) (.ref a :: st) h nc ns) := am_u e_84_44
theorem e_84_45 : pg_code 84 45 = some (.iconst 0, 1, 0, 0) := by decide +kernel
theorem u_84_45 {lv : am_L} {st : List Value} : am_W G (am_M G d) 84 K 45 lv st h nc ns = (am_W G (am_M G d) 84 K 46 lv (.int 0 :: st) h nc ns) := am_u e_84_45
theorem e_84_46 : pg_code 84 46 = some (.putfield 94, 3, 7, 18) := by decide +kernel
theorem u_84_46 {a : Nat} {b : Int32} {lv : am_L} {st : List Value} : am_W G (am_M G d) 84 K 46 lv (.int b :: .ref a :: st) h nc ns = (f_pf G d 84 K 49 lv st h nc ns (h a) 7 18 a (.int b)) := (am_u e_84_46).trans (f_pf_eq ⟨rfl, rfl⟩)
theorem e_84_49 : pg_code 84 49 = some (.aload_n 0, 1, 0, 0) := by decide +kernel
theorem u_84_49 {a : Nat} {lv : am_L} {st : List Value} : am_W G (am_M G d) 84 K 49 (some (.ref a) :: lv) st h nc ns = (am_W G (am_M G d) 84 K 50 (some (.ref a) :: lv) (.ref a :: st) h nc ns) := am_u e_84_49
theorem e_84_50 : pg_code 84 50 = some (.getfield 101, 3, 7, 1) := by decide +kernel
theorem u_84_50 {a : Nat} {lv : am_L} {st : List Value} : am_W G (am_M G d) 84 K 50 lv (.ref a :: st) h nc ns = (f_gf G d 84 K 53 lv st h nc ns (h a) 7 1) := am_u e_84_50
theorem e_84_53 : pg_code 84 53 = some (.iconst 1, 1, 0, 0) := by decide +kernel
theorem u_84_53 {lv : am_L} {st : List Value} : am_W G (am_M G d) 84 K 53 lv st h nc ns = (am_W G (am_M G d) 84 K 54 lv (.int 1 :: st) h nc ns) := am_u e_84_53
theorem e_84_54 : pg_code 84 54 = some (.isub, 1, 0, 0) := by decide +kernel
theorem u_84_54 {a b : Int32} {lv : am_L} {st : List Value} : am_W G (am_M G d) 84 K 54 lv (.int b :: .int a :: st) h nc ns = (am_W G (am_M G d) 84 K 55 lv (.int (a - b) :: st) h nc ns) := am_u e_84_54
theorem e_84_55 : pg_code 84 55 = some (.ireturn, 1, 0, 0) := by decide +kernel
theorem u_84_55 {a : Int32} {lv : am_L} : am_W G (am_M G d) 84 K 55 lv [.int a] h nc ns = (K (.inl (some (.int a))) h) := (am_u e_84_55).trans (f_t ⟨rfl, .int, rfl, rfl⟩)
theorem e_85_0 : pg_code 85 0 = some (.aload_n 0, 1, 0, 0) := by decide +kernel
theorem u_85_0 {a : Nat} {lv : am_L} {st : List Value} : am_W G (am_M G d) 85 K 0 (some (.ref a) :: lv) st h nc ns = (am_W G (am_M G d) 85 K 1 (some (.ref a) :: lv) (.ref a :: st) h nc ns) := am_u e_85_0
theorem e_85_1 : pg_code 85 1 = some (.iload_n 1, 1, 0, 0) := by decide +kernel
theorem u_85_1 {a : Int32} {z0 : Option Value} {lv : am_L} {st : List Value} : am_W G (am_M G d) 85 K 1 (z0 :: some (.int a) :: lv) st h nc ns = (am_W G (am_M G d) 85 K 2 (z0 :: some (.int a) :: lv) (.int a :: st) h nc ns) := am_u e_85_1
theorem e_85_2 : pg_code 85 2 = some (.putfield 90, 3, 7, 0) := by decide +kernel
theorem u_85_2 {a : Nat} {b : Int32} {lv : am_L} {st : List Value} : am_W G (am_M G d) 85 K 2 lv (.int b :: .ref a :: st) h nc ns = (f_pf G d 85 K 5 lv st h nc ns (h a) 7 0 a (.int b)) := (am_u e_85_2).trans (f_pf_eq ⟨rfl, rfl⟩)
theorem e_85_5 : pg_code 85 5 = some (.iconst 0, 1, 0, 0) := by decide +kernel
theorem u_85_5 {lv : am_L} {st : List Value} : am_W G (am_M G d) 85 K 5 lv st h nc ns = (am_W G (am_M G d) 85 K 6 lv (.int 0 :: st) h nc ns) := am_u e_85_5
theorem e_85_6 : pg_code 85 6 = some (.ireturn, 1, 0, 0) := by decide +kernel
theorem u_85_6 {a : Int32} {lv : am_L} : am_W G (am_M G d) 85 K 6 lv [.int a] h nc ns = (K (.inl (some (.int a))) h) := (am_u e_85_6).trans (f_t ⟨rfl, .int, rfl, rfl⟩)
theorem e_86_0 : pg_code 86 0 = some (.aload_n 0, 1, 0, 0) := by decide +kernel
theorem u_86_0 {a : Nat} {lv : am_L} {st : List Value} : am_W G (am_M G d) 86 K 0 (some (.ref a) :: lv) st h nc ns = (am_W G (am_M G d) 86 K 1 (some (.ref a) :: lv) (.ref a :: st) h nc ns) := am_u e_86_0
theorem e_86_1 : pg_code 86 1 = some (.iconst 0, 1, 0, 0) := by decide +kernel
theorem u_86_1 {lv : am_L} {st : List Value} : am_W G (am_M G d) 86 K 1 lv st h nc ns = (am_W G (am_M G d) 86 K 2 lv (.int 0 :: st) h nc ns) := am_u e_86_1
theorem e_86_2 : pg_code 86 2 = some (.putfield 90, 3, 7, 0) := by decide +kernel
theorem u_86_2 {a : Nat} {b : Int32} {lv : am_L} {st : List Value} : am_W G (am_M G d) 86 K 2 lv (.int b :: .ref a :: st) h nc ns = (f_pf G d 86 K 5 lv st h nc ns (h a) 7 0 a (.int b)) := (am_u e_86_2).trans (f_pf_eq ⟨rfl, rfl⟩)
theorem e_86_5 : pg_code 86 5 = some (.aload_n 0, 1, 0, 0) := by decide +kernel
theorem u_86_5 {a : Nat} {lv : am_L} {st : List Value} : am_W G (am_M G d) 86 K 5 (some (.ref a) :: lv) st h nc ns = (am_W G (am_M G d) 86 K 6 (some (.ref a) :: lv) (.ref a :: st) h nc ns) := am_u e_86_5
theorem e_86_6 : pg_code 86 6 = some (.iload_n 1, 1, 0, 0) := by decide +kernel
theorem u_86_6 {a : Int32} {z0 : Option Value} {lv : am_L} {st : List Value} : am_W G (am_M G d) 86 K 6 (z0 :: some (.int a) :: lv) st h nc ns = (am_W G (am_M G d) 86 K 7 (z0 :: some (.int a) :: lv) (.int a :: st) h nc ns) := am_u e_86_6
theorem e_86_7 : pg_code 86 7 = some (.iload_n 2, 1, 0, 0) := by decide +kernel
theorem u_86_7 {a : Int32} {z0 : Option Value} {z1 : Option Value} {lv : am_L} {st : List Value} : am_W G (am_M G d) 86 K 7 (z0 :: z1 :: some (.int a) :: lv) st h nc ns = (am_W G (am_M G d) 86 K 8 (z0 :: z1 :: some (.int a) :: lv) (.int a :: st) h nc ns) := am_u e_86_7
theorem e_86_8 : pg_code 86 8 = some (.iload_n 3, 1, 0, 0) := by decide +kernel
theorem u_86_8 {a : Int32} {z0 : Option Value} {z1 : Option Value} {z2 : Option Value} {lv : am_L} {st : List Value} : am_W G (am_M G d) 86 K 8 (z0 :: z1 :: z2 :: some (.int a) :: lv) st h nc ns = (am_W G (am_M G d) 86 K 9 (z0 :: z1 :: z2 :: some (.int a) :: lv) (.int a :: st) h nc ns) := am_u e_86_8
theorem e_86_9 : pg_code 86 9 = some (.aload_n 0, 1, 0, 0) := by decide +kernel
theorem u_86_9 {a : Nat} {lv : am_L} {st : List Value} : am_W G (am_M G d) 86 K 9 (some (.ref a) :: lv) st h nc ns = (am_W G (am_M G d) 86 K 10 (some (.ref a) :: lv) (.ref a :: st) h nc ns) := am_u e_86_9
theorem e_86_10 : pg_code 86 10 = some (.getfield 119, 3, 7, 2) := by decide +kernel
theorem u_86_10 {a : Nat} {lv : am_L} {st : List Value} : am_W G (am_M G d) 86 K 10 lv (.ref a :: st) h nc ns = (f_gf G d 86 K 13 lv st h nc ns (h a) 7 2) := am_u e_86_10
theorem e_86_13 : pg_code 86 13 = some (.iconst 1, 1, 0, 0) := by decide +kernel
theorem u_86_13 {lv : am_L} {st : List Value} : am_W G (am_M G d) 86 K 13 lv st h nc ns = (am_W G (am_M G d) 86 K 14 lv (.int 1 :: st) h nc ns) := am_u e_86_13
theorem e_86_14 : pg_code 86 14 = some (.iadd, 1, 0, 0) := by decide +kernel
theorem u_86_14 {a b : Int32} {lv : am_L} {st : List Value} : am_W G (am_M G d) 86 K 14 lv (.int b :: .int a :: st) h nc ns = (am_W G (am_M G d) 86 K 15 lv (.int (a + b) :: st) h nc ns) := am_u e_86_14
theorem e_86_15 : pg_code 86 15 = some (.invokevirtual 122, 3, 87, 5) := by decide +kernel
theorem u_86_15 {a : Nat} {v0 v1 v2 v3 : Value} {lv : am_L} {st : List Value} : am_W G (am_M G d) 86 K 15 lv (v3 :: v2 :: v1 :: v0 :: .ref a :: st) h nc ns = ((am_words st ≤ 8 ∧ nc + 0 ≤ 0 ∧ ns + 0 ≤ 0 ∧ f_rc (h a) 7) ∧ am_M G d 87 [.ref a, v0, v1, v2, v3] h (am_back 86 K (am_W G (am_M G d) 86 K) 87 15 lv st nc ns)) := (am_u e_86_15).trans (f_iv_eq (a := a) (G := G) (d := d) (k := 86) (K := K) (pc := 15) (lv := lv) (st := st) (h := h) (nc := nc) (ns := ns) (x := 87) (X := am_W G (am_M G d) 86 K) [v0, v1, v2, v3] (by decide) rfl)
theorem e_86_18 : pg_code 86 18 = some (.ifCond .ne 9, 3, 27, 0) := by decide +kernel
theorem u_86_18 {a : Int32} {lv : am_L} {st : List Value} : am_W G (am_M G d) 86 K 18 lv (.int a :: st) h nc ns = (am_br (¬ a = 0) (am_W G (am_M G d) 86 K 27 lv st h nc ns) (am_W G (am_M G d) 86 K 21 lv st h nc ns)) := am_u e_86_18
theorem e_86_21 : pg_code 86 21 = some (.aload_n 0, 1, 0, 0) := by decide +kernel
theorem u_86_21 {a : Nat} {lv : am_L} {st : List Value} : am_W G (am_M G d) 86 K 21 (some (.ref a) :: lv) st h nc ns = (am_W G (am_M G d) 86 K 22 (some (.ref a) :: lv) (.ref a :: st) h nc ns) := am_u e_86_21
theorem e_86_22 : pg_code 86 22 = some (.iconst 1, 1, 0, 0) := by decide +kernel
theorem u_86_22 {lv : am_L} {st : List Value} : am_W G (am_M G d) 86 K 22 lv st h nc ns = (am_W G (am_M G d) 86 K 23 lv (.int 1 :: st) h nc ns) := am_u e_86_22
theorem e_86_23 : pg_code 86 23 = some (.invokevirtual 104, 3, 85, 2) := by decide +kernel
theorem u_86_23 {a : Nat} {v0 : Value} {lv : am_L} {st : List Value} : am_W G (am_M G d) 86 K 23 lv (v0 :: .ref a :: st) h nc ns = ((am_words st ≤ 8 ∧ nc + 0 ≤ 0 ∧ ns + 0 ≤ 0 ∧ f_rc (h a) 7) ∧ am_M G d 85 [.ref a, v0] h (am_back 86 K (am_W G (am_M G d) 86 K) 85 23 lv st nc ns)) := (am_u e_86_23).trans (f_iv_eq (a := a) (G := G) (d := d) (k := 86) (K := K) (pc := 23) (lv := lv) (st := st) (h := h) (nc := nc) (ns := ns) (x := 85) (X := am_W G (am_M G d) 86 K) [v0] (by decide) rfl)
theorem e_86_26 : pg_code 86 26 = some (.ireturn, 1, 0, 0) := by decide +kernel
theorem u_86_26 {a : Int32} {lv : am_L} : am_W G (am_M G d) 86 K 26 lv [.int a] h nc ns = (K (.inl (some (.int a))) h) := (am_u e_86_26).trans (f_t ⟨rfl, .int, rfl, rfl⟩)
theorem e_86_27 : pg_code 86 27 = some (.aload_n 0, 1, 0, 0) := by decide +kernel
theorem u_86_27 {a : Nat} {lv : am_L} {st : List Value} : am_W G (am_M G d) 86 K 27 (some (.ref a) :: lv) st h nc ns = (am_W G (am_M G d) 86 K 28 (some (.ref a) :: lv) (.ref a :: st) h nc ns) := am_u e_86_27
theorem e_86_28 : pg_code 86 28 = some (.getfield 119, 3, 7, 2) := by decide +kernel
theorem u_86_28 {a : Nat} {lv : am_L} {st : List Value} : am_W G (am_M G d) 86 K 28 lv (.ref a :: st) h nc ns = (f_gf G d 86 K 31 lv st h nc ns (h a) 7 2) := am_u e_86_28
theorem e_86_31 : pg_code 86 31 = some (.sipush 150, 3, 0, 0) := by decide +kernel
theorem u_86_31 {lv : am_L} {st : List Value} : am_W G (am_M G d) 86 K 31 lv st h nc ns = (am_W G (am_M G d) 86 K 34 lv (.int 150 :: st) h nc ns) := am_u e_86_31
theorem e_86_34 : pg_code 86 34 = some (.if_icmp .ne 9, 3, 43, 0) := by decide +kernel
theorem u_86_34 {a b : Int32} {lv : am_L} {st : List Value} : am_W G (am_M G d) 86 K 34 lv (.int b :: .int a :: st) h nc ns = (am_br (¬ a = b) (am_W G (am_M G d) 86 K 43 lv st h nc ns) (am_W G (am_M G d) 86 K 37 lv st h nc ns)) := am_u e_86_34
theorem e_86_37 : pg_code 86 37 = some (.aload_n 0, 1, 0, 0) := by decide +kernel
theorem u_86_37 {a : Nat} {lv : am_L} {st : List Value} : am_W G (am_M G d) 86 K 37 (some (.ref a) :: lv) st h nc ns = (am_W G (am_M G d) 86 K 38 (some (.ref a) :: lv) (.ref a :: st) h nc ns) := am_u e_86_37
theorem e_86_38 : pg_code 86 38 = some (.iconst 2, 1, 0, 0) := by decide +kernel
theorem u_86_38 {lv : am_L} {st : List Value} : am_W G (am_M G d) 86 K 38 lv st h nc ns = (am_W G (am_M G d) 86 K 39 lv (.int 2 :: st) h nc ns) := am_u e_86_38
theorem e_86_39 : pg_code 86 39 = some (.invokevirtual 104, 3, 85, 2) := by decide +kernel
theorem u_86_39 {a : Nat} {v0 : Value} {lv : am_L} {st : List Value} : am_W G (am_M G d) 86 K 39 lv (v0 :: .ref a :: st) h nc ns = ((am_words st ≤ 8 ∧ nc + 0 ≤ 0 ∧ ns + 0 ≤ 0 ∧ f_rc (h a) 7) ∧ am_M G d 85 [.ref a, v0] h (am_back 86 K (am_W G (am_M G d) 86 K) 85 39 lv st nc ns)) := (am_u e_86_39).trans (f_iv_eq (a := a) (G := G) (d := d) (k := 86) (K := K) (pc := 39) (lv := lv) (st := st) (h := h) (nc := nc) (ns := ns) (x := 85) (X := am_W G (am_M G d) 86 K) [v0] (by decide) rfl)
theorem e_86_42 : pg_code 86 42 = some (.ireturn, 1, 0, 0) := by decide +kernel
theorem u_86_42 {a : Int32} {lv : am_L} : am_W G (am_M G d) 86 K 42 lv [.int a] h nc ns = (K (.inl (some (.int a))) h) := (am_u e_86_42).trans (f_t ⟨rfl, .int, rfl, rfl⟩)
theorem e_86_43 : pg_code 86 43 = some (.aload_n 0, 1, 0, 0) := by decide +kernel
theorem u_86_43 {a : Nat} {lv : am_L} {st : List Value} : am_W G (am_M G d) 86 K 43 (some (.ref a) :: lv) st h nc ns = (am_W G (am_M G d) 86 K 44 (some (.ref a) :: lv) (.ref a :: st) h nc ns) := am_u e_86_43
theorem e_86_44 : pg_code 86 44 = some (.aload_n 0, 1, 0, 0) := by decide +kernel
theorem u_86_44 {a : Nat} {lv : am_L} {st : List Value} : am_W G (am_M G d) 86 K 44 (some (.ref a) :: lv) st h nc ns = (am_W G (am_M G d) 86 K 45 (some (.ref a) :: lv) (.ref a :: st) h nc ns) := am_u e_86_44
theorem e_86_45 : pg_code 86 45 = some (.getfield 119, 3, 7, 2) := by decide +kernel
theorem u_86_45 {a : Nat} {lv : am_L} {st : List Value} : am_W G (am_M G d) 86 K 45 lv (.ref a :: st) h nc ns = (f_gf G d 86 K 48 lv st h nc ns (h a) 7 2) := am_u e_86_45
theorem e_86_48 : pg_code 86 48 = some (.iload_n 1, 1, 0, 0) := by decide +kernel
theorem u_86_48 {a : Int32} {z0 : Option Value} {lv : am_L} {st : List Value} : am_W G (am_M G d) 86 K 48 (z0 :: some (.int a) :: lv) st h nc ns = (am_W G (am_M G d) 86 K 49 (z0 :: some (.int a) :: lv) (.int a :: st) h nc ns) := am_u e_86_48
theorem e_86_49 : pg_code 86 49 = some (.iload_n 2, 1, 0, 0) := by decide +kernel
theorem u_86_49 {a : Int32} {z0 : Option Value} {z1 : Option Value} {lv : am_L} {st : List Value} : am_W G (am_M G d) 86 K 49 (z0 :: z1 :: some (.int a) :: lv) st h nc ns = (am_W G (am_M G d) 86 K 50 (z0 :: z1 :: some (.int a) :: lv) (.int a :: st) h nc ns) := am_u e_86_49
theorem e_86_50 : pg_code 86 50 = some (.iload_n 3, 1, 0, 0) := by decide +kernel
theorem u_86_50 {a : Int32} {z0 : Option Value} {z1 : Option Value} {z2 : Option Value} {lv : am_L} {st : List Value} : am_W G (am_M G d) 86 K 50 (z0 :: z1 :: z2 :: some (.int a) :: lv) st h nc ns = (am_W G (am_M G d) 86 K 51 (z0 :: z1 :: z2 :: some (.int a) :: lv) (.int a :: st) h nc ns) := am_u e_86_50
theorem e_86_51 : pg_code 86 51 = some (.invokevirtual 126, 3, 90, 5) := by decide +kernel
theorem u_86_51 {a : Nat} {v0 v1 v2 v3 : Value} {lv : am_L} {st : List Value} : am_W G (am_M G d) 86 K 51 lv (v3 :: v2 :: v1 :: v0 :: .ref a :: st) h nc ns = ((am_words st ≤ 8 ∧ nc + 0 ≤ 0 ∧ ns + 0 ≤ 0 ∧ f_rc (h a) 7) ∧ am_M G d 90 [.ref a, v0, v1, v2, v3] h (am_back 86 K (am_W G (am_M G d) 86 K) 90 51 lv st nc ns)) := (am_u e_86_51).trans (f_iv_eq (a := a) (G := G) (d := d) (k := 86) (K := K) (pc := 51) (lv := lv) (st := st) (h := h) (nc := nc) (ns := ns) (x := 90) (X := am_W G (am_M G d) 86 K) [v0, v1, v2, v3] (by decide) rfl)
theorem e_86_54 : pg_code 86 54 = some (.pop, 1, 0, 0) := by decide +kernel
theorem u_86_54 {a : Int32} {lv : am_L} {st : List Value} : am_W G (am_M G d) 86 K 54 lv (.int a :: st) h nc ns = (am_W G (am_M G d) 86 K 55 lv st h nc ns) := (am_u e_86_54).trans (f_t rfl)
theorem e_86_55 : pg_code 86 55 = some (.aload_n 0, 1, 0, 0) := by decide +kernel
theorem u_86_55 {a : Nat} {lv : am_L} {st : List Value} : am_W G (am_M G d) 86 K 55 (some (.ref a) :: lv) st h nc ns = (am_W G (am_M G d) 86 K 56 (some (.ref a) :: lv) (.ref a :: st) h nc ns) := am_u e_86_55
theorem e_86_56 : pg_code 86 56 = some (.getfield 23, 3, 7, 8) := by decide +kernel
theorem u_86_56 {a : Nat} {lv : am_L} {st : List Value} : am_W G (am_M G d) 86 K 56 lv (.ref a :: st) h nc ns = (f_gf G d 86 K 59 lv st h nc ns (h a) 7 8) := am_u e_86_56
theorem e_86_59 : pg_code 86 59 = some (.aload_n 0, 1, 0, 0) := by decide +kernel
theorem u_86_59 {a : Nat} {lv : am_L} {st : List Value} : am_W G (am_M G d) 86 K 59 (some (.ref a) :: lv) st h nc ns = (am_W G (am_M G d) 86 K 60 (some (.ref a) :: lv) (.ref a :: st) h nc ns) := am_u e_86_59
theorem e_86_60 : pg_code 86 60 = some (.getfield 119, 3, 7, 2) := by decide +kernel
theorem u_86_60 {a : Nat} {lv : am_L} {st : List Value} : am_W G (am_M G d) 86 K 60 lv (.ref a :: st) h nc ns = (f_gf G d 86 K 63 lv st h nc ns (h a) 7 2) := am_u e_86_60
theorem e_86_63 : pg_code 86 63 = some (.invokestatic 116, 3, 91, 1) := by decide +kernel
theorem u_86_63 {v0 : Value} {lv : am_L} {st : List Value} : am_W G (am_M G d) 86 K 63 lv (v0 :: st) h nc ns = ((am_words st ≤ 8 ∧ nc + 0 ≤ 0 ∧ ns + 0 ≤ 0) ∧ am_M G d 91 [v0] h (am_back 86 K (am_W G (am_M G d) 86 K) 91 63 lv st nc ns)) := (am_u e_86_63).trans (f_st_eq (G := G) (d := d) (k := 86) (K := K) (pc := 63) (lv := lv) (st := st) (h := h) (nc := nc) (ns := ns) (x := 91) (X := am_W G (am_M G d) 86 K) [v0] (by decide) rfl)
theorem e_86_66 : pg_code 86 66 = some (.iconst 4, 1, 0, 0) := by decide +kernel
theorem u_86_66 {lv : am_L} {st : List Value} : am_W G (am_M G d) 86 K 66 lv st h nc ns = (am_W G (am_M G d) 86 K 67 lv (.int 4 :: st) h nc ns) := am_u e_86_66
theorem e_86_67 : pg_code 86 67 = some (.iastore, 1, 0, 0) := by decide +kernel
theorem u_86_67 {a : Nat} {j b : Int32} {lv : am_L} {st : List Value} : am_W G (am_M G d) 86 K 67 lv (.int b :: .int j :: .ref a :: st) h nc ns = (f_is G d 86 K 68 lv st h nc ns (h a) .int a j b) := am_u e_86_67
theorem e_86_68 : pg_code 86 68 = some (.aload_n 0, 1, 0, 0) := by decide +kernel
theorem u_86_68 {a : Nat} {lv : am_L} {st : List Value} : am_W G (am_M G d) 86 K 68 (some (.ref a) :: lv) st h nc ns = (am_W G (am_M G d) 86 K 69 (some (.ref a) :: lv) (.ref a :: st) h nc ns) := am_u e_86_68
theorem e_86_69 : pg_code 86 69 = some (.dup, 1, 0, 0) := by decide +kernel
theorem u_86_69 {a : Nat} {lv : am_L} {st : List Value} : am_W G (am_M G d) 86 K 69 lv (.ref a :: st) h nc ns = (am_W G (am_M G d) 86 K 70 lv (.ref a :: .ref a :: st) h nc ns) := (am_u e_86_69).trans (f_t rfl)
theorem e_86_70 : pg_code 86 70 = some (.getfield 119, 3, 7, 2) := by decide +kernel
theorem u_86_70 {a : Nat} {lv : am_L} {st : List Value} : am_W G (am_M G d) 86 K 70 lv (.ref a :: st) h nc ns = (f_gf G d 86 K 73 lv st h nc ns (h a) 7 2) := am_u e_86_70
theorem e_86_73 : pg_code 86 73 = some (.iconst 1, 1, 0, 0) := by decide +kernel
theorem u_86_73 {lv : am_L} {st : List Value} : am_W G (am_M G d) 86 K 73 lv st h nc ns = (am_W G (am_M G d) 86 K 74 lv (.int 1 :: st) h nc ns) := am_u e_86_73
theorem e_86_74 : pg_code 86 74 = some (.iadd, 1, 0, 0) := by decide +kernel
theorem u_86_74 {a b : Int32} {lv : am_L} {st : List Value} : am_W G (am_M G d) 86 K 74 lv (.int b :: .int a :: st) h nc ns = (am_W G (am_M G d) 86 K 75 lv (.int (a + b) :: st) h nc ns) := am_u e_86_74
theorem e_86_75 : pg_code 86 75 = some (.putfield 119, 3, 7, 2) := by decide +kernel
theorem u_86_75 {a : Nat} {b : Int32} {lv : am_L} {st : List Value} : am_W G (am_M G d) 86 K 75 lv (.int b :: .ref a :: st) h nc ns = (f_pf G d 86 K 78 lv st h nc ns (h a) 7 2 a (.int b)) := (am_u e_86_75).trans (f_pf_eq ⟨rfl, rfl⟩)
theorem e_86_78 : pg_code 86 78 = some (.aload_n 0, 1, 0, 0) := by decide +kernel
theorem u_86_78 {a : Nat} {lv : am_L} {st : List Value} : am_W G (am_M G d) 86 K 78 (some (.ref a) :: lv) st h nc ns = (am_W G (am_M G d) 86 K 79 (some (.ref a) :: lv) (.ref a :: st) h nc ns) := am_u e_86_78
theorem e_86_79 : pg_code 86 79 = some (.iconst 0, 1, 0, 0) := by decide +kernel
theorem u_86_79 {lv : am_L} {st : List Value} : am_W G (am_M G d) 86 K 79 lv st h nc ns = (am_W G (am_M G d) 86 K 80 lv (.int 0 :: st) h nc ns) := am_u e_86_79
theorem e_86_80 : pg_code 86 80 = some (.putfield 94, 3, 7, 18) := by decide +kernel
theorem u_86_80 {a : Nat} {b : Int32} {lv : am_L} {st : List Value} : am_W G (am_M G d) 86 K 80 lv (.int b :: .ref a :: st) h nc ns = (f_pf G d 86 K 83 lv st h nc ns (h a) 7 18 a (.int b)) := (am_u e_86_80).trans (f_pf_eq ⟨rfl, rfl⟩)
theorem e_86_83 : pg_code 86 83 = some (.aload_n 0, 1, 0, 0) := by decide +kernel
theorem u_86_83 {a : Nat} {lv : am_L} {st : List Value} : am_W G (am_M G d) 86 K 83 (some (.ref a) :: lv) st h nc ns = (am_W G (am_M G d) 86 K 84 (some (.ref a) :: lv) (.ref a :: st) h nc ns) := am_u e_86_83
theorem e_86_84 : pg_code 86 84 = some (.getfield 119, 3, 7, 2) := by decide +kernel
theorem u_86_84 {a : Nat} {lv : am_L} {st : List Value} : am_W G (am_M G d) 86 K 84 lv (.ref a :: st) h nc ns = (f_gf G d 86 K 87 lv st h nc ns (h a) 7 2) := am_u e_86_84
theorem e_86_87 : pg_code 86 87 = some (.iconst 1, 1, 0, 0) := by decide +kernel
theorem u_86_87 {lv : am_L} {st : List Value} : am_W G (am_M G d) 86 K 87 lv st h nc ns = (am_W G (am_M G d) 86 K 88 lv (.int 1 :: st) h nc ns) := am_u e_86_87
theorem e_86_88 : pg_code 86 88 = some (.isub, 1, 0, 0) := by decide +kernel
theorem u_86_88 {a b : Int32} {lv : am_L} {st : List Value} : am_W G (am_M G d) 86 K 88 lv (.int b :: .int a :: st) h nc ns = (am_W G (am_M G d) 86 K 89 lv (.int (a - b) :: st) h nc ns) := am_u e_86_88
theorem e_86_89 : pg_code 86 89 = some (.ireturn, 1, 0, 0) := by decide +kernel
theorem u_86_89 {a : Int32} {lv : am_L} : am_W G (am_M G d) 86 K 89 lv [.int a] h nc ns = (K (.inl (some (.int a))) h) := (am_u e_86_89).trans (f_t ⟨rfl, .int, rfl, rfl⟩)
theorem e_87_0 : pg_code 87 0 = some (.iload_n 1, 1, 0, 0) := by decide +kernel
theorem u_87_0 {a : Int32} {z0 : Option Value} {lv : am_L} {st : List Value} : am_W G (am_M G d) 87 K 0 (z0 :: some (.int a) :: lv) st h nc ns = (am_W G (am_M G d) 87 K 1 (z0 :: some (.int a) :: lv) (.int a :: st) h nc ns) := am_u e_87_0
theorem e_87_1 : pg_code 87 1 = some (.iconst 0, 1, 0, 0) := by decide +kernel
theorem u_87_1 {lv : am_L} {st : List Value} : am_W G (am_M G d) 87 K 1 lv st h nc ns = (am_W G (am_M G d) 87 K 2 lv (.int 0 :: st) h nc ns) := am_u e_87_1
theorem e_87_2 : pg_code 87 2 = some (.iconst 5, 1, 0, 0) := by decide +kernel
theorem u_87_2 {lv : am_L} {st : List Value} : am_W G (am_M G d) 87 K 2 lv st h nc ns = (am_W G (am_M G d) 87 K 3 lv (.int 5 :: st) h nc ns) := am_u e_87_2
theorem e_87_3 : pg_code 87 3 = some (.invokestatic 108, 3, 88, 3) := by decide +kernel
theorem u_87_3 {v0 v1 v2 : Value} {lv : am_L} {st : List Value} : am_W G (am_M G d) 87 K 3 lv (v2 :: v1 :: v0 :: st) h nc ns = ((am_words st ≤ 8 ∧ nc + 0 ≤ 0 ∧ ns + 0 ≤ 0) ∧ am_M G d 88 [v0, v1, v2] h (am_back 87 K (am_W G (am_M G d) 87 K) 88 3 lv st nc ns)) := (am_u e_87_3).trans (f_st_eq (G := G) (d := d) (k := 87) (K := K) (pc := 3) (lv := lv) (st := st) (h := h) (nc := nc) (ns := ns) (x := 88) (X := am_W G (am_M G d) 87 K) [v0, v1, v2] (by decide) rfl)
theorem e_87_6 : pg_code 87 6 = some (.ifCond .eq 27, 3, 33, 0) := by decide +kernel
theorem u_87_6 {a : Int32} {lv : am_L} {st : List Value} : am_W G (am_M G d) 87 K 6 lv (.int a :: st) h nc ns = (am_br (a = 0) (am_W G (am_M G d) 87 K 33 lv st h nc ns) (am_W G (am_M G d) 87 K 9 lv st h nc ns)) := am_u e_87_6
theorem e_87_9 : pg_code 87 9 = some (.aload_n 0, 1, 0, 0) := by decide +kernel
theorem u_87_9 {a : Nat} {lv : am_L} {st : List Value} : am_W G (am_M G d) 87 K 9 (some (.ref a) :: lv) st h nc ns = (am_W G (am_M G d) 87 K 10 (some (.ref a) :: lv) (.ref a :: st) h nc ns) := am_u e_87_9
theorem e_87_10 : pg_code 87 10 = some (.iload_n 2, 1, 0, 0) := by decide +kernel
theorem u_87_10 {a : Int32} {z0 : Option Value} {z1 : Option Value} {lv : am_L} {st : List Value} : am_W G (am_M G d) 87 K 10 (z0 :: z1 :: some (.int a) :: lv) st h nc ns = (am_W G (am_M G d) 87 K 11 (z0 :: z1 :: some (.int a) :: lv) (.int a :: st) h nc ns) := am_u e_87_10
theorem e_87_11 : pg_code 87 11 = some (.iload 4, 2, 0, 0) := by decide +kernel
theorem u_87_11 {a : Int32} {z0 : Option Value} {z1 : Option Value} {z2 : Option Value} {z3 : Option Value} {lv : am_L} {st : List Value} : am_W G (am_M G d) 87 K 11 (z0 :: z1 :: z2 :: z3 :: some (.int a) :: lv) st h nc ns = (am_W G (am_M G d) 87 K 13 (z0 :: z1 :: z2 :: z3 :: some (.int a) :: lv) (.int a :: st) h nc ns) := am_u e_87_11
theorem e_87_13 : pg_code 87 13 = some (.invokevirtual 112, 3, 89, 3) := by decide +kernel
theorem u_87_13 {a : Nat} {v0 v1 : Value} {lv : am_L} {st : List Value} : am_W G (am_M G d) 87 K 13 lv (v1 :: v0 :: .ref a :: st) h nc ns = ((am_words st ≤ 8 ∧ nc + 0 ≤ 0 ∧ ns + 0 ≤ 0 ∧ f_rc (h a) 7) ∧ am_M G d 89 [.ref a, v0, v1] h (am_back 87 K (am_W G (am_M G d) 87 K) 89 13 lv st nc ns)) := (am_u e_87_13).trans (f_iv_eq (a := a) (G := G) (d := d) (k := 87) (K := K) (pc := 13) (lv := lv) (st := st) (h := h) (nc := nc) (ns := ns) (x := 89) (X := am_W G (am_M G d) 87 K) [v0, v1] (by decide) rfl)
theorem e_87_16 : pg_code 87 16 = some (.ifCond .eq 17, 3, 33, 0) := by decide +kernel
theorem u_87_16 {a : Int32} {lv : am_L} {st : List Value} : am_W G (am_M G d) 87 K 16 lv (.int a :: st) h nc ns = (am_br (a = 0) (am_W G (am_M G d) 87 K 33 lv st h nc ns) (am_W G (am_M G d) 87 K 19 lv st h nc ns)) := am_u e_87_16
theorem e_87_19 : pg_code 87 19 = some (.aload_n 0, 1, 0, 0) := by decide +kernel
theorem u_87_19 {a : Nat} {lv : am_L} {st : List Value} : am_W G (am_M G d) 87 K 19 (some (.ref a) :: lv) st h nc ns = (am_W G (am_M G d) 87 K 20 (some (.ref a) :: lv) (.ref a :: st) h nc ns) := am_u e_87_19
theorem e_87_20 : pg_code 87 20 = some (.iload_n 3, 1, 0, 0) := by decide +kernel
theorem u_87_20 {a : Int32} {z0 : Option Value} {z1 : Option Value} {z2 : Option Value} {lv : am_L} {st : List Value} : am_W G (am_M G d) 87 K 20 (z0 :: z1 :: z2 :: some (.int a) :: lv) st h nc ns = (am_W G (am_M G d) 87 K 21 (z0 :: z1 :: z2 :: some (.int a) :: lv) (.int a :: st) h nc ns) := am_u e_87_20
theorem e_87_21 : pg_code 87 21 = some (.iload 4, 2, 0, 0) := by decide +kernel
theorem u_87_21 {a : Int32} {z0 : Option Value} {z1 : Option Value} {z2 : Option Value} {z3 : Option Value} {lv : am_L} {st : List Value} : am_W G (am_M G d) 87 K 21 (z0 :: z1 :: z2 :: z3 :: some (.int a) :: lv) st h nc ns = (am_W G (am_M G d) 87 K 23 (z0 :: z1 :: z2 :: z3 :: some (.int a) :: lv) (.int a :: st) h nc ns) := am_u e_87_21
theorem e_87_23 : pg_code 87 23 = some (.invokevirtual 112, 3, 89, 3) := by decide +kernel
theorem u_87_23 {a : Nat} {v0 v1 : Value} {lv : am_L} {st : List Value} : am_W G (am_M G d) 87 K 23 lv (v1 :: v0 :: .ref a :: st) h nc ns = ((am_words st ≤ 8 ∧ nc + 0 ≤ 0 ∧ ns + 0 ≤ 0 ∧ f_rc (h a) 7) ∧ am_M G d 89 [.ref a, v0, v1] h (am_back 87 K (am_W G (am_M G d) 87 K) 89 23 lv st nc ns)) := (am_u e_87_23).trans (f_iv_eq (a := a) (G := G) (d := d) (k := 87) (K := K) (pc := 23) (lv := lv) (st := st) (h := h) (nc := nc) (ns := ns) (x := 89) (X := am_W G (am_M G d) 87 K) [v0, v1] (by decide) rfl)
theorem e_87_26 : pg_code 87 26 = some (.ifCond .eq 7, 3, 33, 0) := by decide +kernel
theorem u_87_26 {a : Int32} {lv : am_L} {st : List Value} : am_W G (am_M G d) 87 K 26 lv (.int a :: st) h nc ns = (am_br (a = 0) (am_W G (am_M G d) 87 K 33 lv st h nc ns) (am_W G (am_M G d) 87 K 29 lv st h nc ns)) := am_u e_87_26
theorem e_87_29 : pg_code 87 29 = some (.iconst 1, 1, 0, 0) := by decide +kernel
theorem u_87_29 {lv : am_L} {st : List Value} : am_W G (am_M G d) 87 K 29 lv st h nc ns = (am_W G (am_M G d) 87 K 30 lv (.int 1 :: st) h nc ns) := am_u e_87_29
theorem e_87_30 : pg_code 87 30 = some (.goto 4, 3, 34, 0) := by decide +kernel
theorem u_87_30 {lv : am_L} {st : List Value} : am_W G (am_M G d) 87 K 30 lv st h nc ns = (am_W G (am_M G d) 87 K 34 lv st h nc ns) := am_u e_87_30
theorem e_87_33 : pg_code 87 33 = some (.iconst 0, 1, 0, 0) := by decide +kernel
theorem u_87_33 {lv : am_L} {st : List Value} : am_W G (am_M G d) 87 K 33 lv st h nc ns = (am_W G (am_M G d) 87 K 34 lv (.int 0 :: st) h nc ns) := am_u e_87_33
theorem e_87_34 : pg_code 87 34 = some (.ireturn, 1, 0, 0) := by decide +kernel
theorem u_87_34 {a : Int32} {lv : am_L} : am_W G (am_M G d) 87 K 34 lv [.int a] h nc ns = (narrow .boolean (.int a) = .int a ∧ K (.inl (some (.int a))) h) := (am_u e_87_34).trans (f_z_eq rfl)
theorem e_88_0 : pg_code 88 0 = some (.iload_n 0, 1, 0, 0) := by decide +kernel
theorem u_88_0 {a : Int32} {lv : am_L} {st : List Value} : am_W G (am_M G d) 88 K 0 (some (.int a) :: lv) st h nc ns = (am_W G (am_M G d) 88 K 1 (some (.int a) :: lv) (.int a :: st) h nc ns) := am_u e_88_0
theorem e_88_1 : pg_code 88 1 = some (.iload_n 1, 1, 0, 0) := by decide +kernel
theorem u_88_1 {a : Int32} {z0 : Option Value} {lv : am_L} {st : List Value} : am_W G (am_M G d) 88 K 1 (z0 :: some (.int a) :: lv) st h nc ns = (am_W G (am_M G d) 88 K 2 (z0 :: some (.int a) :: lv) (.int a :: st) h nc ns) := am_u e_88_1
theorem e_88_2 : pg_code 88 2 = some (.if_icmp .lt 12, 3, 14, 0) := by decide +kernel
theorem u_88_2 {a b : Int32} {lv : am_L} {st : List Value} : am_W G (am_M G d) 88 K 2 lv (.int b :: .int a :: st) h nc ns = (am_br (a < b) (am_W G (am_M G d) 88 K 14 lv st h nc ns) (am_W G (am_M G d) 88 K 5 lv st h nc ns)) := am_u e_88_2
theorem e_88_5 : pg_code 88 5 = some (.iload_n 0, 1, 0, 0) := by decide +kernel
theorem u_88_5 {a : Int32} {lv : am_L} {st : List Value} : am_W G (am_M G d) 88 K 5 (some (.int a) :: lv) st h nc ns = (am_W G (am_M G d) 88 K 6 (some (.int a) :: lv) (.int a :: st) h nc ns) := am_u e_88_5
theorem e_88_6 : pg_code 88 6 = some (.iload_n 2, 1, 0, 0) := by decide +kernel
theorem u_88_6 {a : Int32} {z0 : Option Value} {z1 : Option Value} {lv : am_L} {st : List Value} : am_W G (am_M G d) 88 K 6 (z0 :: z1 :: some (.int a) :: lv) st h nc ns = (am_W G (am_M G d) 88 K 7 (z0 :: z1 :: some (.int a) :: lv) (.int a :: st) h nc ns) := am_u e_88_6
theorem e_88_7 : pg_code 88 7 = some (.if_icmp .gt 7, 3, 14, 0) := by decide +kernel
theorem u_88_7 {a b : Int32} {lv : am_L} {st : List Value} : am_W G (am_M G d) 88 K 7 lv (.int b :: .int a :: st) h nc ns = (am_br (b < a) (am_W G (am_M G d) 88 K 14 lv st h nc ns) (am_W G (am_M G d) 88 K 10 lv st h nc ns)) := am_u e_88_7
theorem e_88_10 : pg_code 88 10 = some (.iconst 1, 1, 0, 0) := by decide +kernel
theorem u_88_10 {lv : am_L} {st : List Value} : am_W G (am_M G d) 88 K 10 lv st h nc ns = (am_W G (am_M G d) 88 K 11 lv (.int 1 :: st) h nc ns) := am_u e_88_10
theorem e_88_11 : pg_code 88 11 = some (.goto 4, 3, 15, 0) := by decide +kernel
theorem u_88_11 {lv : am_L} {st : List Value} : am_W G (am_M G d) 88 K 11 lv st h nc ns = (am_W G (am_M G d) 88 K 15 lv st h nc ns) := am_u e_88_11
theorem e_88_14 : pg_code 88 14 = some (.iconst 0, 1, 0, 0) := by decide +kernel
theorem u_88_14 {lv : am_L} {st : List Value} : am_W G (am_M G d) 88 K 14 lv st h nc ns = (am_W G (am_M G d) 88 K 15 lv (.int 0 :: st) h nc ns) := am_u e_88_14
theorem e_88_15 : pg_code 88 15 = some (.ireturn, 1, 0, 0) := by decide +kernel
theorem u_88_15 {a : Int32} {lv : am_L} : am_W G (am_M G d) 88 K 15 lv [.int a] h nc ns = (narrow .boolean (.int a) = .int a ∧ K (.inl (some (.int a))) h) := (am_u e_88_15).trans (f_z_eq rfl)
theorem e_89_0 : pg_code 89 0 = some (.iload_n 1, 1, 0, 0) := by decide +kernel
theorem u_89_0 {a : Int32} {z0 : Option Value} {lv : am_L} {st : List Value} : am_W G (am_M G d) 89 K 0 (z0 :: some (.int a) :: lv) st h nc ns = (am_W G (am_M G d) 89 K 1 (z0 :: some (.int a) :: lv) (.int a :: st) h nc ns) := am_u e_89_0
theorem e_89_1 : pg_code 89 1 = some (.aload_n 0, 1, 0, 0) := by decide +kernel
theorem u_89_1 {a : Nat} {lv : am_L} {st : List Value} : am_W G (am_M G d) 89 K 1 (some (.ref a) :: lv) st h nc ns = (am_W G (am_M G d) 89 K 2 (some (.ref a) :: lv) (.ref a :: st) h nc ns) := am_u e_89_1
theorem e_89_2 : pg_code 89 2 = some (.getfield 101, 3, 7, 1) := by decide +kernel
theorem u_89_2 {a : Nat} {lv : am_L} {st : List Value} : am_W G (am_M G d) 89 K 2 lv (.ref a :: st) h nc ns = (f_gf G d 89 K 5 lv st h nc ns (h a) 7 1) := am_u e_89_2
theorem e_89_5 : pg_code 89 5 = some (.ineg, 1, 0, 0) := by decide +kernel
theorem u_89_5 {a : Int32} {lv : am_L} {st : List Value} : am_W G (am_M G d) 89 K 5 lv (.int a :: st) h nc ns = (am_W G (am_M G d) 89 K 6 lv (.int (-a) :: st) h nc ns) := am_u e_89_5
theorem e_89_6 : pg_code 89 6 = some (.iload_n 2, 1, 0, 0) := by decide +kernel
theorem u_89_6 {a : Int32} {z0 : Option Value} {z1 : Option Value} {lv : am_L} {st : List Value} : am_W G (am_M G d) 89 K 6 (z0 :: z1 :: some (.int a) :: lv) st h nc ns = (am_W G (am_M G d) 89 K 7 (z0 :: z1 :: some (.int a) :: lv) (.int a :: st) h nc ns) := am_u e_89_6
theorem e_89_7 : pg_code 89 7 = some (.iconst 1, 1, 0, 0) := by decide +kernel
theorem u_89_7 {lv : am_L} {st : List Value} : am_W G (am_M G d) 89 K 7 lv st h nc ns = (am_W G (am_M G d) 89 K 8 lv (.int 1 :: st) h nc ns) := am_u e_89_7
theorem e_89_8 : pg_code 89 8 = some (.isub, 1, 0, 0) := by decide +kernel
theorem u_89_8 {a b : Int32} {lv : am_L} {st : List Value} : am_W G (am_M G d) 89 K 8 lv (.int b :: .int a :: st) h nc ns = (am_W G (am_M G d) 89 K 9 lv (.int (a - b) :: st) h nc ns) := am_u e_89_8
theorem e_89_9 : pg_code 89 9 = some (.invokestatic 108, 3, 88, 3) := by decide +kernel
theorem u_89_9 {v0 v1 v2 : Value} {lv : am_L} {st : List Value} : am_W G (am_M G d) 89 K 9 lv (v2 :: v1 :: v0 :: st) h nc ns = ((am_words st ≤ 8 ∧ nc + 0 ≤ 0 ∧ ns + 0 ≤ 0) ∧ am_M G d 88 [v0, v1, v2] h (am_back 89 K (am_W G (am_M G d) 89 K) 88 9 lv st nc ns)) := (am_u e_89_9).trans (f_st_eq (G := G) (d := d) (k := 89) (K := K) (pc := 9) (lv := lv) (st := st) (h := h) (nc := nc) (ns := ns) (x := 88) (X := am_W G (am_M G d) 89 K) [v0, v1, v2] (by decide) rfl)
theorem e_89_12 : pg_code 89 12 = some (.ireturn, 1, 0, 0) := by decide +kernel
theorem u_89_12 {a : Int32} {lv : am_L} : am_W G (am_M G d) 89 K 12 lv [.int a] h nc ns = (narrow .boolean (.int a) = .int a ∧ K (.inl (some (.int a))) h) := (am_u e_89_12).trans (f_z_eq rfl)
theorem e_90_0 : pg_code 90 0 = some (.iload_n 1, 1, 0, 0) := by decide +kernel
theorem u_90_0 {a : Int32} {z0 : Option Value} {lv : am_L} {st : List Value} : am_W G (am_M G d) 90 K 0 (z0 :: some (.int a) :: lv) st h nc ns = (am_W G (am_M G d) 90 K 1 (z0 :: some (.int a) :: lv) (.int a :: st) h nc ns) := am_u e_90_0
theorem e_90_1 : pg_code 90 1 = some (.invokestatic 116, 3, 91, 1) := by decide +kernel
theorem u_90_1 {v0 : Value} {lv : am_L} {st : List Value} : am_W G (am_M G d) 90 K 1 lv (v0 :: st) h nc ns = ((am_words st ≤ 8 ∧ nc + 0 ≤ 0 ∧ ns + 0 ≤ 0) ∧ am_M G d 91 [v0] h (am_back 90 K (am_W G (am_M G d) 90 K) 91 1 lv st nc ns)) := (am_u e_90_1).trans (f_st_eq (G := G) (d := d) (k := 90) (K := K) (pc := 1) (lv := lv) (st := st) (h := h) (nc := nc) (ns := ns) (x := 91) (X := am_W G (am_M G d) 90 K) [v0] (by decide) rfl)
theorem e_90_4 : pg_code 90 4 = some (.istore 5, 2, 0, 0) := by decide +kernel
theorem u_90_4 {a : Int32} {lv : am_L} {st : List Value} : am_W G (am_M G d) 90 K 4 lv (.int a :: st) h nc ns = (am_W G (am_M G d) 90 K 6 (am_st1 lv 5 (.int a)) st h nc ns) := (am_u e_90_4).trans (f_t (by decide +kernel))
theorem e_90_6 : pg_code 90 6 = some (.aload_n 0, 1, 0, 0) := by decide +kernel
theorem u_90_6 {a : Nat} {lv : am_L} {st : List Value} : am_W G (am_M G d) 90 K 6 (some (.ref a) :: lv) st h nc ns = (am_W G (am_M G d) 90 K 7 (some (.ref a) :: lv) (.ref a :: st) h nc ns) := am_u e_90_6
theorem e_90_7 : pg_code 90 7 = some (.getfield 7, 3, 7, 4) := by decide +kernel
theorem u_90_7 {a : Nat} {lv : am_L} {st : List Value} : am_W G (am_M G d) 90 K 7 lv (.ref a :: st) h nc ns = (f_gf G d 90 K 10 lv st h nc ns (h a) 7 4) := am_u e_90_7
theorem e_90_10 : pg_code 90 10 = some (.iload 5, 2, 0, 0) := by decide +kernel
theorem u_90_10 {a : Int32} {z0 : Option Value} {z1 : Option Value} {z2 : Option Value} {z3 : Option Value} {z4 : Option Value} {lv : am_L} {st : List Value} : am_W G (am_M G d) 90 K 10 (z0 :: z1 :: z2 :: z3 :: z4 :: some (.int a) :: lv) st h nc ns = (am_W G (am_M G d) 90 K 12 (z0 :: z1 :: z2 :: z3 :: z4 :: some (.int a) :: lv) (.int a :: st) h nc ns) := am_u e_90_10
theorem e_90_12 : pg_code 90 12 = some (.iaload, 1, 0, 0) := by decide +kernel
theorem u_90_12 {a : Nat} {j : Int32} {lv : am_L} {st : List Value} : am_W G (am_M G d) 90 K 12 lv (.int j :: .ref a :: st) h nc ns = (f_ia G d 90 K 13 lv st h nc ns (h a) .int j) := am_u e_90_12
theorem e_90_13 : pg_code 90 13 = some (.iload_n 2, 1, 0, 0) := by decide +kernel
theorem u_90_13 {a : Int32} {z0 : Option Value} {z1 : Option Value} {lv : am_L} {st : List Value} : am_W G (am_M G d) 90 K 13 (z0 :: z1 :: some (.int a) :: lv) st h nc ns = (am_W G (am_M G d) 90 K 14 (z0 :: z1 :: some (.int a) :: lv) (.int a :: st) h nc ns) := am_u e_90_13
theorem e_90_14 : pg_code 90 14 = some (.if_icmp .ne 26, 3, 40, 0) := by decide +kernel
theorem u_90_14 {a b : Int32} {lv : am_L} {st : List Value} : am_W G (am_M G d) 90 K 14 lv (.int b :: .int a :: st) h nc ns = (am_br (¬ a = b) (am_W G (am_M G d) 90 K 40 lv st h nc ns) (am_W G (am_M G d) 90 K 17 lv st h nc ns)) := am_u e_90_14
theorem e_90_17 : pg_code 90 17 = some (.aload_n 0, 1, 0, 0) := by decide +kernel
theorem u_90_17 {a : Nat} {lv : am_L} {st : List Value} : am_W G (am_M G d) 90 K 17 (some (.ref a) :: lv) st h nc ns = (am_W G (am_M G d) 90 K 18 (some (.ref a) :: lv) (.ref a :: st) h nc ns) := am_u e_90_17
theorem e_90_18 : pg_code 90 18 = some (.getfield 13, 3, 7, 5) := by decide +kernel
theorem u_90_18 {a : Nat} {lv : am_L} {st : List Value} : am_W G (am_M G d) 90 K 18 lv (.ref a :: st) h nc ns = (f_gf G d 90 K 21 lv st h nc ns (h a) 7 5) := am_u e_90_18
theorem e_90_21 : pg_code 90 21 = some (.iload 5, 2, 0, 0) := by decide +kernel
theorem u_90_21 {a : Int32} {z0 : Option Value} {z1 : Option Value} {z2 : Option Value} {z3 : Option Value} {z4 : Option Value} {lv : am_L} {st : List Value} : am_W G (am_M G d) 90 K 21 (z0 :: z1 :: z2 :: z3 :: z4 :: some (.int a) :: lv) st h nc ns = (am_W G (am_M G d) 90 K 23 (z0 :: z1 :: z2 :: z3 :: z4 :: some (.int a) :: lv) (.int a :: st) h nc ns) := am_u e_90_21
theorem e_90_23 : pg_code 90 23 = some (.iaload, 1, 0, 0) := by decide +kernel
theorem u_90_23 {a : Nat} {j : Int32} {lv : am_L} {st : List Value} : am_W G (am_M G d) 90 K 23 lv (.int j :: .ref a :: st) h nc ns = (f_ia G d 90 K 24 lv st h nc ns (h a) .int j) := am_u e_90_23
theorem e_90_24 : pg_code 90 24 = some (.iload_n 3, 1, 0, 0) := by decide +kernel
theorem u_90_24 {a : Int32} {z0 : Option Value} {z1 : Option Value} {z2 : Option Value} {lv : am_L} {st : List Value} : am_W G (am_M G d) 90 K 24 (z0 :: z1 :: z2 :: some (.int a) :: lv) st h nc ns = (am_W G (am_M G d) 90 K 25 (z0 :: z1 :: z2 :: some (.int a) :: lv) (.int a :: st) h nc ns) := am_u e_90_24
theorem e_90_25 : pg_code 90 25 = some (.if_icmp .ne 15, 3, 40, 0) := by decide +kernel
theorem u_90_25 {a b : Int32} {lv : am_L} {st : List Value} : am_W G (am_M G d) 90 K 25 lv (.int b :: .int a :: st) h nc ns = (am_br (¬ a = b) (am_W G (am_M G d) 90 K 40 lv st h nc ns) (am_W G (am_M G d) 90 K 28 lv st h nc ns)) := am_u e_90_25
theorem e_90_28 : pg_code 90 28 = some (.aload_n 0, 1, 0, 0) := by decide +kernel
theorem u_90_28 {a : Nat} {lv : am_L} {st : List Value} : am_W G (am_M G d) 90 K 28 (some (.ref a) :: lv) st h nc ns = (am_W G (am_M G d) 90 K 29 (some (.ref a) :: lv) (.ref a :: st) h nc ns) := am_u e_90_28
theorem e_90_29 : pg_code 90 29 = some (.getfield 16, 3, 7, 6) := by decide +kernel
theorem u_90_29 {a : Nat} {lv : am_L} {st : List Value} : am_W G (am_M G d) 90 K 29 lv (.ref a :: st) h nc ns = (f_gf G d 90 K 32 lv st h nc ns (h a) 7 6) := am_u e_90_29
theorem e_90_32 : pg_code 90 32 = some (.iload 5, 2, 0, 0) := by decide +kernel
theorem u_90_32 {a : Int32} {z0 : Option Value} {z1 : Option Value} {z2 : Option Value} {z3 : Option Value} {z4 : Option Value} {lv : am_L} {st : List Value} : am_W G (am_M G d) 90 K 32 (z0 :: z1 :: z2 :: z3 :: z4 :: some (.int a) :: lv) st h nc ns = (am_W G (am_M G d) 90 K 34 (z0 :: z1 :: z2 :: z3 :: z4 :: some (.int a) :: lv) (.int a :: st) h nc ns) := am_u e_90_32
theorem e_90_34 : pg_code 90 34 = some (.iaload, 1, 0, 0) := by decide +kernel
theorem u_90_34 {a : Nat} {j : Int32} {lv : am_L} {st : List Value} : am_W G (am_M G d) 90 K 34 lv (.int j :: .ref a :: st) h nc ns = (f_ia G d 90 K 35 lv st h nc ns (h a) .int j) := am_u e_90_34
theorem e_90_35 : pg_code 90 35 = some (.iload 4, 2, 0, 0) := by decide +kernel
theorem u_90_35 {a : Int32} {z0 : Option Value} {z1 : Option Value} {z2 : Option Value} {z3 : Option Value} {lv : am_L} {st : List Value} : am_W G (am_M G d) 90 K 35 (z0 :: z1 :: z2 :: z3 :: some (.int a) :: lv) st h nc ns = (am_W G (am_M G d) 90 K 37 (z0 :: z1 :: z2 :: z3 :: some (.int a) :: lv) (.int a :: st) h nc ns) := am_u e_90_35
theorem e_90_37 : pg_code 90 37 = some (.if_icmp .eq 7, 3, 44, 0) := by decide +kernel
theorem u_90_37 {a b : Int32} {lv : am_L} {st : List Value} : am_W G (am_M G d) 90 K 37 lv (.int b :: .int a :: st) h nc ns = (am_br (a = b) (am_W G (am_M G d) 90 K 44 lv st h nc ns) (am_W G (am_M G d) 90 K 40 lv st h nc ns)) := am_u e_90_37
theorem e_90_40 : pg_code 90 40 = some (.iconst 1, 1, 0, 0) := by decide +kernel
theorem u_90_40 {lv : am_L} {st : List Value} : am_W G (am_M G d) 90 K 40 lv st h nc ns = (am_W G (am_M G d) 90 K 41 lv (.int 1 :: st) h nc ns) := am_u e_90_40
theorem e_90_41 : pg_code 90 41 = some (.goto 4, 3, 45, 0) := by decide +kernel
theorem u_90_41 {lv : am_L} {st : List Value} : am_W G (am_M G d) 90 K 41 lv st h nc ns = (am_W G (am_M G d) 90 K 45 lv st h nc ns) := am_u e_90_41
theorem e_90_44 : pg_code 90 44 = some (.iconst 0, 1, 0, 0) := by decide +kernel
theorem u_90_44 {lv : am_L} {st : List Value} : am_W G (am_M G d) 90 K 44 lv st h nc ns = (am_W G (am_M G d) 90 K 45 lv (.int 0 :: st) h nc ns) := am_u e_90_44
theorem e_90_45 : pg_code 90 45 = some (.istore 6, 2, 0, 0) := by decide +kernel
theorem u_90_45 {a : Int32} {lv : am_L} {st : List Value} : am_W G (am_M G d) 90 K 45 lv (.int a :: st) h nc ns = (am_W G (am_M G d) 90 K 47 (am_st1 lv 6 (.int a)) st h nc ns) := (am_u e_90_45).trans (f_t (by decide +kernel))
theorem e_90_47 : pg_code 90 47 = some (.aload_n 0, 1, 0, 0) := by decide +kernel
theorem u_90_47 {a : Nat} {lv : am_L} {st : List Value} : am_W G (am_M G d) 90 K 47 (some (.ref a) :: lv) st h nc ns = (am_W G (am_M G d) 90 K 48 (some (.ref a) :: lv) (.ref a :: st) h nc ns) := am_u e_90_47
theorem e_90_48 : pg_code 90 48 = some (.getfield 7, 3, 7, 4) := by decide +kernel
theorem u_90_48 {a : Nat} {lv : am_L} {st : List Value} : am_W G (am_M G d) 90 K 48 lv (.ref a :: st) h nc ns = (f_gf G d 90 K 51 lv st h nc ns (h a) 7 4) := am_u e_90_48
theorem e_90_51 : pg_code 90 51 = some (.iload 5, 2, 0, 0) := by decide +kernel
theorem u_90_51 {a : Int32} {z0 : Option Value} {z1 : Option Value} {z2 : Option Value} {z3 : Option Value} {z4 : Option Value} {lv : am_L} {st : List Value} : am_W G (am_M G d) 90 K 51 (z0 :: z1 :: z2 :: z3 :: z4 :: some (.int a) :: lv) st h nc ns = (am_W G (am_M G d) 90 K 53 (z0 :: z1 :: z2 :: z3 :: z4 :: some (.int a) :: lv) (.int a :: st) h nc ns) := am_u e_90_51
theorem e_90_53 : pg_code 90 53 = some (.iload_n 2, 1, 0, 0) := by decide +kernel
theorem u_90_53 {a : Int32} {z0 : Option Value} {z1 : Option Value} {lv : am_L} {st : List Value} : am_W G (am_M G d) 90 K 53 (z0 :: z1 :: some (.int a) :: lv) st h nc ns = (am_W G (am_M G d) 90 K 54 (z0 :: z1 :: some (.int a) :: lv) (.int a :: st) h nc ns) := am_u e_90_53
theorem e_90_54 : pg_code 90 54 = some (.iastore, 1, 0, 0) := by decide +kernel
theorem u_90_54 {a : Nat} {j b : Int32} {lv : am_L} {st : List Value} : am_W G (am_M G d) 90 K 54 lv (.int b :: .int j :: .ref a :: st) h nc ns = (f_is G d 90 K 55 lv st h nc ns (h a) .int a j b) := am_u e_90_54
theorem e_90_55 : pg_code 90 55 = some (.aload_n 0, 1, 0, 0) := by decide +kernel
theorem u_90_55 {a : Nat} {lv : am_L} {st : List Value} : am_W G (am_M G d) 90 K 55 (some (.ref a) :: lv) st h nc ns = (am_W G (am_M G d) 90 K 56 (some (.ref a) :: lv) (.ref a :: st) h nc ns) := am_u e_90_55
theorem e_90_56 : pg_code 90 56 = some (.getfield 13, 3, 7, 5) := by decide +kernel
theorem u_90_56 {a : Nat} {lv : am_L} {st : List Value} : am_W G (am_M G d) 90 K 56 lv (.ref a :: st) h nc ns = (f_gf G d 90 K 59 lv st h nc ns (h a) 7 5) := am_u e_90_56
theorem e_90_59 : pg_code 90 59 = some (.iload 5, 2, 0, 0) := by decide +kernel
theorem u_90_59 {a : Int32} {z0 : Option Value} {z1 : Option Value} {z2 : Option Value} {z3 : Option Value} {z4 : Option Value} {lv : am_L} {st : List Value} : am_W G (am_M G d) 90 K 59 (z0 :: z1 :: z2 :: z3 :: z4 :: some (.int a) :: lv) st h nc ns = (am_W G (am_M G d) 90 K 61 (z0 :: z1 :: z2 :: z3 :: z4 :: some (.int a) :: lv) (.int a :: st) h nc ns) := am_u e_90_59
theorem e_90_61 : pg_code 90 61 = some (.iload_n 3, 1, 0, 0) := by decide +kernel
theorem u_90_61 {a : Int32} {z0 : Option Value} {z1 : Option Value} {z2 : Option Value} {lv : am_L} {st : List Value} : am_W G (am_M G d) 90 K 61 (z0 :: z1 :: z2 :: some (.int a) :: lv) st h nc ns = (am_W G (am_M G d) 90 K 62 (z0 :: z1 :: z2 :: some (.int a) :: lv) (.int a :: st) h nc ns) := am_u e_90_61
theorem e_90_62 : pg_code 90 62 = some (.iastore, 1, 0, 0) := by decide +kernel
theorem u_90_62 {a : Nat} {j b : Int32} {lv : am_L} {st : List Value} : am_W G (am_M G d) 90 K 62 lv (.int b :: .int j :: .ref a :: st) h nc ns = (f_is G d 90 K 63 lv st h nc ns (h a) .int a j b) := am_u e_90_62
theorem e_90_63 : pg_code 90 63 = some (.aload_n 0, 1, 0, 0) := by decide +kernel
theorem u_90_63 {a : Nat} {lv : am_L} {st : List Value} : am_W G (am_M G d) 90 K 63 (some (.ref a) :: lv) st h nc ns = (am_W G (am_M G d) 90 K 64 (some (.ref a) :: lv) (.ref a :: st) h nc ns) := am_u e_90_63
theorem e_90_64 : pg_code 90 64 = some (.getfield 16, 3, 7, 6) := by decide +kernel
theorem u_90_64 {a : Nat} {lv : am_L} {st : List Value} : am_W G (am_M G d) 90 K 64 lv (.ref a :: st) h nc ns = (f_gf G d 90 K 67 lv st h nc ns (h a) 7 6) := am_u e_90_64
theorem e_90_67 : pg_code 90 67 = some (.iload 5, 2, 0, 0) := by decide +kernel
theorem u_90_67 {a : Int32} {z0 : Option Value} {z1 : Option Value} {z2 : Option Value} {z3 : Option Value} {z4 : Option Value} {lv : am_L} {st : List Value} : am_W G (am_M G d) 90 K 67 (z0 :: z1 :: z2 :: z3 :: z4 :: some (.int a) :: lv) st h nc ns = (am_W G (am_M G d) 90 K 69 (z0 :: z1 :: z2 :: z3 :: z4 :: some (.int a) :: lv) (.int a :: st) h nc ns) := am_u e_90_67
theorem e_90_69 : pg_code 90 69 = some (.iload 4, 2, 0, 0) := by decide +kernel
theorem u_90_69 {a : Int32} {z0 : Option Value} {z1 : Option Value} {z2 : Option Value} {z3 : Option Value} {lv : am_L} {st : List Value} : am_W G (am_M G d) 90 K 69 (z0 :: z1 :: z2 :: z3 :: some (.int a) :: lv) st h nc ns = (am_W G (am_M G d) 90 K 71 (z0 :: z1 :: z2 :: z3 :: some (.int a) :: lv) (.int a :: st) h nc ns) := am_u e_90_69
theorem e_90_71 : pg_code 90 71 = some (.iastore, 1, 0, 0) := by decide +kernel
theorem u_90_71 {a : Nat} {j b : Int32} {lv : am_L} {st : List Value} : am_W G (am_M G d) 90 K 71 lv (.int b :: .int j :: .ref a :: st) h nc ns = (f_is G d 90 K 72 lv st h nc ns (h a) .int a j b) := am_u e_90_71
theorem e_90_72 : pg_code 90 72 = some (.iload 6, 2, 0, 0) := by decide +kernel
theorem u_90_72 {a : Int32} {z0 : Option Value} {z1 : Option Value} {z2 : Option Value} {z3 : Option Value} {z4 : Option Value} {z5 : Option Value} {lv : am_L} {st : List Value} : am_W G (am_M G d) 90 K 72 (z0 :: z1 :: z2 :: z3 :: z4 :: z5 :: some (.int a) :: lv) st h nc ns = (am_W G (am_M G d) 90 K 74 (z0 :: z1 :: z2 :: z3 :: z4 :: z5 :: some (.int a) :: lv) (.int a :: st) h nc ns) := am_u e_90_72
theorem e_90_74 : pg_code 90 74 = some (.ireturn, 1, 0, 0) := by decide +kernel
theorem u_90_74 {a : Int32} {lv : am_L} : am_W G (am_M G d) 90 K 74 lv [.int a] h nc ns = (narrow .boolean (.int a) = .int a ∧ K (.inl (some (.int a))) h) := (am_u e_90_74).trans (f_z_eq rfl)
theorem e_91_0 : pg_code 91 0 = some (.sipush 2400, 3, 0, 0) := by decide +kernel
theorem u_91_0 {lv : am_L} {st : List Value} : am_W G (am_M G d) 91 K 0 lv st h nc ns = (am_W G (am_M G d) 91 K 3 lv (.int 2400 :: st) h nc ns) := am_u e_91_0
theorem e_91_3 : pg_code 91 3 = some (.iload_n 0, 1, 0, 0) := by decide +kernel
theorem u_91_3 {a : Int32} {lv : am_L} {st : List Value} : am_W G (am_M G d) 91 K 3 (some (.int a) :: lv) st h nc ns = (am_W G (am_M G d) 91 K 4 (some (.int a) :: lv) (.int a :: st) h nc ns) := am_u e_91_3
theorem e_91_4 : pg_code 91 4 = some (.iadd, 1, 0, 0) := by decide +kernel
theorem u_91_4 {a b : Int32} {lv : am_L} {st : List Value} : am_W G (am_M G d) 91 K 4 lv (.int b :: .int a :: st) h nc ns = (am_W G (am_M G d) 91 K 5 lv (.int (a + b) :: st) h nc ns) := am_u e_91_4
theorem e_91_5 : pg_code 91 5 = some (.ireturn, 1, 0, 0) := by decide +kernel
theorem u_91_5 {a : Int32} {lv : am_L} : am_W G (am_M G d) 91 K 5 lv [.int a] h nc ns = (K (.inl (some (.int a))) h) := (am_u e_91_5).trans (f_t ⟨rfl, .int, rfl, rfl⟩)
theorem e_92_0 : pg_code 92 0 = some (.aload_n 0, 1, 0, 0) := by decide +kernel
theorem u_92_0 {a : Nat} {lv : am_L} {st : List Value} : am_W G (am_M G d) 92 K 0 (some (.ref a) :: lv) st h nc ns = (am_W G (am_M G d) 92 K 1 (some (.ref a) :: lv) (.ref a :: st) h nc ns) := am_u e_92_0
theorem e_92_1 : pg_code 92 1 = some (.iconst 0, 1, 0, 0) := by decide +kernel
theorem u_92_1 {lv : am_L} {st : List Value} : am_W G (am_M G d) 92 K 1 lv st h nc ns = (am_W G (am_M G d) 92 K 2 lv (.int 0 :: st) h nc ns) := am_u e_92_1
theorem e_92_2 : pg_code 92 2 = some (.putfield 90, 3, 7, 0) := by decide +kernel
theorem u_92_2 {a : Nat} {b : Int32} {lv : am_L} {st : List Value} : am_W G (am_M G d) 92 K 2 lv (.int b :: .ref a :: st) h nc ns = (f_pf G d 92 K 5 lv st h nc ns (h a) 7 0 a (.int b)) := (am_u e_92_2).trans (f_pf_eq ⟨rfl, rfl⟩)
theorem e_92_5 : pg_code 92 5 = some (.iload_n 1, 1, 0, 0) := by decide +kernel
theorem u_92_5 {a : Int32} {z0 : Option Value} {lv : am_L} {st : List Value} : am_W G (am_M G d) 92 K 5 (z0 :: some (.int a) :: lv) st h nc ns = (am_W G (am_M G d) 92 K 6 (z0 :: some (.int a) :: lv) (.int a :: st) h nc ns) := am_u e_92_5
theorem e_92_6 : pg_code 92 6 = some (.iconst 0, 1, 0, 0) := by decide +kernel
theorem u_92_6 {lv : am_L} {st : List Value} : am_W G (am_M G d) 92 K 6 lv st h nc ns = (am_W G (am_M G d) 92 K 7 lv (.int 0 :: st) h nc ns) := am_u e_92_6
theorem e_92_7 : pg_code 92 7 = some (.aload_n 0, 1, 0, 0) := by decide +kernel
theorem u_92_7 {a : Nat} {lv : am_L} {st : List Value} : am_W G (am_M G d) 92 K 7 (some (.ref a) :: lv) st h nc ns = (am_W G (am_M G d) 92 K 8 (some (.ref a) :: lv) (.ref a :: st) h nc ns) := am_u e_92_7
theorem e_92_8 : pg_code 92 8 = some (.getfield 101, 3, 7, 1) := by decide +kernel
theorem u_92_8 {a : Nat} {lv : am_L} {st : List Value} : am_W G (am_M G d) 92 K 8 lv (.ref a :: st) h nc ns = (f_gf G d 92 K 11 lv st h nc ns (h a) 7 1) := am_u e_92_8
theorem e_92_11 : pg_code 92 11 = some (.iconst 1, 1, 0, 0) := by decide +kernel
theorem u_92_11 {lv : am_L} {st : List Value} : am_W G (am_M G d) 92 K 11 lv st h nc ns = (am_W G (am_M G d) 92 K 12 lv (.int 1 :: st) h nc ns) := am_u e_92_11
theorem e_92_12 : pg_code 92 12 = some (.isub, 1, 0, 0) := by decide +kernel
theorem u_92_12 {a b : Int32} {lv : am_L} {st : List Value} : am_W G (am_M G d) 92 K 12 lv (.int b :: .int a :: st) h nc ns = (am_W G (am_M G d) 92 K 13 lv (.int (a - b) :: st) h nc ns) := am_u e_92_12
theorem e_92_13 : pg_code 92 13 = some (.invokestatic 108, 3, 88, 3) := by decide +kernel
theorem u_92_13 {v0 v1 v2 : Value} {lv : am_L} {st : List Value} : am_W G (am_M G d) 92 K 13 lv (v2 :: v1 :: v0 :: st) h nc ns = ((am_words st ≤ 8 ∧ nc + 0 ≤ 0 ∧ ns + 0 ≤ 0) ∧ am_M G d 88 [v0, v1, v2] h (am_back 92 K (am_W G (am_M G d) 92 K) 88 13 lv st nc ns)) := (am_u e_92_13).trans (f_st_eq (G := G) (d := d) (k := 92) (K := K) (pc := 13) (lv := lv) (st := st) (h := h) (nc := nc) (ns := ns) (x := 88) (X := am_W G (am_M G d) 92 K) [v0, v1, v2] (by decide) rfl)
theorem e_92_16 : pg_code 92 16 = some (.ifCond .ne 10, 3, 26, 0) := by decide +kernel
theorem u_92_16 {a : Int32} {lv : am_L} {st : List Value} : am_W G (am_M G d) 92 K 16 lv (.int a :: st) h nc ns = (am_br (¬ a = 0) (am_W G (am_M G d) 92 K 26 lv st h nc ns) (am_W G (am_M G d) 92 K 19 lv st h nc ns)) := am_u e_92_16
theorem e_92_19 : pg_code 92 19 = some (.aload_n 0, 1, 0, 0) := by decide +kernel
theorem u_92_19 {a : Nat} {lv : am_L} {st : List Value} : am_W G (am_M G d) 92 K 19 (some (.ref a) :: lv) st h nc ns = (am_W G (am_M G d) 92 K 20 (some (.ref a) :: lv) (.ref a :: st) h nc ns) := am_u e_92_19
theorem e_92_20 : pg_code 92 20 = some (.iconst 1, 1, 0, 0) := by decide +kernel
theorem u_92_20 {lv : am_L} {st : List Value} : am_W G (am_M G d) 92 K 20 lv st h nc ns = (am_W G (am_M G d) 92 K 21 lv (.int 1 :: st) h nc ns) := am_u e_92_20
theorem e_92_21 : pg_code 92 21 = some (.putfield 90, 3, 7, 0) := by decide +kernel
theorem u_92_21 {a : Nat} {b : Int32} {lv : am_L} {st : List Value} : am_W G (am_M G d) 92 K 21 lv (.int b :: .ref a :: st) h nc ns = (f_pf G d 92 K 24 lv st h nc ns (h a) 7 0 a (.int b)) := (am_u e_92_21).trans (f_pf_eq ⟨rfl, rfl⟩)
theorem e_92_24 : pg_code 92 24 = some (.lconst 0, 1, 0, 0) := by decide +kernel
theorem u_92_24 {lv : am_L} {st : List Value} : am_W G (am_M G d) 92 K 24 lv st h nc ns = (am_W G (am_M G d) 92 K 25 lv (.long 0 :: st) h nc ns) := am_u e_92_24
theorem e_92_25 : pg_code 92 25 = some (.lreturn, 1, 0, 0) := by decide +kernel
theorem u_92_25 {a : Int64} {lv : am_L} : am_W G (am_M G d) 92 K 25 lv [.long a] h nc ns = (K (.inl (some (.long a))) h) := (am_u e_92_25).trans (f_t ⟨rfl, rfl⟩)
theorem e_92_26 : pg_code 92 26 = some (.aload_n 0, 1, 0, 0) := by decide +kernel
theorem u_92_26 {a : Nat} {lv : am_L} {st : List Value} : am_W G (am_M G d) 92 K 26 (some (.ref a) :: lv) st h nc ns = (am_W G (am_M G d) 92 K 27 (some (.ref a) :: lv) (.ref a :: st) h nc ns) := am_u e_92_26
theorem e_92_27 : pg_code 92 27 = some (.invokevirtual 129, 3, 93, 1) := by decide +kernel
theorem u_92_27 {a : Nat} {lv : am_L} {st : List Value} : am_W G (am_M G d) 92 K 27 lv (.ref a :: st) h nc ns = ((am_words st ≤ 8 ∧ nc + 0 ≤ 0 ∧ ns + 0 ≤ 0 ∧ f_rc (h a) 7) ∧ am_M G d 93 [.ref a] h (am_back 92 K (am_W G (am_M G d) 92 K) 93 27 lv st nc ns)) := (am_u e_92_27).trans (f_iv_eq (a := a) (G := G) (d := d) (k := 92) (K := K) (pc := 27) (lv := lv) (st := st) (h := h) (nc := nc) (ns := ns) (x := 93) (X := am_W G (am_M G d) 92 K) [] (by decide) rfl)
theorem e_92_30 : pg_code 92 30 = some (.aload_n 0, 1, 0, 0) := by decide +kernel
theorem u_92_30 {a : Nat} {lv : am_L} {st : List Value} : am_W G (am_M G d) 92 K 30 (some (.ref a) :: lv) st h nc ns = (am_W G (am_M G d) 92 K 31 (some (.ref a) :: lv) (.ref a :: st) h nc ns) := am_u e_92_30
theorem e_92_31 : pg_code 92 31 = some (.getfield 51, 3, 7, 17) := by decide +kernel
theorem u_92_31 {a : Nat} {lv : am_L} {st : List Value} : am_W G (am_M G d) 92 K 31 lv (.ref a :: st) h nc ns = (f_gf G d 92 K 34 lv st h nc ns (h a) 7 17) := am_u e_92_31
theorem e_92_34 : pg_code 92 34 = some (.sipush 960, 3, 0, 0) := by decide +kernel
theorem u_92_34 {lv : am_L} {st : List Value} : am_W G (am_M G d) 92 K 34 lv st h nc ns = (am_W G (am_M G d) 92 K 37 lv (.int 960 :: st) h nc ns) := am_u e_92_34
theorem e_92_37 : pg_code 92 37 = some (.iload_n 1, 1, 0, 0) := by decide +kernel
theorem u_92_37 {a : Int32} {z0 : Option Value} {lv : am_L} {st : List Value} : am_W G (am_M G d) 92 K 37 (z0 :: some (.int a) :: lv) st h nc ns = (am_W G (am_M G d) 92 K 38 (z0 :: some (.int a) :: lv) (.int a :: st) h nc ns) := am_u e_92_37
theorem e_92_38 : pg_code 92 38 = some (.iadd, 1, 0, 0) := by decide +kernel
theorem u_92_38 {a b : Int32} {lv : am_L} {st : List Value} : am_W G (am_M G d) 92 K 38 lv (.int b :: .int a :: st) h nc ns = (am_W G (am_M G d) 92 K 39 lv (.int (a + b) :: st) h nc ns) := am_u e_92_38
theorem e_92_39 : pg_code 92 39 = some (.laload, 1, 0, 0) := by decide +kernel
theorem u_92_39 {a : Nat} {j : Int32} {lv : am_L} {st : List Value} : am_W G (am_M G d) 92 K 39 lv (.int j :: .ref a :: st) h nc ns = (f_la G d 92 K 40 lv st h nc ns (h a) j) := am_u e_92_39
theorem e_92_40 : pg_code 92 40 = some (.lstore 4, 2, 0, 0) := by decide +kernel
theorem u_92_40 {a : Int64} {lv : am_L} {st : List Value} : am_W G (am_M G d) 92 K 40 lv (.long a :: st) h nc ns = (am_W G (am_M G d) 92 K 42 (am_st2 lv 4 (.long a)) st h nc ns) := (am_u e_92_40).trans (f_t (by decide +kernel))
theorem e_92_42 : pg_code 92 42 = some (.aload_n 0, 1, 0, 0) := by decide +kernel
theorem u_92_42 {a : Nat} {lv : am_L} {st : List Value} : am_W G (am_M G d) 92 K 42 (some (.ref a) :: lv) st h nc ns = (am_W G (am_M G d) 92 K 43 (some (.ref a) :: lv) (.ref a :: st) h nc ns) := am_u e_92_42
theorem e_92_43 : pg_code 92 43 = some (.getfield 51, 3, 7, 17) := by decide +kernel
theorem u_92_43 {a : Nat} {lv : am_L} {st : List Value} : am_W G (am_M G d) 92 K 43 lv (.ref a :: st) h nc ns = (f_gf G d 92 K 46 lv st h nc ns (h a) 7 17) := am_u e_92_43
theorem e_92_46 : pg_code 92 46 = some (.sipush 960, 3, 0, 0) := by decide +kernel
theorem u_92_46 {lv : am_L} {st : List Value} : am_W G (am_M G d) 92 K 46 lv st h nc ns = (am_W G (am_M G d) 92 K 49 lv (.int 960 :: st) h nc ns) := am_u e_92_46
theorem e_92_49 : pg_code 92 49 = some (.iload_n 1, 1, 0, 0) := by decide +kernel
theorem u_92_49 {a : Int32} {z0 : Option Value} {lv : am_L} {st : List Value} : am_W G (am_M G d) 92 K 49 (z0 :: some (.int a) :: lv) st h nc ns = (am_W G (am_M G d) 92 K 50 (z0 :: some (.int a) :: lv) (.int a :: st) h nc ns) := am_u e_92_49
theorem e_92_50 : pg_code 92 50 = some (.iadd, 1, 0, 0) := by decide +kernel
theorem u_92_50 {a b : Int32} {lv : am_L} {st : List Value} : am_W G (am_M G d) 92 K 50 lv (.int b :: .int a :: st) h nc ns = (am_W G (am_M G d) 92 K 51 lv (.int (a + b) :: st) h nc ns) := am_u e_92_50
theorem e_92_51 : pg_code 92 51 = some (.lload_n 2, 1, 0, 0) := by decide +kernel
theorem u_92_51 {a : Int64} {z0 : Option Value} {z1 : Option Value} {lv : am_L} {st : List Value} : am_W G (am_M G d) 92 K 51 (z0 :: z1 :: some (.long a) :: lv) st h nc ns = (am_W G (am_M G d) 92 K 52 (z0 :: z1 :: some (.long a) :: lv) (.long a :: st) h nc ns) := am_u e_92_51
theorem e_92_52 : pg_code 92 52 = some (.lastore, 1, 0, 0) := by decide +kernel
theorem u_92_52 {a : Nat} {j : Int32} {b : Int64} {lv : am_L} {st : List Value} : am_W G (am_M G d) 92 K 52 lv (.long b :: .int j :: .ref a :: st) h nc ns = (f_ls G d 92 K 53 lv st h nc ns (h a) a j b) := am_u e_92_52
theorem e_92_53 : pg_code 92 53 = some (.lload 4, 2, 0, 0) := by decide +kernel
theorem u_92_53 {a : Int64} {z0 : Option Value} {z1 : Option Value} {z2 : Option Value} {z3 : Option Value} {lv : am_L} {st : List Value} : am_W G (am_M G d) 92 K 53 (z0 :: z1 :: z2 :: z3 :: some (.long a) :: lv) st h nc ns = (am_W G (am_M G d) 92 K 55 (z0 :: z1 :: z2 :: z3 :: some (.long a) :: lv) (.long a :: st) h nc ns) := am_u e_92_53
theorem e_92_55 : pg_code 92 55 = some (.lreturn, 1, 0, 0) := by decide +kernel
theorem u_92_55 {a : Int64} {lv : am_L} : am_W G (am_M G d) 92 K 55 lv [.long a] h nc ns = (K (.inl (some (.long a))) h) := (am_u e_92_55).trans (f_t ⟨rfl, rfl⟩)
theorem e_93_0 : pg_code 93 0 = some (.aload_n 0, 1, 0, 0) := by decide +kernel
theorem u_93_0 {a : Nat} {lv : am_L} {st : List Value} : am_W G (am_M G d) 93 K 0 (some (.ref a) :: lv) st h nc ns = (am_W G (am_M G d) 93 K 1 (some (.ref a) :: lv) (.ref a :: st) h nc ns) := am_u e_93_0
theorem e_93_1 : pg_code 93 1 = some (.getfield 94, 3, 7, 18) := by decide +kernel
theorem u_93_1 {a : Nat} {lv : am_L} {st : List Value} : am_W G (am_M G d) 93 K 1 lv (.ref a :: st) h nc ns = (f_gf G d 93 K 4 lv st h nc ns (h a) 7 18) := am_u e_93_1
theorem e_93_4 : pg_code 93 4 = some (.bipush 16, 2, 0, 0) := by decide +kernel
theorem u_93_4 {lv : am_L} {st : List Value} : am_W G (am_M G d) 93 K 4 lv st h nc ns = (am_W G (am_M G d) 93 K 6 lv (.int 16 :: st) h nc ns) := am_u e_93_4
theorem e_93_6 : pg_code 93 6 = some (.if_icmp .ne 37, 3, 43, 0) := by decide +kernel
theorem u_93_6 {a b : Int32} {lv : am_L} {st : List Value} : am_W G (am_M G d) 93 K 6 lv (.int b :: .int a :: st) h nc ns = (am_br (¬ a = b) (am_W G (am_M G d) 93 K 43 lv st h nc ns) (am_W G (am_M G d) 93 K 9 lv st h nc ns)) := am_u e_93_6
theorem e_93_9 : pg_code 93 9 = some (.aload_n 0, 1, 0, 0) := by decide +kernel
theorem u_93_9 {a : Nat} {lv : am_L} {st : List Value} : am_W G (am_M G d) 93 K 9 (some (.ref a) :: lv) st h nc ns = (am_W G (am_M G d) 93 K 10 (some (.ref a) :: lv) (.ref a :: st) h nc ns) := am_u e_93_9
theorem e_93_10 : pg_code 93 10 = some (.dup, 1, 0, 0) := by decide +kernel
theorem u_93_10 {a : Nat} {lv : am_L} {st : List Value} : am_W G (am_M G d) 93 K 10 lv (.ref a :: st) h nc ns = (am_W G (am_M G d) 93 K 11 lv (.ref a :: .ref a :: st) h nc ns) := (am_u e_93_10).trans (f_t rfl)
theorem e_93_11 : pg_code 93 11 = some (.getfield 94, 3, 7, 18) := by decide +kernel
theorem u_93_11 {a : Nat} {lv : am_L} {st : List Value} : am_W G (am_M G d) 93 K 11 lv (.ref a :: st) h nc ns = (f_gf G d 93 K 14 lv st h nc ns (h a) 7 18) := am_u e_93_11
theorem e_93_14 : pg_code 93 14 = some (.iconst 1, 1, 0, 0) := by decide +kernel
theorem u_93_14 {lv : am_L} {st : List Value} : am_W G (am_M G d) 93 K 14 lv st h nc ns = (am_W G (am_M G d) 93 K 15 lv (.int 1 :: st) h nc ns) := am_u e_93_14
theorem e_93_15 : pg_code 93 15 = some (.isub, 1, 0, 0) := by decide +kernel
theorem u_93_15 {a b : Int32} {lv : am_L} {st : List Value} : am_W G (am_M G d) 93 K 15 lv (.int b :: .int a :: st) h nc ns = (am_W G (am_M G d) 93 K 16 lv (.int (a - b) :: st) h nc ns) := am_u e_93_15
theorem e_93_16 : pg_code 93 16 = some (.putfield 94, 3, 7, 18) := by decide +kernel
theorem u_93_16 {a : Nat} {b : Int32} {lv : am_L} {st : List Value} : am_W G (am_M G d) 93 K 16 lv (.int b :: .ref a :: st) h nc ns = (f_pf G d 93 K 19 lv st h nc ns (h a) 7 18 a (.int b)) := (am_u e_93_16).trans (f_pf_eq ⟨rfl, rfl⟩)
theorem e_93_19 : pg_code 93 19 = some (.iconst 0, 1, 0, 0) := by decide +kernel
theorem u_93_19 {lv : am_L} {st : List Value} : am_W G (am_M G d) 93 K 19 lv st h nc ns = (am_W G (am_M G d) 93 K 20 lv (.int 0 :: st) h nc ns) := am_u e_93_19
theorem e_93_20 : pg_code 93 20 = some (.istore_n 1, 1, 0, 0) := by decide +kernel
theorem u_93_20 {a : Int32} {lv : am_L} {st : List Value} : am_W G (am_M G d) 93 K 20 lv (.int a :: st) h nc ns = (am_W G (am_M G d) 93 K 21 (am_st1 lv 1 (.int a)) st h nc ns) := (am_u e_93_20).trans (f_t (by decide +kernel))
theorem e_93_21 : pg_code 93 21 = some (.iload_n 1, 1, 0, 0) := by decide +kernel
theorem u_93_21 {a : Int32} {z0 : Option Value} {lv : am_L} {st : List Value} : am_W G (am_M G d) 93 K 21 (z0 :: some (.int a) :: lv) st h nc ns = (am_W G (am_M G d) 93 K 22 (z0 :: some (.int a) :: lv) (.int a :: st) h nc ns) := am_u e_93_21
theorem e_93_22 : pg_code 93 22 = some (.aload_n 0, 1, 0, 0) := by decide +kernel
theorem u_93_22 {a : Nat} {lv : am_L} {st : List Value} : am_W G (am_M G d) 93 K 22 (some (.ref a) :: lv) st h nc ns = (am_W G (am_M G d) 93 K 23 (some (.ref a) :: lv) (.ref a :: st) h nc ns) := am_u e_93_22
theorem e_93_23 : pg_code 93 23 = some (.getfield 94, 3, 7, 18) := by decide +kernel
theorem u_93_23 {a : Nat} {lv : am_L} {st : List Value} : am_W G (am_M G d) 93 K 23 lv (.ref a :: st) h nc ns = (f_gf G d 93 K 26 lv st h nc ns (h a) 7 18) := am_u e_93_23
theorem e_93_26 : pg_code 93 26 = some (.if_icmp .ge 17, 3, 43, 0) := by decide +kernel
theorem u_93_26 {a b : Int32} {lv : am_L} {st : List Value} : am_W G (am_M G d) 93 K 26 lv (.int b :: .int a :: st) h nc ns = (am_br (b ≤ a) (am_W G (am_M G d) 93 K 43 lv st h nc ns) (am_W G (am_M G d) 93 K 29 lv st h nc ns)) := am_u e_93_26
theorem e_93_29 : pg_code 93 29 = some (.aload_n 0, 1, 0, 0) := by decide +kernel
theorem u_93_29 {a : Nat} {lv : am_L} {st : List Value} : am_W G (am_M G d) 93 K 29 (some (.ref a) :: lv) st h nc ns = (am_W G (am_M G d) 93 K 30 (some (.ref a) :: lv) (.ref a :: st) h nc ns) := am_u e_93_29
theorem e_93_30 : pg_code 93 30 = some (.iload_n 1, 1, 0, 0) := by decide +kernel
theorem u_93_30 {a : Int32} {z0 : Option Value} {lv : am_L} {st : List Value} : am_W G (am_M G d) 93 K 30 (z0 :: some (.int a) :: lv) st h nc ns = (am_W G (am_M G d) 93 K 31 (z0 :: some (.int a) :: lv) (.int a :: st) h nc ns) := am_u e_93_30
theorem e_93_31 : pg_code 93 31 = some (.iload_n 1, 1, 0, 0) := by decide +kernel
theorem u_93_31 {a : Int32} {z0 : Option Value} {lv : am_L} {st : List Value} : am_W G (am_M G d) 93 K 31 (z0 :: some (.int a) :: lv) st h nc ns = (am_W G (am_M G d) 93 K 32 (z0 :: some (.int a) :: lv) (.int a :: st) h nc ns) := am_u e_93_31
theorem e_93_32 : pg_code 93 32 = some (.iconst 1, 1, 0, 0) := by decide +kernel
theorem u_93_32 {lv : am_L} {st : List Value} : am_W G (am_M G d) 93 K 32 lv st h nc ns = (am_W G (am_M G d) 93 K 33 lv (.int 1 :: st) h nc ns) := am_u e_93_32
theorem e_93_33 : pg_code 93 33 = some (.iadd, 1, 0, 0) := by decide +kernel
theorem u_93_33 {a b : Int32} {lv : am_L} {st : List Value} : am_W G (am_M G d) 93 K 33 lv (.int b :: .int a :: st) h nc ns = (am_W G (am_M G d) 93 K 34 lv (.int (a + b) :: st) h nc ns) := am_u e_93_33
theorem e_93_34 : pg_code 93 34 = some (.invokevirtual 97, 3, 94, 3) := by decide +kernel
theorem u_93_34 {a : Nat} {v0 v1 : Value} {lv : am_L} {st : List Value} : am_W G (am_M G d) 93 K 34 lv (v1 :: v0 :: .ref a :: st) h nc ns = ((am_words st ≤ 8 ∧ nc + 0 ≤ 0 ∧ ns + 0 ≤ 0 ∧ f_rc (h a) 7) ∧ am_M G d 94 [.ref a, v0, v1] h (am_back 93 K (am_W G (am_M G d) 93 K) 94 34 lv st nc ns)) := (am_u e_93_34).trans (f_iv_eq (a := a) (G := G) (d := d) (k := 93) (K := K) (pc := 34) (lv := lv) (st := st) (h := h) (nc := nc) (ns := ns) (x := 94) (X := am_W G (am_M G d) 93 K) [v0, v1] (by decide) rfl)
theorem e_93_37 : pg_code 93 37 = some (.iinc 1 1, 3, 0, 0) := by decide +kernel
theorem u_93_37 {a : Int32} {z0 : Option Value} {lv : am_L} {st : List Value} : am_W G (am_M G d) 93 K 37 (z0 :: some (.int a) :: lv) st h nc ns = (am_W G (am_M G d) 93 K 40 (am_st1 (z0 :: some (.int a) :: lv) 1 (.int (a + Int32.ofInt 1))) st h nc ns) := (am_u e_93_37).trans (f_t (by decide +kernel))
theorem e_93_40 : pg_code 93 40 = some (.goto (-19), 3, 21, 0) := by decide +kernel
theorem u_93_40 {lv : am_L} {st : List Value} : am_W G (am_M G d) 93 K 40 lv st h nc ns = (am_W G (am_M G d) 93 K 21 lv st h nc ns) := am_u e_93_40
theorem e_93_43 : pg_code 93 43 = some (.aload_n 0, 1, 0, 0) := by decide +kernel
theorem u_93_43 {a : Nat} {lv : am_L} {st : List Value} : am_W G (am_M G d) 93 K 43 (some (.ref a) :: lv) st h nc ns = (am_W G (am_M G d) 93 K 44 (some (.ref a) :: lv) (.ref a :: st) h nc ns) := am_u e_93_43
theorem e_93_44 : pg_code 93 44 = some (.aload_n 0, 1, 0, 0) := by decide +kernel
theorem u_93_44 {a : Nat} {lv : am_L} {st : List Value} : am_W G (am_M G d) 93 K 44 (some (.ref a) :: lv) st h nc ns = (am_W G (am_M G d) 93 K 45 (some (.ref a) :: lv) (.ref a :: st) h nc ns) := am_u e_93_44
theorem e_93_45 : pg_code 93 45 = some (.getfield 94, 3, 7, 18) := by decide +kernel
theorem u_93_45 {a : Nat} {lv : am_L} {st : List Value} : am_W G (am_M G d) 93 K 45 lv (.ref a :: st) h nc ns = (f_gf G d 93 K 48 lv st h nc ns (h a) 7 18) := am_u e_93_45
theorem e_93_48 : pg_code 93 48 = some (.bipush 16, 2, 0, 0) := by decide +kernel
theorem u_93_48 {lv : am_L} {st : List Value} : am_W G (am_M G d) 93 K 48 lv st h nc ns = (am_W G (am_M G d) 93 K 50 lv (.int 16 :: st) h nc ns) := am_u e_93_48
theorem e_93_50 : pg_code 93 50 = some (.invokevirtual 97, 3, 94, 3) := by decide +kernel
theorem u_93_50 {a : Nat} {v0 v1 : Value} {lv : am_L} {st : List Value} : am_W G (am_M G d) 93 K 50 lv (v1 :: v0 :: .ref a :: st) h nc ns = ((am_words st ≤ 8 ∧ nc + 0 ≤ 0 ∧ ns + 0 ≤ 0 ∧ f_rc (h a) 7) ∧ am_M G d 94 [.ref a, v0, v1] h (am_back 93 K (am_W G (am_M G d) 93 K) 94 50 lv st nc ns)) := (am_u e_93_50).trans (f_iv_eq (a := a) (G := G) (d := d) (k := 93) (K := K) (pc := 50) (lv := lv) (st := st) (h := h) (nc := nc) (ns := ns) (x := 94) (X := am_W G (am_M G d) 93 K) [v0, v1] (by decide) rfl)
theorem e_93_53 : pg_code 93 53 = some (.aload_n 0, 1, 0, 0) := by decide +kernel
theorem u_93_53 {a : Nat} {lv : am_L} {st : List Value} : am_W G (am_M G d) 93 K 53 (some (.ref a) :: lv) st h nc ns = (am_W G (am_M G d) 93 K 54 (some (.ref a) :: lv) (.ref a :: st) h nc ns) := am_u e_93_53
theorem e_93_54 : pg_code 93 54 = some (.dup, 1, 0, 0) := by decide +kernel
theorem u_93_54 {a : Nat} {lv : am_L} {st : List Value} : am_W G (am_M G d) 93 K 54 lv (.ref a :: st) h nc ns = (am_W G (am_M G d) 93 K 55 lv (.ref a :: .ref a :: st) h nc ns) := (am_u e_93_54).trans (f_t rfl)
theorem e_93_55 : pg_code 93 55 = some (.getfield 94, 3, 7, 18) := by decide +kernel
theorem u_93_55 {a : Nat} {lv : am_L} {st : List Value} : am_W G (am_M G d) 93 K 55 lv (.ref a :: st) h nc ns = (f_gf G d 93 K 58 lv st h nc ns (h a) 7 18) := am_u e_93_55
theorem e_93_58 : pg_code 93 58 = some (.iconst 1, 1, 0, 0) := by decide +kernel
theorem u_93_58 {lv : am_L} {st : List Value} : am_W G (am_M G d) 93 K 58 lv st h nc ns = (am_W G (am_M G d) 93 K 59 lv (.int 1 :: st) h nc ns) := am_u e_93_58
theorem e_93_59 : pg_code 93 59 = some (.iadd, 1, 0, 0) := by decide +kernel
theorem u_93_59 {a b : Int32} {lv : am_L} {st : List Value} : am_W G (am_M G d) 93 K 59 lv (.int b :: .int a :: st) h nc ns = (am_W G (am_M G d) 93 K 60 lv (.int (a + b) :: st) h nc ns) := am_u e_93_59
theorem e_93_60 : pg_code 93 60 = some (.putfield 94, 3, 7, 18) := by decide +kernel
theorem u_93_60 {a : Nat} {b : Int32} {lv : am_L} {st : List Value} : am_W G (am_M G d) 93 K 60 lv (.int b :: .ref a :: st) h nc ns = (f_pf G d 93 K 63 lv st h nc ns (h a) 7 18 a (.int b)) := (am_u e_93_60).trans (f_pf_eq ⟨rfl, rfl⟩)
theorem e_93_63 : pg_code 93 63 = some (.return_, 1, 0, 0) := by decide +kernel
theorem u_93_63 {lv : am_L} : am_W G (am_M G d) 93 K 63 lv [] h nc ns = (K (.inl none) h) := (am_u e_93_63).trans (f_t ⟨rfl, rfl⟩)
theorem e_94_0 : pg_code 94 0 = some (.iconst 0, 1, 0, 0) := by decide +kernel
theorem u_94_0 {lv : am_L} {st : List Value} : am_W G (am_M G d) 94 K 0 lv st h nc ns = (am_W G (am_M G d) 94 K 1 lv (.int 0 :: st) h nc ns) := am_u e_94_0
theorem e_94_1 : pg_code 94 1 = some (.istore_n 3, 1, 0, 0) := by decide +kernel
theorem u_94_1 {a : Int32} {lv : am_L} {st : List Value} : am_W G (am_M G d) 94 K 1 lv (.int a :: st) h nc ns = (am_W G (am_M G d) 94 K 2 (am_st1 lv 3 (.int a)) st h nc ns) := (am_u e_94_1).trans (f_t (by decide +kernel))
theorem e_94_2 : pg_code 94 2 = some (.iload_n 3, 1, 0, 0) := by decide +kernel
theorem u_94_2 {a : Int32} {z0 : Option Value} {z1 : Option Value} {z2 : Option Value} {lv : am_L} {st : List Value} : am_W G (am_M G d) 94 K 2 (z0 :: z1 :: z2 :: some (.int a) :: lv) st h nc ns = (am_W G (am_M G d) 94 K 3 (z0 :: z1 :: z2 :: some (.int a) :: lv) (.int a :: st) h nc ns) := am_u e_94_2
theorem e_94_3 : pg_code 94 3 = some (.sipush 150, 3, 0, 0) := by decide +kernel
theorem u_94_3 {lv : am_L} {st : List Value} : am_W G (am_M G d) 94 K 3 lv st h nc ns = (am_W G (am_M G d) 94 K 6 lv (.int 150 :: st) h nc ns) := am_u e_94_3
theorem e_94_6 : pg_code 94 6 = some (.if_icmp .ge 209, 3, 215, 0) := by decide +kernel
theorem u_94_6 {a b : Int32} {lv : am_L} {st : List Value} : am_W G (am_M G d) 94 K 6 lv (.int b :: .int a :: st) h nc ns = (am_br (b ≤ a) (am_W G (am_M G d) 94 K 215 lv st h nc ns) (am_W G (am_M G d) 94 K 9 lv st h nc ns)) := am_u e_94_6
theorem e_94_9 : pg_code 94 9 = some (.sipush 150, 3, 0, 0) := by decide +kernel
theorem u_94_9 {lv : am_L} {st : List Value} : am_W G (am_M G d) 94 K 9 lv st h nc ns = (am_W G (am_M G d) 94 K 12 lv (.int 150 :: st) h nc ns) := am_u e_94_9
theorem e_94_12 : pg_code 94 12 = some (.iload_n 1, 1, 0, 0) := by decide +kernel
theorem u_94_12 {a : Int32} {z0 : Option Value} {lv : am_L} {st : List Value} : am_W G (am_M G d) 94 K 12 (z0 :: some (.int a) :: lv) st h nc ns = (am_W G (am_M G d) 94 K 13 (z0 :: some (.int a) :: lv) (.int a :: st) h nc ns) := am_u e_94_12
theorem e_94_13 : pg_code 94 13 = some (.imul, 1, 0, 0) := by decide +kernel
theorem u_94_13 {a b : Int32} {lv : am_L} {st : List Value} : am_W G (am_M G d) 94 K 13 lv (.int b :: .int a :: st) h nc ns = (am_W G (am_M G d) 94 K 14 lv (.int (a * b) :: st) h nc ns) := am_u e_94_13
theorem e_94_14 : pg_code 94 14 = some (.iload_n 3, 1, 0, 0) := by decide +kernel
theorem u_94_14 {a : Int32} {z0 : Option Value} {z1 : Option Value} {z2 : Option Value} {lv : am_L} {st : List Value} : am_W G (am_M G d) 94 K 14 (z0 :: z1 :: z2 :: some (.int a) :: lv) st h nc ns = (am_W G (am_M G d) 94 K 15 (z0 :: z1 :: z2 :: some (.int a) :: lv) (.int a :: st) h nc ns) := am_u e_94_14
theorem e_94_15 : pg_code 94 15 = some (.iadd, 1, 0, 0) := by decide +kernel
theorem u_94_15 {a b : Int32} {lv : am_L} {st : List Value} : am_W G (am_M G d) 94 K 15 lv (.int b :: .int a :: st) h nc ns = (am_W G (am_M G d) 94 K 16 lv (.int (a + b) :: st) h nc ns) := am_u e_94_15
theorem e_94_16 : pg_code 94 16 = some (.istore 4, 2, 0, 0) := by decide +kernel
theorem u_94_16 {a : Int32} {lv : am_L} {st : List Value} : am_W G (am_M G d) 94 K 16 lv (.int a :: st) h nc ns = (am_W G (am_M G d) 94 K 18 (am_st1 lv 4 (.int a)) st h nc ns) := (am_u e_94_16).trans (f_t (by decide +kernel))
theorem e_94_18 : pg_code 94 18 = some (.sipush 150, 3, 0, 0) := by decide +kernel
theorem u_94_18 {lv : am_L} {st : List Value} : am_W G (am_M G d) 94 K 18 lv st h nc ns = (am_W G (am_M G d) 94 K 21 lv (.int 150 :: st) h nc ns) := am_u e_94_18
theorem e_94_21 : pg_code 94 21 = some (.iload_n 2, 1, 0, 0) := by decide +kernel
theorem u_94_21 {a : Int32} {z0 : Option Value} {z1 : Option Value} {lv : am_L} {st : List Value} : am_W G (am_M G d) 94 K 21 (z0 :: z1 :: some (.int a) :: lv) st h nc ns = (am_W G (am_M G d) 94 K 22 (z0 :: z1 :: some (.int a) :: lv) (.int a :: st) h nc ns) := am_u e_94_21
theorem e_94_22 : pg_code 94 22 = some (.imul, 1, 0, 0) := by decide +kernel
theorem u_94_22 {a b : Int32} {lv : am_L} {st : List Value} : am_W G (am_M G d) 94 K 22 lv (.int b :: .int a :: st) h nc ns = (am_W G (am_M G d) 94 K 23 lv (.int (a * b) :: st) h nc ns) := am_u e_94_22
theorem e_94_23 : pg_code 94 23 = some (.iload_n 3, 1, 0, 0) := by decide +kernel
theorem u_94_23 {a : Int32} {z0 : Option Value} {z1 : Option Value} {z2 : Option Value} {lv : am_L} {st : List Value} : am_W G (am_M G d) 94 K 23 (z0 :: z1 :: z2 :: some (.int a) :: lv) st h nc ns = (am_W G (am_M G d) 94 K 24 (z0 :: z1 :: z2 :: some (.int a) :: lv) (.int a :: st) h nc ns) := am_u e_94_23
theorem e_94_24 : pg_code 94 24 = some (.iadd, 1, 0, 0) := by decide +kernel
theorem u_94_24 {a b : Int32} {lv : am_L} {st : List Value} : am_W G (am_M G d) 94 K 24 lv (.int b :: .int a :: st) h nc ns = (am_W G (am_M G d) 94 K 25 lv (.int (a + b) :: st) h nc ns) := am_u e_94_24
theorem e_94_25 : pg_code 94 25 = some (.istore 5, 2, 0, 0) := by decide +kernel
theorem u_94_25 {a : Int32} {lv : am_L} {st : List Value} : am_W G (am_M G d) 94 K 25 lv (.int a :: st) h nc ns = (am_W G (am_M G d) 94 K 27 (am_st1 lv 5 (.int a)) st h nc ns) := (am_u e_94_25).trans (f_t (by decide +kernel))
theorem e_94_27 : pg_code 94 27 = some (.aload_n 0, 1, 0, 0) := by decide +kernel
theorem u_94_27 {a : Nat} {lv : am_L} {st : List Value} : am_W G (am_M G d) 94 K 27 (some (.ref a) :: lv) st h nc ns = (am_W G (am_M G d) 94 K 28 (some (.ref a) :: lv) (.ref a :: st) h nc ns) := am_u e_94_27
theorem e_94_28 : pg_code 94 28 = some (.getfield 7, 3, 7, 4) := by decide +kernel
theorem u_94_28 {a : Nat} {lv : am_L} {st : List Value} : am_W G (am_M G d) 94 K 28 lv (.ref a :: st) h nc ns = (f_gf G d 94 K 31 lv st h nc ns (h a) 7 4) := am_u e_94_28
theorem e_94_31 : pg_code 94 31 = some (.iload 4, 2, 0, 0) := by decide +kernel
theorem u_94_31 {a : Int32} {z0 : Option Value} {z1 : Option Value} {z2 : Option Value} {z3 : Option Value} {lv : am_L} {st : List Value} : am_W G (am_M G d) 94 K 31 (z0 :: z1 :: z2 :: z3 :: some (.int a) :: lv) st h nc ns = (am_W G (am_M G d) 94 K 33 (z0 :: z1 :: z2 :: z3 :: some (.int a) :: lv) (.int a :: st) h nc ns) := am_u e_94_31
theorem e_94_33 : pg_code 94 33 = some (.aload_n 0, 1, 0, 0) := by decide +kernel
theorem u_94_33 {a : Nat} {lv : am_L} {st : List Value} : am_W G (am_M G d) 94 K 33 (some (.ref a) :: lv) st h nc ns = (am_W G (am_M G d) 94 K 34 (some (.ref a) :: lv) (.ref a :: st) h nc ns) := am_u e_94_33
theorem e_94_34 : pg_code 94 34 = some (.getfield 7, 3, 7, 4) := by decide +kernel
theorem u_94_34 {a : Nat} {lv : am_L} {st : List Value} : am_W G (am_M G d) 94 K 34 lv (.ref a :: st) h nc ns = (f_gf G d 94 K 37 lv st h nc ns (h a) 7 4) := am_u e_94_34
theorem e_94_37 : pg_code 94 37 = some (.iload 5, 2, 0, 0) := by decide +kernel
theorem u_94_37 {a : Int32} {z0 : Option Value} {z1 : Option Value} {z2 : Option Value} {z3 : Option Value} {z4 : Option Value} {lv : am_L} {st : List Value} : am_W G (am_M G d) 94 K 37 (z0 :: z1 :: z2 :: z3 :: z4 :: some (.int a) :: lv) st h nc ns = (am_W G (am_M G d) 94 K 39 (z0 :: z1 :: z2 :: z3 :: z4 :: some (.int a) :: lv) (.int a :: st) h nc ns) := am_u e_94_37
theorem e_94_39 : pg_code 94 39 = some (.iaload, 1, 0, 0) := by decide +kernel
theorem u_94_39 {a : Nat} {j : Int32} {lv : am_L} {st : List Value} : am_W G (am_M G d) 94 K 39 lv (.int j :: .ref a :: st) h nc ns = (f_ia G d 94 K 40 lv st h nc ns (h a) .int j) := am_u e_94_39
theorem e_94_40 : pg_code 94 40 = some (.iastore, 1, 0, 0) := by decide +kernel
theorem u_94_40 {a : Nat} {j b : Int32} {lv : am_L} {st : List Value} : am_W G (am_M G d) 94 K 40 lv (.int b :: .int j :: .ref a :: st) h nc ns = (f_is G d 94 K 41 lv st h nc ns (h a) .int a j b) := am_u e_94_40
theorem e_94_41 : pg_code 94 41 = some (.aload_n 0, 1, 0, 0) := by decide +kernel
theorem u_94_41 {a : Nat} {lv : am_L} {st : List Value} : am_W G (am_M G d) 94 K 41 (some (.ref a) :: lv) st h nc ns = (am_W G (am_M G d) 94 K 42 (some (.ref a) :: lv) (.ref a :: st) h nc ns) := am_u e_94_41
theorem e_94_42 : pg_code 94 42 = some (.getfield 13, 3, 7, 5) := by decide +kernel
theorem u_94_42 {a : Nat} {lv : am_L} {st : List Value} : am_W G (am_M G d) 94 K 42 lv (.ref a :: st) h nc ns = (f_gf G d 94 K 45 lv st h nc ns (h a) 7 5) := am_u e_94_42
theorem e_94_45 : pg_code 94 45 = some (.iload 4, 2, 0, 0) := by decide +kernel
theorem u_94_45 {a : Int32} {z0 : Option Value} {z1 : Option Value} {z2 : Option Value} {z3 : Option Value} {lv : am_L} {st : List Value} : am_W G (am_M G d) 94 K 45 (z0 :: z1 :: z2 :: z3 :: some (.int a) :: lv) st h nc ns = (am_W G (am_M G d) 94 K 47 (z0 :: z1 :: z2 :: z3 :: some (.int a) :: lv) (.int a :: st) h nc ns) := am_u e_94_45
theorem e_94_47 : pg_code 94 47 = some (.aload_n 0, 1, 0, 0) := by decide +kernel
theorem u_94_47 {a : Nat} {lv : am_L} {st : List Value} : am_W G (am_M G d) 94 K 47 (some (.ref a) :: lv) st h nc ns = (am_W G (am_M G d) 94 K 48 (some (.ref a) :: lv) (.ref a :: st) h nc ns) := am_u e_94_47
theorem e_94_48 : pg_code 94 48 = some (.getfield 13, 3, 7, 5) := by decide +kernel
theorem u_94_48 {a : Nat} {lv : am_L} {st : List Value} : am_W G (am_M G d) 94 K 48 lv (.ref a :: st) h nc ns = (f_gf G d 94 K 51 lv st h nc ns (h a) 7 5) := am_u e_94_48
theorem e_94_51 : pg_code 94 51 = some (.iload 5, 2, 0, 0) := by decide +kernel
theorem u_94_51 {a : Int32} {z0 : Option Value} {z1 : Option Value} {z2 : Option Value} {z3 : Option Value} {z4 : Option Value} {lv : am_L} {st : List Value} : am_W G (am_M G d) 94 K 51 (z0 :: z1 :: z2 :: z3 :: z4 :: some (.int a) :: lv) st h nc ns = (am_W G (am_M G d) 94 K 53 (z0 :: z1 :: z2 :: z3 :: z4 :: some (.int a) :: lv) (.int a :: st) h nc ns) := am_u e_94_51
theorem e_94_53 : pg_code 94 53 = some (.iaload, 1, 0, 0) := by decide +kernel
theorem u_94_53 {a : Nat} {j : Int32} {lv : am_L} {st : List Value} : am_W G (am_M G d) 94 K 53 lv (.int j :: .ref a :: st) h nc ns = (f_ia G d 94 K 54 lv st h nc ns (h a) .int j) := am_u e_94_53
theorem e_94_54 : pg_code 94 54 = some (.iastore, 1, 0, 0) := by decide +kernel
theorem u_94_54 {a : Nat} {j b : Int32} {lv : am_L} {st : List Value} : am_W G (am_M G d) 94 K 54 lv (.int b :: .int j :: .ref a :: st) h nc ns = (f_is G d 94 K 55 lv st h nc ns (h a) .int a j b) := am_u e_94_54
theorem e_94_55 : pg_code 94 55 = some (.aload_n 0, 1, 0, 0) := by decide +kernel
theorem u_94_55 {a : Nat} {lv : am_L} {st : List Value} : am_W G (am_M G d) 94 K 55 (some (.ref a) :: lv) st h nc ns = (am_W G (am_M G d) 94 K 56 (some (.ref a) :: lv) (.ref a :: st) h nc ns) := am_u e_94_55
theorem e_94_56 : pg_code 94 56 = some (.getfield 16, 3, 7, 6) := by decide +kernel
theorem u_94_56 {a : Nat} {lv : am_L} {st : List Value} : am_W G (am_M G d) 94 K 56 lv (.ref a :: st) h nc ns = (f_gf G d 94 K 59 lv st h nc ns (h a) 7 6) := am_u e_94_56
theorem e_94_59 : pg_code 94 59 = some (.iload 4, 2, 0, 0) := by decide +kernel
theorem u_94_59 {a : Int32} {z0 : Option Value} {z1 : Option Value} {z2 : Option Value} {z3 : Option Value} {lv : am_L} {st : List Value} : am_W G (am_M G d) 94 K 59 (z0 :: z1 :: z2 :: z3 :: some (.int a) :: lv) st h nc ns = (am_W G (am_M G d) 94 K 61 (z0 :: z1 :: z2 :: z3 :: some (.int a) :: lv) (.int a :: st) h nc ns) := am_u e_94_59
theorem e_94_61 : pg_code 94 61 = some (.aload_n 0, 1, 0, 0) := by decide +kernel
theorem u_94_61 {a : Nat} {lv : am_L} {st : List Value} : am_W G (am_M G d) 94 K 61 (some (.ref a) :: lv) st h nc ns = (am_W G (am_M G d) 94 K 62 (some (.ref a) :: lv) (.ref a :: st) h nc ns) := am_u e_94_61
theorem e_94_62 : pg_code 94 62 = some (.getfield 16, 3, 7, 6) := by decide +kernel
theorem u_94_62 {a : Nat} {lv : am_L} {st : List Value} : am_W G (am_M G d) 94 K 62 lv (.ref a :: st) h nc ns = (f_gf G d 94 K 65 lv st h nc ns (h a) 7 6) := am_u e_94_62
theorem e_94_65 : pg_code 94 65 = some (.iload 5, 2, 0, 0) := by decide +kernel
theorem u_94_65 {a : Int32} {z0 : Option Value} {z1 : Option Value} {z2 : Option Value} {z3 : Option Value} {z4 : Option Value} {lv : am_L} {st : List Value} : am_W G (am_M G d) 94 K 65 (z0 :: z1 :: z2 :: z3 :: z4 :: some (.int a) :: lv) st h nc ns = (am_W G (am_M G d) 94 K 67 (z0 :: z1 :: z2 :: z3 :: z4 :: some (.int a) :: lv) (.int a :: st) h nc ns) := am_u e_94_65
theorem e_94_67 : pg_code 94 67 = some (.iaload, 1, 0, 0) := by decide +kernel
theorem u_94_67 {a : Nat} {j : Int32} {lv : am_L} {st : List Value} : am_W G (am_M G d) 94 K 67 lv (.int j :: .ref a :: st) h nc ns = (f_ia G d 94 K 68 lv st h nc ns (h a) .int j) := am_u e_94_67
theorem e_94_68 : pg_code 94 68 = some (.iastore, 1, 0, 0) := by decide +kernel
theorem u_94_68 {a : Nat} {j b : Int32} {lv : am_L} {st : List Value} : am_W G (am_M G d) 94 K 68 lv (.int b :: .int j :: .ref a :: st) h nc ns = (f_is G d 94 K 69 lv st h nc ns (h a) .int a j b) := am_u e_94_68
theorem e_94_69 : pg_code 94 69 = some (.aload_n 0, 1, 0, 0) := by decide +kernel
theorem u_94_69 {a : Nat} {lv : am_L} {st : List Value} : am_W G (am_M G d) 94 K 69 (some (.ref a) :: lv) st h nc ns = (am_W G (am_M G d) 94 K 70 (some (.ref a) :: lv) (.ref a :: st) h nc ns) := am_u e_94_69
theorem e_94_70 : pg_code 94 70 = some (.getfield 19, 3, 7, 7) := by decide +kernel
theorem u_94_70 {a : Nat} {lv : am_L} {st : List Value} : am_W G (am_M G d) 94 K 70 lv (.ref a :: st) h nc ns = (f_gf G d 94 K 73 lv st h nc ns (h a) 7 7) := am_u e_94_70
theorem e_94_73 : pg_code 94 73 = some (.iload 4, 2, 0, 0) := by decide +kernel
theorem u_94_73 {a : Int32} {z0 : Option Value} {z1 : Option Value} {z2 : Option Value} {z3 : Option Value} {lv : am_L} {st : List Value} : am_W G (am_M G d) 94 K 73 (z0 :: z1 :: z2 :: z3 :: some (.int a) :: lv) st h nc ns = (am_W G (am_M G d) 94 K 75 (z0 :: z1 :: z2 :: z3 :: some (.int a) :: lv) (.int a :: st) h nc ns) := am_u e_94_73
theorem e_94_75 : pg_code 94 75 = some (.aload_n 0, 1, 0, 0) := by decide +kernel
theorem u_94_75 {a : Nat} {lv : am_L} {st : List Value} : am_W G (am_M G d) 94 K 75 (some (.ref a) :: lv) st h nc ns = (am_W G (am_M G d) 94 K 76 (some (.ref a) :: lv) (.ref a :: st) h nc ns) := am_u e_94_75
theorem e_94_76 : pg_code 94 76 = some (.getfield 19, 3, 7, 7) := by decide +kernel
theorem u_94_76 {a : Nat} {lv : am_L} {st : List Value} : am_W G (am_M G d) 94 K 76 lv (.ref a :: st) h nc ns = (f_gf G d 94 K 79 lv st h nc ns (h a) 7 7) := am_u e_94_76
theorem e_94_79 : pg_code 94 79 = some (.iload 5, 2, 0, 0) := by decide +kernel
theorem u_94_79 {a : Int32} {z0 : Option Value} {z1 : Option Value} {z2 : Option Value} {z3 : Option Value} {z4 : Option Value} {lv : am_L} {st : List Value} : am_W G (am_M G d) 94 K 79 (z0 :: z1 :: z2 :: z3 :: z4 :: some (.int a) :: lv) st h nc ns = (am_W G (am_M G d) 94 K 81 (z0 :: z1 :: z2 :: z3 :: z4 :: some (.int a) :: lv) (.int a :: st) h nc ns) := am_u e_94_79
theorem e_94_81 : pg_code 94 81 = some (.baload, 1, 0, 0) := by decide +kernel
theorem u_94_81 {a : Nat} {j : Int32} {lv : am_L} {st : List Value} : am_W G (am_M G d) 94 K 81 lv (.int j :: .ref a :: st) h nc ns = (f_ia G d 94 K 82 lv st h nc ns (h a) .boolean j) := am_u e_94_81
theorem e_94_82 : pg_code 94 82 = some (.bastore, 1, 0, 0) := by decide +kernel
theorem u_94_82 {a : Nat} {j b : Int32} {lv : am_L} {st : List Value} : am_W G (am_M G d) 94 K 82 lv (.int b :: .int j :: .ref a :: st) h nc ns = (f_is G d 94 K 83 lv st h nc ns (h a) .boolean a j (vp_nar .boolean b)) := am_u e_94_82
theorem e_94_83 : pg_code 94 83 = some (.aload_n 0, 1, 0, 0) := by decide +kernel
theorem u_94_83 {a : Nat} {lv : am_L} {st : List Value} : am_W G (am_M G d) 94 K 83 (some (.ref a) :: lv) st h nc ns = (am_W G (am_M G d) 94 K 84 (some (.ref a) :: lv) (.ref a :: st) h nc ns) := am_u e_94_83
theorem e_94_84 : pg_code 94 84 = some (.getfield 23, 3, 7, 8) := by decide +kernel
theorem u_94_84 {a : Nat} {lv : am_L} {st : List Value} : am_W G (am_M G d) 94 K 84 lv (.ref a :: st) h nc ns = (f_gf G d 94 K 87 lv st h nc ns (h a) 7 8) := am_u e_94_84
theorem e_94_87 : pg_code 94 87 = some (.iload 4, 2, 0, 0) := by decide +kernel
theorem u_94_87 {a : Int32} {z0 : Option Value} {z1 : Option Value} {z2 : Option Value} {z3 : Option Value} {lv : am_L} {st : List Value} : am_W G (am_M G d) 94 K 87 (z0 :: z1 :: z2 :: z3 :: some (.int a) :: lv) st h nc ns = (am_W G (am_M G d) 94 K 89 (z0 :: z1 :: z2 :: z3 :: some (.int a) :: lv) (.int a :: st) h nc ns) := am_u e_94_87
theorem e_94_89 : pg_code 94 89 = some (.aload_n 0, 1, 0, 0) := by decide +kernel
theorem u_94_89 {a : Nat} {lv : am_L} {st : List Value} : am_W G (am_M G d) 94 K 89 (some (.ref a) :: lv) st h nc ns = (am_W G (am_M G d) 94 K 90 (some (.ref a) :: lv) (.ref a :: st) h nc ns) := am_u e_94_89
theorem e_94_90 : pg_code 94 90 = some (.getfield 23, 3, 7, 8) := by decide +kernel
theorem u_94_90 {a : Nat} {lv : am_L} {st : List Value} : am_W G (am_M G d) 94 K 90 lv (.ref a :: st) h nc ns = (f_gf G d 94 K 93 lv st h nc ns (h a) 7 8) := am_u e_94_90
theorem e_94_93 : pg_code 94 93 = some (.iload 5, 2, 0, 0) := by decide +kernel
theorem u_94_93 {a : Int32} {z0 : Option Value} {z1 : Option Value} {z2 : Option Value} {z3 : Option Value} {z4 : Option Value} {lv : am_L} {st : List Value} : am_W G (am_M G d) 94 K 93 (z0 :: z1 :: z2 :: z3 :: z4 :: some (.int a) :: lv) st h nc ns = (am_W G (am_M G d) 94 K 95 (z0 :: z1 :: z2 :: z3 :: z4 :: some (.int a) :: lv) (.int a :: st) h nc ns) := am_u e_94_93
theorem e_94_95 : pg_code 94 95 = some (.iaload, 1, 0, 0) := by decide +kernel
theorem u_94_95 {a : Nat} {j : Int32} {lv : am_L} {st : List Value} : am_W G (am_M G d) 94 K 95 lv (.int j :: .ref a :: st) h nc ns = (f_ia G d 94 K 96 lv st h nc ns (h a) .int j) := am_u e_94_95
theorem e_94_96 : pg_code 94 96 = some (.iastore, 1, 0, 0) := by decide +kernel
theorem u_94_96 {a : Nat} {j b : Int32} {lv : am_L} {st : List Value} : am_W G (am_M G d) 94 K 96 lv (.int b :: .int j :: .ref a :: st) h nc ns = (f_is G d 94 K 97 lv st h nc ns (h a) .int a j b) := am_u e_94_96
theorem e_94_97 : pg_code 94 97 = some (.aload_n 0, 1, 0, 0) := by decide +kernel
theorem u_94_97 {a : Nat} {lv : am_L} {st : List Value} : am_W G (am_M G d) 94 K 97 (some (.ref a) :: lv) st h nc ns = (am_W G (am_M G d) 94 K 98 (some (.ref a) :: lv) (.ref a :: st) h nc ns) := am_u e_94_97
theorem e_94_98 : pg_code 94 98 = some (.getfield 26, 3, 7, 9) := by decide +kernel
theorem u_94_98 {a : Nat} {lv : am_L} {st : List Value} : am_W G (am_M G d) 94 K 98 lv (.ref a :: st) h nc ns = (f_gf G d 94 K 101 lv st h nc ns (h a) 7 9) := am_u e_94_98
theorem e_94_101 : pg_code 94 101 = some (.iload 4, 2, 0, 0) := by decide +kernel
theorem u_94_101 {a : Int32} {z0 : Option Value} {z1 : Option Value} {z2 : Option Value} {z3 : Option Value} {lv : am_L} {st : List Value} : am_W G (am_M G d) 94 K 101 (z0 :: z1 :: z2 :: z3 :: some (.int a) :: lv) st h nc ns = (am_W G (am_M G d) 94 K 103 (z0 :: z1 :: z2 :: z3 :: some (.int a) :: lv) (.int a :: st) h nc ns) := am_u e_94_101
theorem e_94_103 : pg_code 94 103 = some (.aload_n 0, 1, 0, 0) := by decide +kernel
theorem u_94_103 {a : Nat} {lv : am_L} {st : List Value} : am_W G (am_M G d) 94 K 103 (some (.ref a) :: lv) st h nc ns = (am_W G (am_M G d) 94 K 104 (some (.ref a) :: lv) (.ref a :: st) h nc ns) := am_u e_94_103
theorem e_94_104 : pg_code 94 104 = some (.getfield 26, 3, 7, 9) := by decide +kernel
theorem u_94_104 {a : Nat} {lv : am_L} {st : List Value} : am_W G (am_M G d) 94 K 104 lv (.ref a :: st) h nc ns = (f_gf G d 94 K 107 lv st h nc ns (h a) 7 9) := am_u e_94_104
theorem e_94_107 : pg_code 94 107 = some (.iload 5, 2, 0, 0) := by decide +kernel
theorem u_94_107 {a : Int32} {z0 : Option Value} {z1 : Option Value} {z2 : Option Value} {z3 : Option Value} {z4 : Option Value} {lv : am_L} {st : List Value} : am_W G (am_M G d) 94 K 107 (z0 :: z1 :: z2 :: z3 :: z4 :: some (.int a) :: lv) st h nc ns = (am_W G (am_M G d) 94 K 109 (z0 :: z1 :: z2 :: z3 :: z4 :: some (.int a) :: lv) (.int a :: st) h nc ns) := am_u e_94_107
theorem e_94_109 : pg_code 94 109 = some (.laload, 1, 0, 0) := by decide +kernel
theorem u_94_109 {a : Nat} {j : Int32} {lv : am_L} {st : List Value} : am_W G (am_M G d) 94 K 109 lv (.int j :: .ref a :: st) h nc ns = (f_la G d 94 K 110 lv st h nc ns (h a) j) := am_u e_94_109
theorem e_94_110 : pg_code 94 110 = some (.lastore, 1, 0, 0) := by decide +kernel
theorem u_94_110 {a : Nat} {j : Int32} {b : Int64} {lv : am_L} {st : List Value} : am_W G (am_M G d) 94 K 110 lv (.long b :: .int j :: .ref a :: st) h nc ns = (f_ls G d 94 K 111 lv st h nc ns (h a) a j b) := am_u e_94_110
theorem e_94_111 : pg_code 94 111 = some (.aload_n 0, 1, 0, 0) := by decide +kernel
theorem u_94_111 {a : Nat} {lv : am_L} {st : List Value} : am_W G (am_M G d) 94 K 111 (some (.ref a) :: lv) st h nc ns = (am_W G (am_M G d) 94 K 112 (some (.ref a) :: lv) (.ref a :: st) h nc ns) := am_u e_94_111
theorem e_94_112 : pg_code 94 112 = some (.getfield 30, 3, 7, 10) := by decide +kernel
theorem u_94_112 {a : Nat} {lv : am_L} {st : List Value} : am_W G (am_M G d) 94 K 112 lv (.ref a :: st) h nc ns = (f_gf G d 94 K 115 lv st h nc ns (h a) 7 10) := am_u e_94_112
theorem e_94_115 : pg_code 94 115 = some (.iload 4, 2, 0, 0) := by decide +kernel
theorem u_94_115 {a : Int32} {z0 : Option Value} {z1 : Option Value} {z2 : Option Value} {z3 : Option Value} {lv : am_L} {st : List Value} : am_W G (am_M G d) 94 K 115 (z0 :: z1 :: z2 :: z3 :: some (.int a) :: lv) st h nc ns = (am_W G (am_M G d) 94 K 117 (z0 :: z1 :: z2 :: z3 :: some (.int a) :: lv) (.int a :: st) h nc ns) := am_u e_94_115
theorem e_94_117 : pg_code 94 117 = some (.aload_n 0, 1, 0, 0) := by decide +kernel
theorem u_94_117 {a : Nat} {lv : am_L} {st : List Value} : am_W G (am_M G d) 94 K 117 (some (.ref a) :: lv) st h nc ns = (am_W G (am_M G d) 94 K 118 (some (.ref a) :: lv) (.ref a :: st) h nc ns) := am_u e_94_117
theorem e_94_118 : pg_code 94 118 = some (.getfield 30, 3, 7, 10) := by decide +kernel
theorem u_94_118 {a : Nat} {lv : am_L} {st : List Value} : am_W G (am_M G d) 94 K 118 lv (.ref a :: st) h nc ns = (f_gf G d 94 K 121 lv st h nc ns (h a) 7 10) := am_u e_94_118
theorem e_94_121 : pg_code 94 121 = some (.iload 5, 2, 0, 0) := by decide +kernel
theorem u_94_121 {a : Int32} {z0 : Option Value} {z1 : Option Value} {z2 : Option Value} {z3 : Option Value} {z4 : Option Value} {lv : am_L} {st : List Value} : am_W G (am_M G d) 94 K 121 (z0 :: z1 :: z2 :: z3 :: z4 :: some (.int a) :: lv) st h nc ns = (am_W G (am_M G d) 94 K 123 (z0 :: z1 :: z2 :: z3 :: z4 :: some (.int a) :: lv) (.int a :: st) h nc ns) := am_u e_94_121
theorem e_94_123 : pg_code 94 123 = some (.iaload, 1, 0, 0) := by decide +kernel
theorem u_94_123 {a : Nat} {j : Int32} {lv : am_L} {st : List Value} : am_W G (am_M G d) 94 K 123 lv (.int j :: .ref a :: st) h nc ns = (f_ia G d 94 K 124 lv st h nc ns (h a) .int j) := am_u e_94_123
theorem e_94_124 : pg_code 94 124 = some (.iastore, 1, 0, 0) := by decide +kernel
theorem u_94_124 {a : Nat} {j b : Int32} {lv : am_L} {st : List Value} : am_W G (am_M G d) 94 K 124 lv (.int b :: .int j :: .ref a :: st) h nc ns = (f_is G d 94 K 125 lv st h nc ns (h a) .int a j b) := am_u e_94_124
theorem e_94_125 : pg_code 94 125 = some (.aload_n 0, 1, 0, 0) := by decide +kernel
theorem u_94_125 {a : Nat} {lv : am_L} {st : List Value} : am_W G (am_M G d) 94 K 125 (some (.ref a) :: lv) st h nc ns = (am_W G (am_M G d) 94 K 126 (some (.ref a) :: lv) (.ref a :: st) h nc ns) := am_u e_94_125
theorem e_94_126 : pg_code 94 126 = some (.getfield 33, 3, 7, 11) := by decide +kernel
theorem u_94_126 {a : Nat} {lv : am_L} {st : List Value} : am_W G (am_M G d) 94 K 126 lv (.ref a :: st) h nc ns = (f_gf G d 94 K 129 lv st h nc ns (h a) 7 11) := am_u e_94_126
theorem e_94_129 : pg_code 94 129 = some (.iload 4, 2, 0, 0) := by decide +kernel
theorem u_94_129 {a : Int32} {z0 : Option Value} {z1 : Option Value} {z2 : Option Value} {z3 : Option Value} {lv : am_L} {st : List Value} : am_W G (am_M G d) 94 K 129 (z0 :: z1 :: z2 :: z3 :: some (.int a) :: lv) st h nc ns = (am_W G (am_M G d) 94 K 131 (z0 :: z1 :: z2 :: z3 :: some (.int a) :: lv) (.int a :: st) h nc ns) := am_u e_94_129
theorem e_94_131 : pg_code 94 131 = some (.aload_n 0, 1, 0, 0) := by decide +kernel
theorem u_94_131 {a : Nat} {lv : am_L} {st : List Value} : am_W G (am_M G d) 94 K 131 (some (.ref a) :: lv) st h nc ns = (am_W G (am_M G d) 94 K 132 (some (.ref a) :: lv) (.ref a :: st) h nc ns) := am_u e_94_131
theorem e_94_132 : pg_code 94 132 = some (.getfield 33, 3, 7, 11) := by decide +kernel
theorem u_94_132 {a : Nat} {lv : am_L} {st : List Value} : am_W G (am_M G d) 94 K 132 lv (.ref a :: st) h nc ns = (f_gf G d 94 K 135 lv st h nc ns (h a) 7 11) := am_u e_94_132
theorem e_94_135 : pg_code 94 135 = some (.iload 5, 2, 0, 0) := by decide +kernel
theorem u_94_135 {a : Int32} {z0 : Option Value} {z1 : Option Value} {z2 : Option Value} {z3 : Option Value} {z4 : Option Value} {lv : am_L} {st : List Value} : am_W G (am_M G d) 94 K 135 (z0 :: z1 :: z2 :: z3 :: z4 :: some (.int a) :: lv) st h nc ns = (am_W G (am_M G d) 94 K 137 (z0 :: z1 :: z2 :: z3 :: z4 :: some (.int a) :: lv) (.int a :: st) h nc ns) := am_u e_94_135
theorem e_94_137 : pg_code 94 137 = some (.iaload, 1, 0, 0) := by decide +kernel
theorem u_94_137 {a : Nat} {j : Int32} {lv : am_L} {st : List Value} : am_W G (am_M G d) 94 K 137 lv (.int j :: .ref a :: st) h nc ns = (f_ia G d 94 K 138 lv st h nc ns (h a) .int j) := am_u e_94_137
theorem e_94_138 : pg_code 94 138 = some (.iastore, 1, 0, 0) := by decide +kernel
theorem u_94_138 {a : Nat} {j b : Int32} {lv : am_L} {st : List Value} : am_W G (am_M G d) 94 K 138 lv (.int b :: .int j :: .ref a :: st) h nc ns = (f_is G d 94 K 139 lv st h nc ns (h a) .int a j b) := am_u e_94_138
theorem e_94_139 : pg_code 94 139 = some (.aload_n 0, 1, 0, 0) := by decide +kernel
theorem u_94_139 {a : Nat} {lv : am_L} {st : List Value} : am_W G (am_M G d) 94 K 139 (some (.ref a) :: lv) st h nc ns = (am_W G (am_M G d) 94 K 140 (some (.ref a) :: lv) (.ref a :: st) h nc ns) := am_u e_94_139
theorem e_94_140 : pg_code 94 140 = some (.getfield 36, 3, 7, 12) := by decide +kernel
theorem u_94_140 {a : Nat} {lv : am_L} {st : List Value} : am_W G (am_M G d) 94 K 140 lv (.ref a :: st) h nc ns = (f_gf G d 94 K 143 lv st h nc ns (h a) 7 12) := am_u e_94_140
theorem e_94_143 : pg_code 94 143 = some (.iload 4, 2, 0, 0) := by decide +kernel
theorem u_94_143 {a : Int32} {z0 : Option Value} {z1 : Option Value} {z2 : Option Value} {z3 : Option Value} {lv : am_L} {st : List Value} : am_W G (am_M G d) 94 K 143 (z0 :: z1 :: z2 :: z3 :: some (.int a) :: lv) st h nc ns = (am_W G (am_M G d) 94 K 145 (z0 :: z1 :: z2 :: z3 :: some (.int a) :: lv) (.int a :: st) h nc ns) := am_u e_94_143
theorem e_94_145 : pg_code 94 145 = some (.aload_n 0, 1, 0, 0) := by decide +kernel
theorem u_94_145 {a : Nat} {lv : am_L} {st : List Value} : am_W G (am_M G d) 94 K 145 (some (.ref a) :: lv) st h nc ns = (am_W G (am_M G d) 94 K 146 (some (.ref a) :: lv) (.ref a :: st) h nc ns) := am_u e_94_145
theorem e_94_146 : pg_code 94 146 = some (.getfield 36, 3, 7, 12) := by decide +kernel
theorem u_94_146 {a : Nat} {lv : am_L} {st : List Value} : am_W G (am_M G d) 94 K 146 lv (.ref a :: st) h nc ns = (f_gf G d 94 K 149 lv st h nc ns (h a) 7 12) := am_u e_94_146
theorem e_94_149 : pg_code 94 149 = some (.iload 5, 2, 0, 0) := by decide +kernel
theorem u_94_149 {a : Int32} {z0 : Option Value} {z1 : Option Value} {z2 : Option Value} {z3 : Option Value} {z4 : Option Value} {lv : am_L} {st : List Value} : am_W G (am_M G d) 94 K 149 (z0 :: z1 :: z2 :: z3 :: z4 :: some (.int a) :: lv) st h nc ns = (am_W G (am_M G d) 94 K 151 (z0 :: z1 :: z2 :: z3 :: z4 :: some (.int a) :: lv) (.int a :: st) h nc ns) := am_u e_94_149
theorem e_94_151 : pg_code 94 151 = some (.iaload, 1, 0, 0) := by decide +kernel
theorem u_94_151 {a : Nat} {j : Int32} {lv : am_L} {st : List Value} : am_W G (am_M G d) 94 K 151 lv (.int j :: .ref a :: st) h nc ns = (f_ia G d 94 K 152 lv st h nc ns (h a) .int j) := am_u e_94_151
theorem e_94_152 : pg_code 94 152 = some (.iastore, 1, 0, 0) := by decide +kernel
theorem u_94_152 {a : Nat} {j b : Int32} {lv : am_L} {st : List Value} : am_W G (am_M G d) 94 K 152 lv (.int b :: .int j :: .ref a :: st) h nc ns = (f_is G d 94 K 153 lv st h nc ns (h a) .int a j b) := am_u e_94_152
theorem e_94_153 : pg_code 94 153 = some (.aload_n 0, 1, 0, 0) := by decide +kernel
theorem u_94_153 {a : Nat} {lv : am_L} {st : List Value} : am_W G (am_M G d) 94 K 153 (some (.ref a) :: lv) st h nc ns = (am_W G (am_M G d) 94 K 154 (some (.ref a) :: lv) (.ref a :: st) h nc ns) := am_u e_94_153
theorem e_94_154 : pg_code 94 154 = some (.getfield 39, 3, 7, 13) := by decide +kernel
theorem u_94_154 {a : Nat} {lv : am_L} {st : List Value} : am_W G (am_M G d) 94 K 154 lv (.ref a :: st) h nc ns = (f_gf G d 94 K 157 lv st h nc ns (h a) 7 13) := am_u e_94_154
theorem e_94_157 : pg_code 94 157 = some (.iload 4, 2, 0, 0) := by decide +kernel
theorem u_94_157 {a : Int32} {z0 : Option Value} {z1 : Option Value} {z2 : Option Value} {z3 : Option Value} {lv : am_L} {st : List Value} : am_W G (am_M G d) 94 K 157 (z0 :: z1 :: z2 :: z3 :: some (.int a) :: lv) st h nc ns = (am_W G (am_M G d) 94 K 159 (z0 :: z1 :: z2 :: z3 :: some (.int a) :: lv) (.int a :: st) h nc ns) := am_u e_94_157
theorem e_94_159 : pg_code 94 159 = some (.aload_n 0, 1, 0, 0) := by decide +kernel
theorem u_94_159 {a : Nat} {lv : am_L} {st : List Value} : am_W G (am_M G d) 94 K 159 (some (.ref a) :: lv) st h nc ns = (am_W G (am_M G d) 94 K 160 (some (.ref a) :: lv) (.ref a :: st) h nc ns) := am_u e_94_159
theorem e_94_160 : pg_code 94 160 = some (.getfield 39, 3, 7, 13) := by decide +kernel
theorem u_94_160 {a : Nat} {lv : am_L} {st : List Value} : am_W G (am_M G d) 94 K 160 lv (.ref a :: st) h nc ns = (f_gf G d 94 K 163 lv st h nc ns (h a) 7 13) := am_u e_94_160
theorem e_94_163 : pg_code 94 163 = some (.iload 5, 2, 0, 0) := by decide +kernel
theorem u_94_163 {a : Int32} {z0 : Option Value} {z1 : Option Value} {z2 : Option Value} {z3 : Option Value} {z4 : Option Value} {lv : am_L} {st : List Value} : am_W G (am_M G d) 94 K 163 (z0 :: z1 :: z2 :: z3 :: z4 :: some (.int a) :: lv) st h nc ns = (am_W G (am_M G d) 94 K 165 (z0 :: z1 :: z2 :: z3 :: z4 :: some (.int a) :: lv) (.int a :: st) h nc ns) := am_u e_94_163
theorem e_94_165 : pg_code 94 165 = some (.baload, 1, 0, 0) := by decide +kernel
theorem u_94_165 {a : Nat} {j : Int32} {lv : am_L} {st : List Value} : am_W G (am_M G d) 94 K 165 lv (.int j :: .ref a :: st) h nc ns = (f_ia G d 94 K 166 lv st h nc ns (h a) .boolean j) := am_u e_94_165
theorem e_94_166 : pg_code 94 166 = some (.bastore, 1, 0, 0) := by decide +kernel
theorem u_94_166 {a : Nat} {j b : Int32} {lv : am_L} {st : List Value} : am_W G (am_M G d) 94 K 166 lv (.int b :: .int j :: .ref a :: st) h nc ns = (f_is G d 94 K 167 lv st h nc ns (h a) .boolean a j (vp_nar .boolean b)) := am_u e_94_166
theorem e_94_167 : pg_code 94 167 = some (.aload_n 0, 1, 0, 0) := by decide +kernel
theorem u_94_167 {a : Nat} {lv : am_L} {st : List Value} : am_W G (am_M G d) 94 K 167 (some (.ref a) :: lv) st h nc ns = (am_W G (am_M G d) 94 K 168 (some (.ref a) :: lv) (.ref a :: st) h nc ns) := am_u e_94_167
theorem e_94_168 : pg_code 94 168 = some (.getfield 42, 3, 7, 14) := by decide +kernel
theorem u_94_168 {a : Nat} {lv : am_L} {st : List Value} : am_W G (am_M G d) 94 K 168 lv (.ref a :: st) h nc ns = (f_gf G d 94 K 171 lv st h nc ns (h a) 7 14) := am_u e_94_168
theorem e_94_171 : pg_code 94 171 = some (.iload 4, 2, 0, 0) := by decide +kernel
theorem u_94_171 {a : Int32} {z0 : Option Value} {z1 : Option Value} {z2 : Option Value} {z3 : Option Value} {lv : am_L} {st : List Value} : am_W G (am_M G d) 94 K 171 (z0 :: z1 :: z2 :: z3 :: some (.int a) :: lv) st h nc ns = (am_W G (am_M G d) 94 K 173 (z0 :: z1 :: z2 :: z3 :: some (.int a) :: lv) (.int a :: st) h nc ns) := am_u e_94_171
theorem e_94_173 : pg_code 94 173 = some (.aload_n 0, 1, 0, 0) := by decide +kernel
theorem u_94_173 {a : Nat} {lv : am_L} {st : List Value} : am_W G (am_M G d) 94 K 173 (some (.ref a) :: lv) st h nc ns = (am_W G (am_M G d) 94 K 174 (some (.ref a) :: lv) (.ref a :: st) h nc ns) := am_u e_94_173
theorem e_94_174 : pg_code 94 174 = some (.getfield 42, 3, 7, 14) := by decide +kernel
theorem u_94_174 {a : Nat} {lv : am_L} {st : List Value} : am_W G (am_M G d) 94 K 174 lv (.ref a :: st) h nc ns = (f_gf G d 94 K 177 lv st h nc ns (h a) 7 14) := am_u e_94_174
theorem e_94_177 : pg_code 94 177 = some (.iload 5, 2, 0, 0) := by decide +kernel
theorem u_94_177 {a : Int32} {z0 : Option Value} {z1 : Option Value} {z2 : Option Value} {z3 : Option Value} {z4 : Option Value} {lv : am_L} {st : List Value} : am_W G (am_M G d) 94 K 177 (z0 :: z1 :: z2 :: z3 :: z4 :: some (.int a) :: lv) st h nc ns = (am_W G (am_M G d) 94 K 179 (z0 :: z1 :: z2 :: z3 :: z4 :: some (.int a) :: lv) (.int a :: st) h nc ns) := am_u e_94_177
theorem e_94_179 : pg_code 94 179 = some (.laload, 1, 0, 0) := by decide +kernel
theorem u_94_179 {a : Nat} {j : Int32} {lv : am_L} {st : List Value} : am_W G (am_M G d) 94 K 179 lv (.int j :: .ref a :: st) h nc ns = (f_la G d 94 K 180 lv st h nc ns (h a) j) := am_u e_94_179
theorem e_94_180 : pg_code 94 180 = some (.lastore, 1, 0, 0) := by decide +kernel
theorem u_94_180 {a : Nat} {j : Int32} {b : Int64} {lv : am_L} {st : List Value} : am_W G (am_M G d) 94 K 180 lv (.long b :: .int j :: .ref a :: st) h nc ns = (f_ls G d 94 K 181 lv st h nc ns (h a) a j b) := am_u e_94_180
theorem e_94_181 : pg_code 94 181 = some (.aload_n 0, 1, 0, 0) := by decide +kernel
theorem u_94_181 {a : Nat} {lv : am_L} {st : List Value} : am_W G (am_M G d) 94 K 181 (some (.ref a) :: lv) st h nc ns = (am_W G (am_M G d) 94 K 182 (some (.ref a) :: lv) (.ref a :: st) h nc ns) := am_u e_94_181
theorem e_94_182 : pg_code 94 182 = some (.getfield 45, 3, 7, 15) := by decide +kernel
theorem u_94_182 {a : Nat} {lv : am_L} {st : List Value} : am_W G (am_M G d) 94 K 182 lv (.ref a :: st) h nc ns = (f_gf G d 94 K 185 lv st h nc ns (h a) 7 15) := am_u e_94_182
theorem e_94_185 : pg_code 94 185 = some (.iload 4, 2, 0, 0) := by decide +kernel
theorem u_94_185 {a : Int32} {z0 : Option Value} {z1 : Option Value} {z2 : Option Value} {z3 : Option Value} {lv : am_L} {st : List Value} : am_W G (am_M G d) 94 K 185 (z0 :: z1 :: z2 :: z3 :: some (.int a) :: lv) st h nc ns = (am_W G (am_M G d) 94 K 187 (z0 :: z1 :: z2 :: z3 :: some (.int a) :: lv) (.int a :: st) h nc ns) := am_u e_94_185
theorem e_94_187 : pg_code 94 187 = some (.aload_n 0, 1, 0, 0) := by decide +kernel
theorem u_94_187 {a : Nat} {lv : am_L} {st : List Value} : am_W G (am_M G d) 94 K 187 (some (.ref a) :: lv) st h nc ns = (am_W G (am_M G d) 94 K 188 (some (.ref a) :: lv) (.ref a :: st) h nc ns) := am_u e_94_187
theorem e_94_188 : pg_code 94 188 = some (.getfield 45, 3, 7, 15) := by decide +kernel
theorem u_94_188 {a : Nat} {lv : am_L} {st : List Value} : am_W G (am_M G d) 94 K 188 lv (.ref a :: st) h nc ns = (f_gf G d 94 K 191 lv st h nc ns (h a) 7 15) := am_u e_94_188
theorem e_94_191 : pg_code 94 191 = some (.iload 5, 2, 0, 0) := by decide +kernel
theorem u_94_191 {a : Int32} {z0 : Option Value} {z1 : Option Value} {z2 : Option Value} {z3 : Option Value} {z4 : Option Value} {lv : am_L} {st : List Value} : am_W G (am_M G d) 94 K 191 (z0 :: z1 :: z2 :: z3 :: z4 :: some (.int a) :: lv) st h nc ns = (am_W G (am_M G d) 94 K 193 (z0 :: z1 :: z2 :: z3 :: z4 :: some (.int a) :: lv) (.int a :: st) h nc ns) := am_u e_94_191
theorem e_94_193 : pg_code 94 193 = some (.laload, 1, 0, 0) := by decide +kernel
theorem u_94_193 {a : Nat} {j : Int32} {lv : am_L} {st : List Value} : am_W G (am_M G d) 94 K 193 lv (.int j :: .ref a :: st) h nc ns = (f_la G d 94 K 194 lv st h nc ns (h a) j) := am_u e_94_193
theorem e_94_194 : pg_code 94 194 = some (.lastore, 1, 0, 0) := by decide +kernel
theorem u_94_194 {a : Nat} {j : Int32} {b : Int64} {lv : am_L} {st : List Value} : am_W G (am_M G d) 94 K 194 lv (.long b :: .int j :: .ref a :: st) h nc ns = (f_ls G d 94 K 195 lv st h nc ns (h a) a j b) := am_u e_94_194
theorem e_94_195 : pg_code 94 195 = some (.aload_n 0, 1, 0, 0) := by decide +kernel
theorem u_94_195 {a : Nat} {lv : am_L} {st : List Value} : am_W G (am_M G d) 94 K 195 (some (.ref a) :: lv) st h nc ns = (am_W G (am_M G d) 94 K 196 (some (.ref a) :: lv) (.ref a :: st) h nc ns) := am_u e_94_195
theorem e_94_196 : pg_code 94 196 = some (.getfield 48, 3, 7, 16) := by decide +kernel
theorem u_94_196 {a : Nat} {lv : am_L} {st : List Value} : am_W G (am_M G d) 94 K 196 lv (.ref a :: st) h nc ns = (f_gf G d 94 K 199 lv st h nc ns (h a) 7 16) := am_u e_94_196
theorem e_94_199 : pg_code 94 199 = some (.iload 4, 2, 0, 0) := by decide +kernel
theorem u_94_199 {a : Int32} {z0 : Option Value} {z1 : Option Value} {z2 : Option Value} {z3 : Option Value} {lv : am_L} {st : List Value} : am_W G (am_M G d) 94 K 199 (z0 :: z1 :: z2 :: z3 :: some (.int a) :: lv) st h nc ns = (am_W G (am_M G d) 94 K 201 (z0 :: z1 :: z2 :: z3 :: some (.int a) :: lv) (.int a :: st) h nc ns) := am_u e_94_199
theorem e_94_201 : pg_code 94 201 = some (.aload_n 0, 1, 0, 0) := by decide +kernel
theorem u_94_201 {a : Nat} {lv : am_L} {st : List Value} : am_W G (am_M G d) 94 K 201 (some (.ref a) :: lv) st h nc ns = (am_W G (am_M G d) 94 K 202 (some (.ref a) :: lv) (.ref a :: st) h nc ns) := am_u e_94_201
theorem e_94_202 : pg_code 94 202 = some (.getfield 48, 3, 7, 16) := by decide +kernel
theorem u_94_202 {a : Nat} {lv : am_L} {st : List Value} : am_W G (am_M G d) 94 K 202 lv (.ref a :: st) h nc ns = (f_gf G d 94 K 205 lv st h nc ns (h a) 7 16) := am_u e_94_202
theorem e_94_205 : pg_code 94 205 = some (.iload 5, 2, 0, 0) := by decide +kernel
theorem u_94_205 {a : Int32} {z0 : Option Value} {z1 : Option Value} {z2 : Option Value} {z3 : Option Value} {z4 : Option Value} {lv : am_L} {st : List Value} : am_W G (am_M G d) 94 K 205 (z0 :: z1 :: z2 :: z3 :: z4 :: some (.int a) :: lv) st h nc ns = (am_W G (am_M G d) 94 K 207 (z0 :: z1 :: z2 :: z3 :: z4 :: some (.int a) :: lv) (.int a :: st) h nc ns) := am_u e_94_205
theorem e_94_207 : pg_code 94 207 = some (.baload, 1, 0, 0) := by decide +kernel
theorem u_94_207 {a : Nat} {j : Int32} {lv : am_L} {st : List Value} : am_W G (am_M G d) 94 K 207 lv (.int j :: .ref a :: st) h nc ns = (f_ia G d 94 K 208 lv st h nc ns (h a) .boolean j) := am_u e_94_207
theorem e_94_208 : pg_code 94 208 = some (.bastore, 1, 0, 0) := by decide +kernel
theorem u_94_208 {a : Nat} {j b : Int32} {lv : am_L} {st : List Value} : am_W G (am_M G d) 94 K 208 lv (.int b :: .int j :: .ref a :: st) h nc ns = (f_is G d 94 K 209 lv st h nc ns (h a) .boolean a j (vp_nar .boolean b)) := am_u e_94_208
theorem e_94_209 : pg_code 94 209 = some (.iinc 3 1, 3, 0, 0) := by decide +kernel
theorem u_94_209 {a : Int32} {z0 : Option Value} {z1 : Option Value} {z2 : Option Value} {lv : am_L} {st : List Value} : am_W G (am_M G d) 94 K 209 (z0 :: z1 :: z2 :: some (.int a) :: lv) st h nc ns = (am_W G (am_M G d) 94 K 212 (am_st1 (z0 :: z1 :: z2 :: some (.int a) :: lv) 3 (.int (a + Int32.ofInt 1))) st h nc ns) := (am_u e_94_209).trans (f_t (by decide +kernel))
theorem e_94_212 : pg_code 94 212 = some (.goto (-210), 3, 2, 0) := by decide +kernel
theorem u_94_212 {lv : am_L} {st : List Value} : am_W G (am_M G d) 94 K 212 lv st h nc ns = (am_W G (am_M G d) 94 K 2 lv st h nc ns) := am_u e_94_212
theorem e_94_215 : pg_code 94 215 = some (.iconst 0, 1, 0, 0) := by decide +kernel
theorem u_94_215 {lv : am_L} {st : List Value} : am_W G (am_M G d) 94 K 215 lv st h nc ns = (am_W G (am_M G d) 94 K 216 lv (.int 0 :: st) h nc ns) := am_u e_94_215
theorem e_94_216 : pg_code 94 216 = some (.istore_n 3, 1, 0, 0) := by decide +kernel
theorem u_94_216 {a : Int32} {lv : am_L} {st : List Value} : am_W G (am_M G d) 94 K 216 lv (.int a :: st) h nc ns = (am_W G (am_M G d) 94 K 217 (am_st1 lv 3 (.int a)) st h nc ns) := (am_u e_94_216).trans (f_t (by decide +kernel))
theorem e_94_217 : pg_code 94 217 = some (.iload_n 3, 1, 0, 0) := by decide +kernel
theorem u_94_217 {a : Int32} {z0 : Option Value} {z1 : Option Value} {z2 : Option Value} {lv : am_L} {st : List Value} : am_W G (am_M G d) 94 K 217 (z0 :: z1 :: z2 :: some (.int a) :: lv) st h nc ns = (am_W G (am_M G d) 94 K 218 (z0 :: z1 :: z2 :: some (.int a) :: lv) (.int a :: st) h nc ns) := am_u e_94_217
theorem e_94_218 : pg_code 94 218 = some (.bipush 60, 2, 0, 0) := by decide +kernel
theorem u_94_218 {lv : am_L} {st : List Value} : am_W G (am_M G d) 94 K 218 lv st h nc ns = (am_W G (am_M G d) 94 K 220 lv (.int 60 :: st) h nc ns) := am_u e_94_218
theorem e_94_220 : pg_code 94 220 = some (.if_icmp .ge 31, 3, 251, 0) := by decide +kernel
theorem u_94_220 {a b : Int32} {lv : am_L} {st : List Value} : am_W G (am_M G d) 94 K 220 lv (.int b :: .int a :: st) h nc ns = (am_br (b ≤ a) (am_W G (am_M G d) 94 K 251 lv st h nc ns) (am_W G (am_M G d) 94 K 223 lv st h nc ns)) := am_u e_94_220
theorem e_94_223 : pg_code 94 223 = some (.aload_n 0, 1, 0, 0) := by decide +kernel
theorem u_94_223 {a : Nat} {lv : am_L} {st : List Value} : am_W G (am_M G d) 94 K 223 (some (.ref a) :: lv) st h nc ns = (am_W G (am_M G d) 94 K 224 (some (.ref a) :: lv) (.ref a :: st) h nc ns) := am_u e_94_223
theorem e_94_224 : pg_code 94 224 = some (.getfield 51, 3, 7, 17) := by decide +kernel
theorem u_94_224 {a : Nat} {lv : am_L} {st : List Value} : am_W G (am_M G d) 94 K 224 lv (.ref a :: st) h nc ns = (f_gf G d 94 K 227 lv st h nc ns (h a) 7 17) := am_u e_94_224
theorem e_94_227 : pg_code 94 227 = some (.bipush 60, 2, 0, 0) := by decide +kernel
theorem u_94_227 {lv : am_L} {st : List Value} : am_W G (am_M G d) 94 K 227 lv st h nc ns = (am_W G (am_M G d) 94 K 229 lv (.int 60 :: st) h nc ns) := am_u e_94_227
theorem e_94_229 : pg_code 94 229 = some (.iload_n 1, 1, 0, 0) := by decide +kernel
theorem u_94_229 {a : Int32} {z0 : Option Value} {lv : am_L} {st : List Value} : am_W G (am_M G d) 94 K 229 (z0 :: some (.int a) :: lv) st h nc ns = (am_W G (am_M G d) 94 K 230 (z0 :: some (.int a) :: lv) (.int a :: st) h nc ns) := am_u e_94_229
theorem e_94_230 : pg_code 94 230 = some (.imul, 1, 0, 0) := by decide +kernel
theorem u_94_230 {a b : Int32} {lv : am_L} {st : List Value} : am_W G (am_M G d) 94 K 230 lv (.int b :: .int a :: st) h nc ns = (am_W G (am_M G d) 94 K 231 lv (.int (a * b) :: st) h nc ns) := am_u e_94_230
theorem e_94_231 : pg_code 94 231 = some (.iload_n 3, 1, 0, 0) := by decide +kernel
theorem u_94_231 {a : Int32} {z0 : Option Value} {z1 : Option Value} {z2 : Option Value} {lv : am_L} {st : List Value} : am_W G (am_M G d) 94 K 231 (z0 :: z1 :: z2 :: some (.int a) :: lv) st h nc ns = (am_W G (am_M G d) 94 K 232 (z0 :: z1 :: z2 :: some (.int a) :: lv) (.int a :: st) h nc ns) := am_u e_94_231
theorem e_94_232 : pg_code 94 232 = some (.iadd, 1, 0, 0) := by decide +kernel
theorem u_94_232 {a b : Int32} {lv : am_L} {st : List Value} : am_W G (am_M G d) 94 K 232 lv (.int b :: .int a :: st) h nc ns = (am_W G (am_M G d) 94 K 233 lv (.int (a + b) :: st) h nc ns) := am_u e_94_232
theorem e_94_233 : pg_code 94 233 = some (.aload_n 0, 1, 0, 0) := by decide +kernel
theorem u_94_233 {a : Nat} {lv : am_L} {st : List Value} : am_W G (am_M G d) 94 K 233 (some (.ref a) :: lv) st h nc ns = (am_W G (am_M G d) 94 K 234 (some (.ref a) :: lv) (.ref a :: st) h nc ns) := am_u e_94_233
theorem e_94_234 : pg_code 94 234 = some (.getfield 51, 3, 7, 17) := by decide +kernel
theorem u_94_234 {a : Nat} {lv : am_L} {st : List Value} : am_W G (am_M G d) 94 K 234 lv (.ref a :: st) h nc ns = (f_gf G d 94 K 237 lv st h nc ns (h a) 7 17) := am_u e_94_234
theorem e_94_237 : pg_code 94 237 = some (.bipush 60, 2, 0, 0) := by decide +kernel
theorem u_94_237 {lv : am_L} {st : List Value} : am_W G (am_M G d) 94 K 237 lv st h nc ns = (am_W G (am_M G d) 94 K 239 lv (.int 60 :: st) h nc ns) := am_u e_94_237
theorem e_94_239 : pg_code 94 239 = some (.iload_n 2, 1, 0, 0) := by decide +kernel
theorem u_94_239 {a : Int32} {z0 : Option Value} {z1 : Option Value} {lv : am_L} {st : List Value} : am_W G (am_M G d) 94 K 239 (z0 :: z1 :: some (.int a) :: lv) st h nc ns = (am_W G (am_M G d) 94 K 240 (z0 :: z1 :: some (.int a) :: lv) (.int a :: st) h nc ns) := am_u e_94_239
theorem e_94_240 : pg_code 94 240 = some (.imul, 1, 0, 0) := by decide +kernel
theorem u_94_240 {a b : Int32} {lv : am_L} {st : List Value} : am_W G (am_M G d) 94 K 240 lv (.int b :: .int a :: st) h nc ns = (am_W G (am_M G d) 94 K 241 lv (.int (a * b) :: st) h nc ns) := am_u e_94_240
theorem e_94_241 : pg_code 94 241 = some (.iload_n 3, 1, 0, 0) := by decide +kernel
theorem u_94_241 {a : Int32} {z0 : Option Value} {z1 : Option Value} {z2 : Option Value} {lv : am_L} {st : List Value} : am_W G (am_M G d) 94 K 241 (z0 :: z1 :: z2 :: some (.int a) :: lv) st h nc ns = (am_W G (am_M G d) 94 K 242 (z0 :: z1 :: z2 :: some (.int a) :: lv) (.int a :: st) h nc ns) := am_u e_94_241
theorem e_94_242 : pg_code 94 242 = some (.iadd, 1, 0, 0) := by decide +kernel
theorem u_94_242 {a b : Int32} {lv : am_L} {st : List Value} : am_W G (am_M G d) 94 K 242 lv (.int b :: .int a :: st) h nc ns = (am_W G (am_M G d) 94 K 243 lv (.int (a + b) :: st) h nc ns) := am_u e_94_242
theorem e_94_243 : pg_code 94 243 = some (.laload, 1, 0, 0) := by decide +kernel
theorem u_94_243 {a : Nat} {j : Int32} {lv : am_L} {st : List Value} : am_W G (am_M G d) 94 K 243 lv (.int j :: .ref a :: st) h nc ns = (f_la G d 94 K 244 lv st h nc ns (h a) j) := am_u e_94_243
theorem e_94_244 : pg_code 94 244 = some (.lastore, 1, 0, 0) := by decide +kernel
theorem u_94_244 {a : Nat} {j : Int32} {b : Int64} {lv : am_L} {st : List Value} : am_W G (am_M G d) 94 K 244 lv (.long b :: .int j :: .ref a :: st) h nc ns = (f_ls G d 94 K 245 lv st h nc ns (h a) a j b) := am_u e_94_244
theorem e_94_245 : pg_code 94 245 = some (.iinc 3 1, 3, 0, 0) := by decide +kernel
theorem u_94_245 {a : Int32} {z0 : Option Value} {z1 : Option Value} {z2 : Option Value} {lv : am_L} {st : List Value} : am_W G (am_M G d) 94 K 245 (z0 :: z1 :: z2 :: some (.int a) :: lv) st h nc ns = (am_W G (am_M G d) 94 K 248 (am_st1 (z0 :: z1 :: z2 :: some (.int a) :: lv) 3 (.int (a + Int32.ofInt 1))) st h nc ns) := (am_u e_94_245).trans (f_t (by decide +kernel))
theorem e_94_248 : pg_code 94 248 = some (.goto (-31), 3, 217, 0) := by decide +kernel
theorem u_94_248 {lv : am_L} {st : List Value} : am_W G (am_M G d) 94 K 248 lv st h nc ns = (am_W G (am_M G d) 94 K 217 lv st h nc ns) := am_u e_94_248
theorem e_94_251 : pg_code 94 251 = some (.return_, 1, 0, 0) := by decide +kernel
theorem u_94_251 {lv : am_L} : am_W G (am_M G d) 94 K 251 lv [] h nc ns = (K (.inl none) h) := (am_u e_94_251).trans (f_t ⟨rfl, rfl⟩)
theorem e_95_0 : pg_code 95 0 = some (.aload_n 0, 1, 0, 0) := by decide +kernel
theorem u_95_0 {a : Nat} {lv : am_L} {st : List Value} : am_W G (am_M G d) 95 K 0 (some (.ref a) :: lv) st h nc ns = (am_W G (am_M G d) 95 K 1 (some (.ref a) :: lv) (.ref a :: st) h nc ns) := am_u e_95_0
theorem e_95_1 : pg_code 95 1 = some (.iload_n 1, 1, 0, 0) := by decide +kernel
theorem u_95_1 {a : Int32} {z0 : Option Value} {lv : am_L} {st : List Value} : am_W G (am_M G d) 95 K 1 (z0 :: some (.int a) :: lv) st h nc ns = (am_W G (am_M G d) 95 K 2 (z0 :: some (.int a) :: lv) (.int a :: st) h nc ns) := am_u e_95_1
theorem e_95_2 : pg_code 95 2 = some (.iconst 0, 1, 0, 0) := by decide +kernel
theorem u_95_2 {lv : am_L} {st : List Value} : am_W G (am_M G d) 95 K 2 lv st h nc ns = (am_W G (am_M G d) 95 K 3 lv (.int 0 :: st) h nc ns) := am_u e_95_2
theorem e_95_3 : pg_code 95 3 = some (.aload_n 0, 1, 0, 0) := by decide +kernel
theorem u_95_3 {a : Nat} {lv : am_L} {st : List Value} : am_W G (am_M G d) 95 K 3 (some (.ref a) :: lv) st h nc ns = (am_W G (am_M G d) 95 K 4 (some (.ref a) :: lv) (.ref a :: st) h nc ns) := am_u e_95_3
theorem e_95_4 : pg_code 95 4 = some (.getfield 119, 3, 7, 2) := by decide +kernel
theorem u_95_4 {a : Nat} {lv : am_L} {st : List Value} : am_W G (am_M G d) 95 K 4 lv (.ref a :: st) h nc ns = (f_gf G d 95 K 7 lv st h nc ns (h a) 7 2) := am_u e_95_4
theorem e_95_7 : pg_code 95 7 = some (.iconst 1, 1, 0, 0) := by decide +kernel
theorem u_95_7 {lv : am_L} {st : List Value} : am_W G (am_M G d) 95 K 7 lv st h nc ns = (am_W G (am_M G d) 95 K 8 lv (.int 1 :: st) h nc ns) := am_u e_95_7
theorem e_95_8 : pg_code 95 8 = some (.isub, 1, 0, 0) := by decide +kernel
theorem u_95_8 {a b : Int32} {lv : am_L} {st : List Value} : am_W G (am_M G d) 95 K 8 lv (.int b :: .int a :: st) h nc ns = (am_W G (am_M G d) 95 K 9 lv (.int (a - b) :: st) h nc ns) := am_u e_95_8
theorem e_95_9 : pg_code 95 9 = some (.invokestatic 108, 3, 88, 3) := by decide +kernel
theorem u_95_9 {v0 v1 v2 : Value} {lv : am_L} {st : List Value} : am_W G (am_M G d) 95 K 9 lv (v2 :: v1 :: v0 :: st) h nc ns = ((am_words st ≤ 8 ∧ nc + 0 ≤ 0 ∧ ns + 0 ≤ 0) ∧ am_M G d 88 [v0, v1, v2] h (am_back 95 K (am_W G (am_M G d) 95 K) 88 9 lv st nc ns)) := (am_u e_95_9).trans (f_st_eq (G := G) (d := d) (k := 95) (K := K) (pc := 9) (lv := lv) (st := st) (h := h) (nc := nc) (ns := ns) (x := 88) (X := am_W G (am_M G d) 95 K) [v0, v1, v2] (by decide) rfl)
theorem e_95_12 : pg_code 95 12 = some (.ifCond .eq 26, 3, 38, 0) := by decide +kernel
theorem u_95_12 {a : Int32} {lv : am_L} {st : List Value} : am_W G (am_M G d) 95 K 12 lv (.int a :: st) h nc ns = (am_br (a = 0) (am_W G (am_M G d) 95 K 38 lv st h nc ns) (am_W G (am_M G d) 95 K 15 lv st h nc ns)) := am_u e_95_12
theorem e_95_15 : pg_code 95 15 = some (.aload_n 0, 1, 0, 0) := by decide +kernel
theorem u_95_15 {a : Nat} {lv : am_L} {st : List Value} : am_W G (am_M G d) 95 K 15 (some (.ref a) :: lv) st h nc ns = (am_W G (am_M G d) 95 K 16 (some (.ref a) :: lv) (.ref a :: st) h nc ns) := am_u e_95_15
theorem e_95_16 : pg_code 95 16 = some (.iload_n 2, 1, 0, 0) := by decide +kernel
theorem u_95_16 {a : Int32} {z0 : Option Value} {z1 : Option Value} {lv : am_L} {st : List Value} : am_W G (am_M G d) 95 K 16 (z0 :: z1 :: some (.int a) :: lv) st h nc ns = (am_W G (am_M G d) 95 K 17 (z0 :: z1 :: some (.int a) :: lv) (.int a :: st) h nc ns) := am_u e_95_16
theorem e_95_17 : pg_code 95 17 = some (.iload_n 3, 1, 0, 0) := by decide +kernel
theorem u_95_17 {a : Int32} {z0 : Option Value} {z1 : Option Value} {z2 : Option Value} {lv : am_L} {st : List Value} : am_W G (am_M G d) 95 K 17 (z0 :: z1 :: z2 :: some (.int a) :: lv) st h nc ns = (am_W G (am_M G d) 95 K 18 (z0 :: z1 :: z2 :: some (.int a) :: lv) (.int a :: st) h nc ns) := am_u e_95_17
theorem e_95_18 : pg_code 95 18 = some (.iload 4, 2, 0, 0) := by decide +kernel
theorem u_95_18 {a : Int32} {z0 : Option Value} {z1 : Option Value} {z2 : Option Value} {z3 : Option Value} {lv : am_L} {st : List Value} : am_W G (am_M G d) 95 K 18 (z0 :: z1 :: z2 :: z3 :: some (.int a) :: lv) st h nc ns = (am_W G (am_M G d) 95 K 20 (z0 :: z1 :: z2 :: z3 :: some (.int a) :: lv) (.int a :: st) h nc ns) := am_u e_95_18
theorem e_95_20 : pg_code 95 20 = some (.aload_n 0, 1, 0, 0) := by decide +kernel
theorem u_95_20 {a : Nat} {lv : am_L} {st : List Value} : am_W G (am_M G d) 95 K 20 (some (.ref a) :: lv) st h nc ns = (am_W G (am_M G d) 95 K 21 (some (.ref a) :: lv) (.ref a :: st) h nc ns) := am_u e_95_20
theorem e_95_21 : pg_code 95 21 = some (.getfield 119, 3, 7, 2) := by decide +kernel
theorem u_95_21 {a : Nat} {lv : am_L} {st : List Value} : am_W G (am_M G d) 95 K 21 lv (.ref a :: st) h nc ns = (f_gf G d 95 K 24 lv st h nc ns (h a) 7 2) := am_u e_95_21
theorem e_95_24 : pg_code 95 24 = some (.invokevirtual 122, 3, 87, 5) := by decide +kernel
theorem u_95_24 {a : Nat} {v0 v1 v2 v3 : Value} {lv : am_L} {st : List Value} : am_W G (am_M G d) 95 K 24 lv (v3 :: v2 :: v1 :: v0 :: .ref a :: st) h nc ns = ((am_words st ≤ 8 ∧ nc + 0 ≤ 0 ∧ ns + 0 ≤ 0 ∧ f_rc (h a) 7) ∧ am_M G d 87 [.ref a, v0, v1, v2, v3] h (am_back 95 K (am_W G (am_M G d) 95 K) 87 24 lv st nc ns)) := (am_u e_95_24).trans (f_iv_eq (a := a) (G := G) (d := d) (k := 95) (K := K) (pc := 24) (lv := lv) (st := st) (h := h) (nc := nc) (ns := ns) (x := 87) (X := am_W G (am_M G d) 95 K) [v0, v1, v2, v3] (by decide) rfl)
theorem e_95_27 : pg_code 95 27 = some (.ifCond .eq 7, 3, 34, 0) := by decide +kernel
theorem u_95_27 {a : Int32} {lv : am_L} {st : List Value} : am_W G (am_M G d) 95 K 27 lv (.int a :: st) h nc ns = (am_br (a = 0) (am_W G (am_M G d) 95 K 34 lv st h nc ns) (am_W G (am_M G d) 95 K 30 lv st h nc ns)) := am_u e_95_27
theorem e_95_30 : pg_code 95 30 = some (.iconst 0, 1, 0, 0) := by decide +kernel
theorem u_95_30 {lv : am_L} {st : List Value} : am_W G (am_M G d) 95 K 30 lv st h nc ns = (am_W G (am_M G d) 95 K 31 lv (.int 0 :: st) h nc ns) := am_u e_95_30
theorem e_95_31 : pg_code 95 31 = some (.goto 8, 3, 39, 0) := by decide +kernel
theorem u_95_31 {lv : am_L} {st : List Value} : am_W G (am_M G d) 95 K 31 lv st h nc ns = (am_W G (am_M G d) 95 K 39 lv st h nc ns) := am_u e_95_31
theorem e_95_34 : pg_code 95 34 = some (.iconst 2, 1, 0, 0) := by decide +kernel
theorem u_95_34 {lv : am_L} {st : List Value} : am_W G (am_M G d) 95 K 34 lv st h nc ns = (am_W G (am_M G d) 95 K 35 lv (.int 2 :: st) h nc ns) := am_u e_95_34
theorem e_95_35 : pg_code 95 35 = some (.goto 4, 3, 39, 0) := by decide +kernel
theorem u_95_35 {lv : am_L} {st : List Value} : am_W G (am_M G d) 95 K 35 lv st h nc ns = (am_W G (am_M G d) 95 K 39 lv st h nc ns) := am_u e_95_35
theorem e_95_38 : pg_code 95 38 = some (.iconst 1, 1, 0, 0) := by decide +kernel
theorem u_95_38 {lv : am_L} {st : List Value} : am_W G (am_M G d) 95 K 38 lv st h nc ns = (am_W G (am_M G d) 95 K 39 lv (.int 1 :: st) h nc ns) := am_u e_95_38
theorem e_95_39 : pg_code 95 39 = some (.putfield 90, 3, 7, 0) := by decide +kernel
theorem u_95_39 {a : Nat} {b : Int32} {lv : am_L} {st : List Value} : am_W G (am_M G d) 95 K 39 lv (.int b :: .ref a :: st) h nc ns = (f_pf G d 95 K 42 lv st h nc ns (h a) 7 0 a (.int b)) := (am_u e_95_39).trans (f_pf_eq ⟨rfl, rfl⟩)
theorem e_95_42 : pg_code 95 42 = some (.aload_n 0, 1, 0, 0) := by decide +kernel
theorem u_95_42 {a : Nat} {lv : am_L} {st : List Value} : am_W G (am_M G d) 95 K 42 (some (.ref a) :: lv) st h nc ns = (am_W G (am_M G d) 95 K 43 (some (.ref a) :: lv) (.ref a :: st) h nc ns) := am_u e_95_42
theorem e_95_43 : pg_code 95 43 = some (.getfield 90, 3, 7, 0) := by decide +kernel
theorem u_95_43 {a : Nat} {lv : am_L} {st : List Value} : am_W G (am_M G d) 95 K 43 lv (.ref a :: st) h nc ns = (f_gf G d 95 K 46 lv st h nc ns (h a) 7 0) := am_u e_95_43
theorem e_95_46 : pg_code 95 46 = some (.ifCond .le 5, 3, 51, 0) := by decide +kernel
theorem u_95_46 {a : Int32} {lv : am_L} {st : List Value} : am_W G (am_M G d) 95 K 46 lv (.int a :: st) h nc ns = (am_br (a ≤ 0) (am_W G (am_M G d) 95 K 51 lv st h nc ns) (am_W G (am_M G d) 95 K 49 lv st h nc ns)) := am_u e_95_46
theorem e_95_49 : pg_code 95 49 = some (.iconst 0, 1, 0, 0) := by decide +kernel
theorem u_95_49 {lv : am_L} {st : List Value} : am_W G (am_M G d) 95 K 49 lv st h nc ns = (am_W G (am_M G d) 95 K 50 lv (.int 0 :: st) h nc ns) := am_u e_95_49
theorem e_95_50 : pg_code 95 50 = some (.ireturn, 1, 0, 0) := by decide +kernel
theorem u_95_50 {a : Int32} {lv : am_L} : am_W G (am_M G d) 95 K 50 lv [.int a] h nc ns = (narrow .boolean (.int a) = .int a ∧ K (.inl (some (.int a))) h) := (am_u e_95_50).trans (f_z_eq rfl)
theorem e_95_51 : pg_code 95 51 = some (.aload_n 0, 1, 0, 0) := by decide +kernel
theorem u_95_51 {a : Nat} {lv : am_L} {st : List Value} : am_W G (am_M G d) 95 K 51 (some (.ref a) :: lv) st h nc ns = (am_W G (am_M G d) 95 K 52 (some (.ref a) :: lv) (.ref a :: st) h nc ns) := am_u e_95_51
theorem e_95_52 : pg_code 95 52 = some (.invokevirtual 129, 3, 93, 1) := by decide +kernel
theorem u_95_52 {a : Nat} {lv : am_L} {st : List Value} : am_W G (am_M G d) 95 K 52 lv (.ref a :: st) h nc ns = ((am_words st ≤ 8 ∧ nc + 0 ≤ 0 ∧ ns + 0 ≤ 0 ∧ f_rc (h a) 7) ∧ am_M G d 93 [.ref a] h (am_back 95 K (am_W G (am_M G d) 95 K) 93 52 lv st nc ns)) := (am_u e_95_52).trans (f_iv_eq (a := a) (G := G) (d := d) (k := 95) (K := K) (pc := 52) (lv := lv) (st := st) (h := h) (nc := nc) (ns := ns) (x := 93) (X := am_W G (am_M G d) 95 K) [] (by decide) rfl)
theorem e_95_55 : pg_code 95 55 = some (.aload_n 0, 1, 0, 0) := by decide +kernel
theorem u_95_55 {a : Nat} {lv : am_L} {st : List Value} : am_W G (am_M G d) 95 K 55 (some (.ref a) :: lv) st h nc ns = (am_W G (am_M G d) 95 K 56 (some (.ref a) :: lv) (.ref a :: st) h nc ns) := am_u e_95_55
theorem e_95_56 : pg_code 95 56 = some (.iload_n 1, 1, 0, 0) := by decide +kernel
theorem u_95_56 {a : Int32} {z0 : Option Value} {lv : am_L} {st : List Value} : am_W G (am_M G d) 95 K 56 (z0 :: some (.int a) :: lv) st h nc ns = (am_W G (am_M G d) 95 K 57 (z0 :: some (.int a) :: lv) (.int a :: st) h nc ns) := am_u e_95_56
theorem e_95_57 : pg_code 95 57 = some (.iload_n 2, 1, 0, 0) := by decide +kernel
theorem u_95_57 {a : Int32} {z0 : Option Value} {z1 : Option Value} {lv : am_L} {st : List Value} : am_W G (am_M G d) 95 K 57 (z0 :: z1 :: some (.int a) :: lv) st h nc ns = (am_W G (am_M G d) 95 K 58 (z0 :: z1 :: some (.int a) :: lv) (.int a :: st) h nc ns) := am_u e_95_57
theorem e_95_58 : pg_code 95 58 = some (.iload_n 3, 1, 0, 0) := by decide +kernel
theorem u_95_58 {a : Int32} {z0 : Option Value} {z1 : Option Value} {z2 : Option Value} {lv : am_L} {st : List Value} : am_W G (am_M G d) 95 K 58 (z0 :: z1 :: z2 :: some (.int a) :: lv) st h nc ns = (am_W G (am_M G d) 95 K 59 (z0 :: z1 :: z2 :: some (.int a) :: lv) (.int a :: st) h nc ns) := am_u e_95_58
theorem e_95_59 : pg_code 95 59 = some (.iload 4, 2, 0, 0) := by decide +kernel
theorem u_95_59 {a : Int32} {z0 : Option Value} {z1 : Option Value} {z2 : Option Value} {z3 : Option Value} {lv : am_L} {st : List Value} : am_W G (am_M G d) 95 K 59 (z0 :: z1 :: z2 :: z3 :: some (.int a) :: lv) st h nc ns = (am_W G (am_M G d) 95 K 61 (z0 :: z1 :: z2 :: z3 :: some (.int a) :: lv) (.int a :: st) h nc ns) := am_u e_95_59
theorem e_95_61 : pg_code 95 61 = some (.invokevirtual 126, 3, 90, 5) := by decide +kernel
theorem u_95_61 {a : Nat} {v0 v1 v2 v3 : Value} {lv : am_L} {st : List Value} : am_W G (am_M G d) 95 K 61 lv (v3 :: v2 :: v1 :: v0 :: .ref a :: st) h nc ns = ((am_words st ≤ 8 ∧ nc + 0 ≤ 0 ∧ ns + 0 ≤ 0 ∧ f_rc (h a) 7) ∧ am_M G d 90 [.ref a, v0, v1, v2, v3] h (am_back 95 K (am_W G (am_M G d) 95 K) 90 61 lv st nc ns)) := (am_u e_95_61).trans (f_iv_eq (a := a) (G := G) (d := d) (k := 95) (K := K) (pc := 61) (lv := lv) (st := st) (h := h) (nc := nc) (ns := ns) (x := 90) (X := am_W G (am_M G d) 95 K) [v0, v1, v2, v3] (by decide) rfl)
theorem e_95_64 : pg_code 95 64 = some (.ireturn, 1, 0, 0) := by decide +kernel
theorem u_95_64 {a : Int32} {lv : am_L} : am_W G (am_M G d) 95 K 64 lv [.int a] h nc ns = (narrow .boolean (.int a) = .int a ∧ K (.inl (some (.int a))) h) := (am_u e_95_64).trans (f_z_eq rfl)
theorem e_96_0 : pg_code 96 0 = some (.aload_n 0, 1, 0, 0) := by decide +kernel
theorem u_96_0 {a : Nat} {lv : am_L} {st : List Value} : am_W G (am_M G d) 96 K 0 (some (.ref a) :: lv) st h nc ns = (am_W G (am_M G d) 96 K 1 (some (.ref a) :: lv) (.ref a :: st) h nc ns) := am_u e_96_0
theorem e_96_1 : pg_code 96 1 = some (.iload_n 1, 1, 0, 0) := by decide +kernel
theorem u_96_1 {a : Int32} {z0 : Option Value} {lv : am_L} {st : List Value} : am_W G (am_M G d) 96 K 1 (z0 :: some (.int a) :: lv) st h nc ns = (am_W G (am_M G d) 96 K 2 (z0 :: some (.int a) :: lv) (.int a :: st) h nc ns) := am_u e_96_1
theorem e_96_2 : pg_code 96 2 = some (.iconst 0, 1, 0, 0) := by decide +kernel
theorem u_96_2 {lv : am_L} {st : List Value} : am_W G (am_M G d) 96 K 2 lv st h nc ns = (am_W G (am_M G d) 96 K 3 lv (.int 0 :: st) h nc ns) := am_u e_96_2
theorem e_96_3 : pg_code 96 3 = some (.aload_n 0, 1, 0, 0) := by decide +kernel
theorem u_96_3 {a : Nat} {lv : am_L} {st : List Value} : am_W G (am_M G d) 96 K 3 (some (.ref a) :: lv) st h nc ns = (am_W G (am_M G d) 96 K 4 (some (.ref a) :: lv) (.ref a :: st) h nc ns) := am_u e_96_3
theorem e_96_4 : pg_code 96 4 = some (.getfield 119, 3, 7, 2) := by decide +kernel
theorem u_96_4 {a : Nat} {lv : am_L} {st : List Value} : am_W G (am_M G d) 96 K 4 lv (.ref a :: st) h nc ns = (f_gf G d 96 K 7 lv st h nc ns (h a) 7 2) := am_u e_96_4
theorem e_96_7 : pg_code 96 7 = some (.iconst 1, 1, 0, 0) := by decide +kernel
theorem u_96_7 {lv : am_L} {st : List Value} : am_W G (am_M G d) 96 K 7 lv st h nc ns = (am_W G (am_M G d) 96 K 8 lv (.int 1 :: st) h nc ns) := am_u e_96_7
theorem e_96_8 : pg_code 96 8 = some (.isub, 1, 0, 0) := by decide +kernel
theorem u_96_8 {a b : Int32} {lv : am_L} {st : List Value} : am_W G (am_M G d) 96 K 8 lv (.int b :: .int a :: st) h nc ns = (am_W G (am_M G d) 96 K 9 lv (.int (a - b) :: st) h nc ns) := am_u e_96_8
theorem e_96_9 : pg_code 96 9 = some (.invokestatic 108, 3, 88, 3) := by decide +kernel
theorem u_96_9 {v0 v1 v2 : Value} {lv : am_L} {st : List Value} : am_W G (am_M G d) 96 K 9 lv (v2 :: v1 :: v0 :: st) h nc ns = ((am_words st ≤ 8 ∧ nc + 0 ≤ 0 ∧ ns + 0 ≤ 0) ∧ am_M G d 88 [v0, v1, v2] h (am_back 96 K (am_W G (am_M G d) 96 K) 88 9 lv st nc ns)) := (am_u e_96_9).trans (f_st_eq (G := G) (d := d) (k := 96) (K := K) (pc := 9) (lv := lv) (st := st) (h := h) (nc := nc) (ns := ns) (x := 88) (X := am_W G (am_M G d) 96 K) [v0, v1, v2] (by decide) rfl)
theorem e_96_12 : pg_code 96 12 = some (.ifCond .eq 7, 3, 19, 0) := by decide +kernel
theorem u_96_12 {a : Int32} {lv : am_L} {st : List Value} : am_W G (am_M G d) 96 K 12 lv (.int a :: st) h nc ns = (am_br (a = 0) (am_W G (am_M G d) 96 K 19 lv st h nc ns) (am_W G (am_M G d) 96 K 15 lv st h nc ns)) := am_u e_96_12
theorem e_96_15 : pg_code 96 15 = some (.iconst 0, 1, 0, 0) := by decide +kernel
theorem u_96_15 {lv : am_L} {st : List Value} : am_W G (am_M G d) 96 K 15 lv st h nc ns = (am_W G (am_M G d) 96 K 16 lv (.int 0 :: st) h nc ns) := am_u e_96_15
theorem e_96_16 : pg_code 96 16 = some (.goto 4, 3, 20, 0) := by decide +kernel
theorem u_96_16 {lv : am_L} {st : List Value} : am_W G (am_M G d) 96 K 16 lv st h nc ns = (am_W G (am_M G d) 96 K 20 lv st h nc ns) := am_u e_96_16
theorem e_96_19 : pg_code 96 19 = some (.iconst 1, 1, 0, 0) := by decide +kernel
theorem u_96_19 {lv : am_L} {st : List Value} : am_W G (am_M G d) 96 K 19 lv st h nc ns = (am_W G (am_M G d) 96 K 20 lv (.int 1 :: st) h nc ns) := am_u e_96_19
theorem e_96_20 : pg_code 96 20 = some (.putfield 90, 3, 7, 0) := by decide +kernel
theorem u_96_20 {a : Nat} {b : Int32} {lv : am_L} {st : List Value} : am_W G (am_M G d) 96 K 20 lv (.int b :: .ref a :: st) h nc ns = (f_pf G d 96 K 23 lv st h nc ns (h a) 7 0 a (.int b)) := (am_u e_96_20).trans (f_pf_eq ⟨rfl, rfl⟩)
theorem e_96_23 : pg_code 96 23 = some (.aload_n 0, 1, 0, 0) := by decide +kernel
theorem u_96_23 {a : Nat} {lv : am_L} {st : List Value} : am_W G (am_M G d) 96 K 23 (some (.ref a) :: lv) st h nc ns = (am_W G (am_M G d) 96 K 24 (some (.ref a) :: lv) (.ref a :: st) h nc ns) := am_u e_96_23
theorem e_96_24 : pg_code 96 24 = some (.getfield 90, 3, 7, 0) := by decide +kernel
theorem u_96_24 {a : Nat} {lv : am_L} {st : List Value} : am_W G (am_M G d) 96 K 24 lv (.ref a :: st) h nc ns = (f_gf G d 96 K 27 lv st h nc ns (h a) 7 0) := am_u e_96_24
theorem e_96_27 : pg_code 96 27 = some (.ifCond .le 5, 3, 32, 0) := by decide +kernel
theorem u_96_27 {a : Int32} {lv : am_L} {st : List Value} : am_W G (am_M G d) 96 K 27 lv (.int a :: st) h nc ns = (am_br (a ≤ 0) (am_W G (am_M G d) 96 K 32 lv st h nc ns) (am_W G (am_M G d) 96 K 30 lv st h nc ns)) := am_u e_96_27
theorem e_96_30 : pg_code 96 30 = some (.iconst 0, 1, 0, 0) := by decide +kernel
theorem u_96_30 {lv : am_L} {st : List Value} : am_W G (am_M G d) 96 K 30 lv st h nc ns = (am_W G (am_M G d) 96 K 31 lv (.int 0 :: st) h nc ns) := am_u e_96_30
theorem e_96_31 : pg_code 96 31 = some (.ireturn, 1, 0, 0) := by decide +kernel
theorem u_96_31 {a : Int32} {lv : am_L} : am_W G (am_M G d) 96 K 31 lv [.int a] h nc ns = (narrow .boolean (.int a) = .int a ∧ K (.inl (some (.int a))) h) := (am_u e_96_31).trans (f_z_eq rfl)
theorem e_96_32 : pg_code 96 32 = some (.aload_n 0, 1, 0, 0) := by decide +kernel
theorem u_96_32 {a : Nat} {lv : am_L} {st : List Value} : am_W G (am_M G d) 96 K 32 (some (.ref a) :: lv) st h nc ns = (am_W G (am_M G d) 96 K 33 (some (.ref a) :: lv) (.ref a :: st) h nc ns) := am_u e_96_32
theorem e_96_33 : pg_code 96 33 = some (.invokevirtual 129, 3, 93, 1) := by decide +kernel
theorem u_96_33 {a : Nat} {lv : am_L} {st : List Value} : am_W G (am_M G d) 96 K 33 lv (.ref a :: st) h nc ns = ((am_words st ≤ 8 ∧ nc + 0 ≤ 0 ∧ ns + 0 ≤ 0 ∧ f_rc (h a) 7) ∧ am_M G d 93 [.ref a] h (am_back 96 K (am_W G (am_M G d) 96 K) 93 33 lv st nc ns)) := (am_u e_96_33).trans (f_iv_eq (a := a) (G := G) (d := d) (k := 96) (K := K) (pc := 33) (lv := lv) (st := st) (h := h) (nc := nc) (ns := ns) (x := 93) (X := am_W G (am_M G d) 96 K) [] (by decide) rfl)
theorem e_96_36 : pg_code 96 36 = some (.aload_n 0, 1, 0, 0) := by decide +kernel
theorem u_96_36 {a : Nat} {lv : am_L} {st : List Value} : am_W G (am_M G d) 96 K 36 (some (.ref a) :: lv) st h nc ns = (am_W G (am_M G d) 96 K 37 (some (.ref a) :: lv) (.ref a :: st) h nc ns) := am_u e_96_36
theorem e_96_37 : pg_code 96 37 = some (.getfield 19, 3, 7, 7) := by decide +kernel
theorem u_96_37 {a : Nat} {lv : am_L} {st : List Value} : am_W G (am_M G d) 96 K 37 lv (.ref a :: st) h nc ns = (f_gf G d 96 K 40 lv st h nc ns (h a) 7 7) := am_u e_96_37
theorem e_96_40 : pg_code 96 40 = some (.iload_n 1, 1, 0, 0) := by decide +kernel
theorem u_96_40 {a : Int32} {z0 : Option Value} {lv : am_L} {st : List Value} : am_W G (am_M G d) 96 K 40 (z0 :: some (.int a) :: lv) st h nc ns = (am_W G (am_M G d) 96 K 41 (z0 :: some (.int a) :: lv) (.int a :: st) h nc ns) := am_u e_96_40
theorem e_96_41 : pg_code 96 41 = some (.invokestatic 116, 3, 91, 1) := by decide +kernel
theorem u_96_41 {v0 : Value} {lv : am_L} {st : List Value} : am_W G (am_M G d) 96 K 41 lv (v0 :: st) h nc ns = ((am_words st ≤ 8 ∧ nc + 0 ≤ 0 ∧ ns + 0 ≤ 0) ∧ am_M G d 91 [v0] h (am_back 96 K (am_W G (am_M G d) 96 K) 91 41 lv st nc ns)) := (am_u e_96_41).trans (f_st_eq (G := G) (d := d) (k := 96) (K := K) (pc := 41) (lv := lv) (st := st) (h := h) (nc := nc) (ns := ns) (x := 91) (X := am_W G (am_M G d) 96 K) [v0] (by decide) rfl)
theorem e_96_44 : pg_code 96 44 = some (.baload, 1, 0, 0) := by decide +kernel
theorem u_96_44 {a : Nat} {j : Int32} {lv : am_L} {st : List Value} : am_W G (am_M G d) 96 K 44 lv (.int j :: .ref a :: st) h nc ns = (f_ia G d 96 K 45 lv st h nc ns (h a) .boolean j) := am_u e_96_44
theorem e_96_45 : pg_code 96 45 = some (.istore_n 3, 1, 0, 0) := by decide +kernel
theorem u_96_45 {a : Int32} {lv : am_L} {st : List Value} : am_W G (am_M G d) 96 K 45 lv (.int a :: st) h nc ns = (am_W G (am_M G d) 96 K 46 (am_st1 lv 3 (.int a)) st h nc ns) := (am_u e_96_45).trans (f_t (by decide +kernel))
theorem e_96_46 : pg_code 96 46 = some (.aload_n 0, 1, 0, 0) := by decide +kernel
theorem u_96_46 {a : Nat} {lv : am_L} {st : List Value} : am_W G (am_M G d) 96 K 46 (some (.ref a) :: lv) st h nc ns = (am_W G (am_M G d) 96 K 47 (some (.ref a) :: lv) (.ref a :: st) h nc ns) := am_u e_96_46
theorem e_96_47 : pg_code 96 47 = some (.getfield 19, 3, 7, 7) := by decide +kernel
theorem u_96_47 {a : Nat} {lv : am_L} {st : List Value} : am_W G (am_M G d) 96 K 47 lv (.ref a :: st) h nc ns = (f_gf G d 96 K 50 lv st h nc ns (h a) 7 7) := am_u e_96_47
theorem e_96_50 : pg_code 96 50 = some (.iload_n 1, 1, 0, 0) := by decide +kernel
theorem u_96_50 {a : Int32} {z0 : Option Value} {lv : am_L} {st : List Value} : am_W G (am_M G d) 96 K 50 (z0 :: some (.int a) :: lv) st h nc ns = (am_W G (am_M G d) 96 K 51 (z0 :: some (.int a) :: lv) (.int a :: st) h nc ns) := am_u e_96_50
theorem e_96_51 : pg_code 96 51 = some (.invokestatic 116, 3, 91, 1) := by decide +kernel
theorem u_96_51 {v0 : Value} {lv : am_L} {st : List Value} : am_W G (am_M G d) 96 K 51 lv (v0 :: st) h nc ns = ((am_words st ≤ 8 ∧ nc + 0 ≤ 0 ∧ ns + 0 ≤ 0) ∧ am_M G d 91 [v0] h (am_back 96 K (am_W G (am_M G d) 96 K) 91 51 lv st nc ns)) := (am_u e_96_51).trans (f_st_eq (G := G) (d := d) (k := 96) (K := K) (pc := 51) (lv := lv) (st := st) (h := h) (nc := nc) (ns := ns) (x := 91) (X := am_W G (am_M G d) 96 K) [v0] (by decide) rfl)
theorem e_96_54 : pg_code 96 54 = some (.iload_n 2, 1, 0, 0) := by decide +kernel
theorem u_96_54 {a : Int32} {z0 : Option Value} {z1 : Option Value} {lv : am_L} {st : List Value} : am_W G (am_M G d) 96 K 54 (z0 :: z1 :: some (.int a) :: lv) st h nc ns = (am_W G (am_M G d) 96 K 55 (z0 :: z1 :: some (.int a) :: lv) (.int a :: st) h nc ns) := am_u e_96_54
theorem e_96_55 : pg_code 96 55 = some (.bastore, 1, 0, 0) := by decide +kernel
theorem u_96_55 {a : Nat} {j b : Int32} {lv : am_L} {st : List Value} : am_W G (am_M G d) 96 K 55 lv (.int b :: .int j :: .ref a :: st) h nc ns = (f_is G d 96 K 56 lv st h nc ns (h a) .boolean a j (vp_nar .boolean b)) := am_u e_96_55
theorem e_96_56 : pg_code 96 56 = some (.iload_n 3, 1, 0, 0) := by decide +kernel
theorem u_96_56 {a : Int32} {z0 : Option Value} {z1 : Option Value} {z2 : Option Value} {lv : am_L} {st : List Value} : am_W G (am_M G d) 96 K 56 (z0 :: z1 :: z2 :: some (.int a) :: lv) st h nc ns = (am_W G (am_M G d) 96 K 57 (z0 :: z1 :: z2 :: some (.int a) :: lv) (.int a :: st) h nc ns) := am_u e_96_56
theorem e_96_57 : pg_code 96 57 = some (.ireturn, 1, 0, 0) := by decide +kernel
theorem u_96_57 {a : Int32} {lv : am_L} : am_W G (am_M G d) 96 K 57 lv [.int a] h nc ns = (narrow .boolean (.int a) = .int a ∧ K (.inl (some (.int a))) h) := (am_u e_96_57).trans (f_z_eq rfl)
theorem e_97_0 : pg_code 97 0 = some (.aload_n 0, 1, 0, 0) := by decide +kernel
theorem u_97_0 {a : Nat} {lv : am_L} {st : List Value} : am_W G (am_M G d) 97 K 0 (some (.ref a) :: lv) st h nc ns = (am_W G (am_M G d) 97 K 1 (some (.ref a) :: lv) (.ref a :: st) h nc ns) := am_u e_97_0
theorem e_97_1 : pg_code 97 1 = some (.iconst 0, 1, 0, 0) := by decide +kernel
theorem u_97_1 {lv : am_L} {st : List Value} : am_W G (am_M G d) 97 K 1 lv st h nc ns = (am_W G (am_M G d) 97 K 2 lv (.int 0 :: st) h nc ns) := am_u e_97_1
theorem e_97_2 : pg_code 97 2 = some (.putfield 90, 3, 7, 0) := by decide +kernel
theorem u_97_2 {a : Nat} {b : Int32} {lv : am_L} {st : List Value} : am_W G (am_M G d) 97 K 2 lv (.int b :: .ref a :: st) h nc ns = (f_pf G d 97 K 5 lv st h nc ns (h a) 7 0 a (.int b)) := (am_u e_97_2).trans (f_pf_eq ⟨rfl, rfl⟩)
theorem e_97_5 : pg_code 97 5 = some (.aload_n 0, 1, 0, 0) := by decide +kernel
theorem u_97_5 {a : Nat} {lv : am_L} {st : List Value} : am_W G (am_M G d) 97 K 5 (some (.ref a) :: lv) st h nc ns = (am_W G (am_M G d) 97 K 6 (some (.ref a) :: lv) (.ref a :: st) h nc ns) := am_u e_97_5
theorem e_97_6 : pg_code 97 6 = some (.invokevirtual 129, 3, 93, 1) := by decide +kernel
theorem u_97_6 {a : Nat} {lv : am_L} {st : List Value} : am_W G (am_M G d) 97 K 6 lv (.ref a :: st) h nc ns = ((am_words st ≤ 8 ∧ nc + 0 ≤ 0 ∧ ns + 0 ≤ 0 ∧ f_rc (h a) 7) ∧ am_M G d 93 [.ref a] h (am_back 97 K (am_W G (am_M G d) 97 K) 93 6 lv st nc ns)) := (am_u e_97_6).trans (f_iv_eq (a := a) (G := G) (d := d) (k := 97) (K := K) (pc := 6) (lv := lv) (st := st) (h := h) (nc := nc) (ns := ns) (x := 93) (X := am_W G (am_M G d) 97 K) [] (by decide) rfl)
theorem e_97_9 : pg_code 97 9 = some (.aload_n 0, 1, 0, 0) := by decide +kernel
theorem u_97_9 {a : Nat} {lv : am_L} {st : List Value} : am_W G (am_M G d) 97 K 9 (some (.ref a) :: lv) st h nc ns = (am_W G (am_M G d) 97 K 10 (some (.ref a) :: lv) (.ref a :: st) h nc ns) := am_u e_97_9
theorem e_97_10 : pg_code 97 10 = some (.iconst 0, 1, 0, 0) := by decide +kernel
theorem u_97_10 {lv : am_L} {st : List Value} : am_W G (am_M G d) 97 K 10 lv st h nc ns = (am_W G (am_M G d) 97 K 11 lv (.int 0 :: st) h nc ns) := am_u e_97_10
theorem e_97_11 : pg_code 97 11 = some (.putfield 143, 3, 7, 26) := by decide +kernel
theorem u_97_11 {a : Nat} {b : Int32} {lv : am_L} {st : List Value} : am_W G (am_M G d) 97 K 11 lv (.int b :: .ref a :: st) h nc ns = (f_pf G d 97 K 14 lv st h nc ns (h a) 7 26 a (.int b)) := (am_u e_97_11).trans (f_pf_eq ⟨rfl, rfl⟩)
theorem e_97_14 : pg_code 97 14 = some (.iconst 0, 1, 0, 0) := by decide +kernel
theorem u_97_14 {lv : am_L} {st : List Value} : am_W G (am_M G d) 97 K 14 lv st h nc ns = (am_W G (am_M G d) 97 K 15 lv (.int 0 :: st) h nc ns) := am_u e_97_14
theorem e_97_15 : pg_code 97 15 = some (.istore_n 1, 1, 0, 0) := by decide +kernel
theorem u_97_15 {a : Int32} {lv : am_L} {st : List Value} : am_W G (am_M G d) 97 K 15 lv (.int a :: st) h nc ns = (am_W G (am_M G d) 97 K 16 (am_st1 lv 1 (.int a)) st h nc ns) := (am_u e_97_15).trans (f_t (by decide +kernel))
theorem e_97_16 : pg_code 97 16 = some (.iload_n 1, 1, 0, 0) := by decide +kernel
theorem u_97_16 {a : Int32} {z0 : Option Value} {lv : am_L} {st : List Value} : am_W G (am_M G d) 97 K 16 (z0 :: some (.int a) :: lv) st h nc ns = (am_W G (am_M G d) 97 K 17 (z0 :: some (.int a) :: lv) (.int a :: st) h nc ns) := am_u e_97_16
theorem e_97_17 : pg_code 97 17 = some (.aload_n 0, 1, 0, 0) := by decide +kernel
theorem u_97_17 {a : Nat} {lv : am_L} {st : List Value} : am_W G (am_M G d) 97 K 17 (some (.ref a) :: lv) st h nc ns = (am_W G (am_M G d) 97 K 18 (some (.ref a) :: lv) (.ref a :: st) h nc ns) := am_u e_97_17
theorem e_97_18 : pg_code 97 18 = some (.getfield 119, 3, 7, 2) := by decide +kernel
theorem u_97_18 {a : Nat} {lv : am_L} {st : List Value} : am_W G (am_M G d) 97 K 18 lv (.ref a :: st) h nc ns = (f_gf G d 97 K 21 lv st h nc ns (h a) 7 2) := am_u e_97_18
theorem e_97_21 : pg_code 97 21 = some (.if_icmp .ge 39, 3, 60, 0) := by decide +kernel
theorem u_97_21 {a b : Int32} {lv : am_L} {st : List Value} : am_W G (am_M G d) 97 K 21 lv (.int b :: .int a :: st) h nc ns = (am_br (b ≤ a) (am_W G (am_M G d) 97 K 60 lv st h nc ns) (am_W G (am_M G d) 97 K 24 lv st h nc ns)) := am_u e_97_21
theorem e_97_24 : pg_code 97 24 = some (.aload_n 0, 1, 0, 0) := by decide +kernel
theorem u_97_24 {a : Nat} {lv : am_L} {st : List Value} : am_W G (am_M G d) 97 K 24 (some (.ref a) :: lv) st h nc ns = (am_W G (am_M G d) 97 K 25 (some (.ref a) :: lv) (.ref a :: st) h nc ns) := am_u e_97_24
theorem e_97_25 : pg_code 97 25 = some (.getfield 78, 3, 7, 29) := by decide +kernel
theorem u_97_25 {a : Nat} {lv : am_L} {st : List Value} : am_W G (am_M G d) 97 K 25 lv (.ref a :: st) h nc ns = (f_gf G d 97 K 28 lv st h nc ns (h a) 7 29) := am_u e_97_25
theorem e_97_28 : pg_code 97 28 = some (.iload_n 1, 1, 0, 0) := by decide +kernel
theorem u_97_28 {a : Int32} {z0 : Option Value} {lv : am_L} {st : List Value} : am_W G (am_M G d) 97 K 28 (z0 :: some (.int a) :: lv) st h nc ns = (am_W G (am_M G d) 97 K 29 (z0 :: some (.int a) :: lv) (.int a :: st) h nc ns) := am_u e_97_28
theorem e_97_29 : pg_code 97 29 = some (.aload_n 0, 1, 0, 0) := by decide +kernel
theorem u_97_29 {a : Nat} {lv : am_L} {st : List Value} : am_W G (am_M G d) 97 K 29 (some (.ref a) :: lv) st h nc ns = (am_W G (am_M G d) 97 K 30 (some (.ref a) :: lv) (.ref a :: st) h nc ns) := am_u e_97_29
theorem e_97_30 : pg_code 97 30 = some (.iload_n 1, 1, 0, 0) := by decide +kernel
theorem u_97_30 {a : Int32} {z0 : Option Value} {lv : am_L} {st : List Value} : am_W G (am_M G d) 97 K 30 (z0 :: some (.int a) :: lv) st h nc ns = (am_W G (am_M G d) 97 K 31 (z0 :: some (.int a) :: lv) (.int a :: st) h nc ns) := am_u e_97_30
theorem e_97_31 : pg_code 97 31 = some (.invokevirtual 159, 3, 98, 2) := by decide +kernel
theorem u_97_31 {a : Nat} {v0 : Value} {lv : am_L} {st : List Value} : am_W G (am_M G d) 97 K 31 lv (v0 :: .ref a :: st) h nc ns = ((am_words st ≤ 8 ∧ nc + 0 ≤ 0 ∧ ns + 0 ≤ 0 ∧ f_rc (h a) 7) ∧ am_M G d 98 [.ref a, v0] h (am_back 97 K (am_W G (am_M G d) 97 K) 98 31 lv st nc ns)) := (am_u e_97_31).trans (f_iv_eq (a := a) (G := G) (d := d) (k := 97) (K := K) (pc := 31) (lv := lv) (st := st) (h := h) (nc := nc) (ns := ns) (x := 98) (X := am_W G (am_M G d) 97 K) [v0] (by decide) rfl)
theorem e_97_34 : pg_code 97 34 = some (.bastore, 1, 0, 0) := by decide +kernel
theorem u_97_34 {a : Nat} {j b : Int32} {lv : am_L} {st : List Value} : am_W G (am_M G d) 97 K 34 lv (.int b :: .int j :: .ref a :: st) h nc ns = (f_is G d 97 K 35 lv st h nc ns (h a) .boolean a j (vp_nar .boolean b)) := am_u e_97_34
theorem e_97_35 : pg_code 97 35 = some (.aload_n 0, 1, 0, 0) := by decide +kernel
theorem u_97_35 {a : Nat} {lv : am_L} {st : List Value} : am_W G (am_M G d) 97 K 35 (some (.ref a) :: lv) st h nc ns = (am_W G (am_M G d) 97 K 36 (some (.ref a) :: lv) (.ref a :: st) h nc ns) := am_u e_97_35
theorem e_97_36 : pg_code 97 36 = some (.getfield 78, 3, 7, 29) := by decide +kernel
theorem u_97_36 {a : Nat} {lv : am_L} {st : List Value} : am_W G (am_M G d) 97 K 36 lv (.ref a :: st) h nc ns = (f_gf G d 97 K 39 lv st h nc ns (h a) 7 29) := am_u e_97_36
theorem e_97_39 : pg_code 97 39 = some (.iload_n 1, 1, 0, 0) := by decide +kernel
theorem u_97_39 {a : Int32} {z0 : Option Value} {lv : am_L} {st : List Value} : am_W G (am_M G d) 97 K 39 (z0 :: some (.int a) :: lv) st h nc ns = (am_W G (am_M G d) 97 K 40 (z0 :: some (.int a) :: lv) (.int a :: st) h nc ns) := am_u e_97_39
theorem e_97_40 : pg_code 97 40 = some (.baload, 1, 0, 0) := by decide +kernel
theorem u_97_40 {a : Nat} {j : Int32} {lv : am_L} {st : List Value} : am_W G (am_M G d) 97 K 40 lv (.int j :: .ref a :: st) h nc ns = (f_ia G d 97 K 41 lv st h nc ns (h a) .boolean j) := am_u e_97_40
theorem e_97_41 : pg_code 97 41 = some (.ifCond .eq 13, 3, 54, 0) := by decide +kernel
theorem u_97_41 {a : Int32} {lv : am_L} {st : List Value} : am_W G (am_M G d) 97 K 41 lv (.int a :: st) h nc ns = (am_br (a = 0) (am_W G (am_M G d) 97 K 54 lv st h nc ns) (am_W G (am_M G d) 97 K 44 lv st h nc ns)) := am_u e_97_41
theorem e_97_44 : pg_code 97 44 = some (.aload_n 0, 1, 0, 0) := by decide +kernel
theorem u_97_44 {a : Nat} {lv : am_L} {st : List Value} : am_W G (am_M G d) 97 K 44 (some (.ref a) :: lv) st h nc ns = (am_W G (am_M G d) 97 K 45 (some (.ref a) :: lv) (.ref a :: st) h nc ns) := am_u e_97_44
theorem e_97_45 : pg_code 97 45 = some (.getfield 23, 3, 7, 8) := by decide +kernel
theorem u_97_45 {a : Nat} {lv : am_L} {st : List Value} : am_W G (am_M G d) 97 K 45 lv (.ref a :: st) h nc ns = (f_gf G d 97 K 48 lv st h nc ns (h a) 7 8) := am_u e_97_45
theorem e_97_48 : pg_code 97 48 = some (.iload_n 1, 1, 0, 0) := by decide +kernel
theorem u_97_48 {a : Int32} {z0 : Option Value} {lv : am_L} {st : List Value} : am_W G (am_M G d) 97 K 48 (z0 :: some (.int a) :: lv) st h nc ns = (am_W G (am_M G d) 97 K 49 (z0 :: some (.int a) :: lv) (.int a :: st) h nc ns) := am_u e_97_48
theorem e_97_49 : pg_code 97 49 = some (.invokestatic 116, 3, 91, 1) := by decide +kernel
theorem u_97_49 {v0 : Value} {lv : am_L} {st : List Value} : am_W G (am_M G d) 97 K 49 lv (v0 :: st) h nc ns = ((am_words st ≤ 8 ∧ nc + 0 ≤ 0 ∧ ns + 0 ≤ 0) ∧ am_M G d 91 [v0] h (am_back 97 K (am_W G (am_M G d) 97 K) 91 49 lv st nc ns)) := (am_u e_97_49).trans (f_st_eq (G := G) (d := d) (k := 97) (K := K) (pc := 49) (lv := lv) (st := st) (h := h) (nc := nc) (ns := ns) (x := 91) (X := am_W G (am_M G d) 97 K) [v0] (by decide) rfl)
theorem e_97_52 : pg_code 97 52 = some (.iconst 3, 1, 0, 0) := by decide +kernel
theorem u_97_52 {lv : am_L} {st : List Value} : am_W G (am_M G d) 97 K 52 lv st h nc ns = (am_W G (am_M G d) 97 K 53 lv (.int 3 :: st) h nc ns) := am_u e_97_52
theorem e_97_53 : pg_code 97 53 = some (.iastore, 1, 0, 0) := by decide +kernel
theorem u_97_53 {a : Nat} {j b : Int32} {lv : am_L} {st : List Value} : am_W G (am_M G d) 97 K 53 lv (.int b :: .int j :: .ref a :: st) h nc ns = (f_is G d 97 K 54 lv st h nc ns (h a) .int a j b) := am_u e_97_53
theorem e_97_54 : pg_code 97 54 = some (.iinc 1 1, 3, 0, 0) := by decide +kernel
theorem u_97_54 {a : Int32} {z0 : Option Value} {lv : am_L} {st : List Value} : am_W G (am_M G d) 97 K 54 (z0 :: some (.int a) :: lv) st h nc ns = (am_W G (am_M G d) 97 K 57 (am_st1 (z0 :: some (.int a) :: lv) 1 (.int (a + Int32.ofInt 1))) st h nc ns) := (am_u e_97_54).trans (f_t (by decide +kernel))
theorem e_97_57 : pg_code 97 57 = some (.goto (-41), 3, 16, 0) := by decide +kernel
theorem u_97_57 {lv : am_L} {st : List Value} : am_W G (am_M G d) 97 K 57 lv st h nc ns = (am_W G (am_M G d) 97 K 16 lv st h nc ns) := am_u e_97_57
theorem e_97_60 : pg_code 97 60 = some (.aload_n 0, 1, 0, 0) := by decide +kernel
theorem u_97_60 {a : Nat} {lv : am_L} {st : List Value} : am_W G (am_M G d) 97 K 60 (some (.ref a) :: lv) st h nc ns = (am_W G (am_M G d) 97 K 61 (some (.ref a) :: lv) (.ref a :: st) h nc ns) := am_u e_97_60
theorem e_97_61 : pg_code 97 61 = some (.invokevirtual 162, 3, 101, 1) := by decide +kernel
theorem u_97_61 {a : Nat} {lv : am_L} {st : List Value} : am_W G (am_M G d) 97 K 61 lv (.ref a :: st) h nc ns = ((am_words st ≤ 8 ∧ nc + 0 ≤ 0 ∧ ns + 0 ≤ 0 ∧ f_rc (h a) 7) ∧ am_M G d 101 [.ref a] h (am_back 97 K (am_W G (am_M G d) 97 K) 101 61 lv st nc ns)) := (am_u e_97_61).trans (f_iv_eq (a := a) (G := G) (d := d) (k := 97) (K := K) (pc := 61) (lv := lv) (st := st) (h := h) (nc := nc) (ns := ns) (x := 101) (X := am_W G (am_M G d) 97 K) [] (by decide) rfl)
theorem e_97_64 : pg_code 97 64 = some (.istore_n 1, 1, 0, 0) := by decide +kernel
theorem u_97_64 {a : Int32} {lv : am_L} {st : List Value} : am_W G (am_M G d) 97 K 64 lv (.int a :: st) h nc ns = (am_W G (am_M G d) 97 K 65 (am_st1 lv 1 (.int a)) st h nc ns) := (am_u e_97_64).trans (f_t (by decide +kernel))
theorem e_97_65 : pg_code 97 65 = some (.iload_n 1, 1, 0, 0) := by decide +kernel
theorem u_97_65 {a : Int32} {z0 : Option Value} {lv : am_L} {st : List Value} : am_W G (am_M G d) 97 K 65 (z0 :: some (.int a) :: lv) st h nc ns = (am_W G (am_M G d) 97 K 66 (z0 :: some (.int a) :: lv) (.int a :: st) h nc ns) := am_u e_97_65
theorem e_97_66 : pg_code 97 66 = some (.ifCond .lt 16, 3, 82, 0) := by decide +kernel
theorem u_97_66 {a : Int32} {lv : am_L} {st : List Value} : am_W G (am_M G d) 97 K 66 lv (.int a :: st) h nc ns = (am_br (a < 0) (am_W G (am_M G d) 97 K 82 lv st h nc ns) (am_W G (am_M G d) 97 K 69 lv st h nc ns)) := am_u e_97_66
theorem e_97_69 : pg_code 97 69 = some (.aload_n 0, 1, 0, 0) := by decide +kernel
theorem u_97_69 {a : Nat} {lv : am_L} {st : List Value} : am_W G (am_M G d) 97 K 69 (some (.ref a) :: lv) st h nc ns = (am_W G (am_M G d) 97 K 70 (some (.ref a) :: lv) (.ref a :: st) h nc ns) := am_u e_97_69
theorem e_97_70 : pg_code 97 70 = some (.iload_n 1, 1, 0, 0) := by decide +kernel
theorem u_97_70 {a : Int32} {z0 : Option Value} {lv : am_L} {st : List Value} : am_W G (am_M G d) 97 K 70 (z0 :: some (.int a) :: lv) st h nc ns = (am_W G (am_M G d) 97 K 71 (z0 :: some (.int a) :: lv) (.int a :: st) h nc ns) := am_u e_97_70
theorem e_97_71 : pg_code 97 71 = some (.invokevirtual 166, 3, 103, 2) := by decide +kernel
theorem u_97_71 {a : Nat} {v0 : Value} {lv : am_L} {st : List Value} : am_W G (am_M G d) 97 K 71 lv (v0 :: .ref a :: st) h nc ns = ((am_words st ≤ 8 ∧ nc + 0 ≤ 0 ∧ ns + 0 ≤ 0 ∧ f_rc (h a) 7) ∧ am_M G d 103 [.ref a, v0] h (am_back 97 K (am_W G (am_M G d) 97 K) 103 71 lv st nc ns)) := (am_u e_97_71).trans (f_iv_eq (a := a) (G := G) (d := d) (k := 97) (K := K) (pc := 71) (lv := lv) (st := st) (h := h) (nc := nc) (ns := ns) (x := 103) (X := am_W G (am_M G d) 97 K) [v0] (by decide) rfl)
theorem e_97_74 : pg_code 97 74 = some (.aload_n 0, 1, 0, 0) := by decide +kernel
theorem u_97_74 {a : Nat} {lv : am_L} {st : List Value} : am_W G (am_M G d) 97 K 74 (some (.ref a) :: lv) st h nc ns = (am_W G (am_M G d) 97 K 75 (some (.ref a) :: lv) (.ref a :: st) h nc ns) := am_u e_97_74
theorem e_97_75 : pg_code 97 75 = some (.invokevirtual 162, 3, 101, 1) := by decide +kernel
theorem u_97_75 {a : Nat} {lv : am_L} {st : List Value} : am_W G (am_M G d) 97 K 75 lv (.ref a :: st) h nc ns = ((am_words st ≤ 8 ∧ nc + 0 ≤ 0 ∧ ns + 0 ≤ 0 ∧ f_rc (h a) 7) ∧ am_M G d 101 [.ref a] h (am_back 97 K (am_W G (am_M G d) 97 K) 101 75 lv st nc ns)) := (am_u e_97_75).trans (f_iv_eq (a := a) (G := G) (d := d) (k := 97) (K := K) (pc := 75) (lv := lv) (st := st) (h := h) (nc := nc) (ns := ns) (x := 101) (X := am_W G (am_M G d) 97 K) [] (by decide) rfl)
theorem e_97_78 : pg_code 97 78 = some (.istore_n 1, 1, 0, 0) := by decide +kernel
theorem u_97_78 {a : Int32} {lv : am_L} {st : List Value} : am_W G (am_M G d) 97 K 78 lv (.int a :: st) h nc ns = (am_W G (am_M G d) 97 K 79 (am_st1 lv 1 (.int a)) st h nc ns) := (am_u e_97_78).trans (f_t (by decide +kernel))
theorem e_97_79 : pg_code 97 79 = some (.goto (-14), 3, 65, 0) := by decide +kernel
theorem u_97_79 {lv : am_L} {st : List Value} : am_W G (am_M G d) 97 K 79 lv st h nc ns = (am_W G (am_M G d) 97 K 65 lv st h nc ns) := am_u e_97_79
theorem e_97_82 : pg_code 97 82 = some (.aload_n 0, 1, 0, 0) := by decide +kernel
theorem u_97_82 {a : Nat} {lv : am_L} {st : List Value} : am_W G (am_M G d) 97 K 82 (some (.ref a) :: lv) st h nc ns = (am_W G (am_M G d) 97 K 83 (some (.ref a) :: lv) (.ref a :: st) h nc ns) := am_u e_97_82
theorem e_97_83 : pg_code 97 83 = some (.dup, 1, 0, 0) := by decide +kernel
theorem u_97_83 {a : Nat} {lv : am_L} {st : List Value} : am_W G (am_M G d) 97 K 83 lv (.ref a :: st) h nc ns = (am_W G (am_M G d) 97 K 84 lv (.ref a :: .ref a :: st) h nc ns) := (am_u e_97_83).trans (f_t rfl)
theorem e_97_84 : pg_code 97 84 = some (.getfield 169, 3, 7, 27) := by decide +kernel
theorem u_97_84 {a : Nat} {lv : am_L} {st : List Value} : am_W G (am_M G d) 97 K 84 lv (.ref a :: st) h nc ns = (f_gf G d 97 K 87 lv st h nc ns (h a) 7 27) := am_u e_97_84
theorem e_97_87 : pg_code 97 87 = some (.aload_n 0, 1, 0, 0) := by decide +kernel
theorem u_97_87 {a : Nat} {lv : am_L} {st : List Value} : am_W G (am_M G d) 97 K 87 (some (.ref a) :: lv) st h nc ns = (am_W G (am_M G d) 97 K 88 (some (.ref a) :: lv) (.ref a :: st) h nc ns) := am_u e_97_87
theorem e_97_88 : pg_code 97 88 = some (.getfield 143, 3, 7, 26) := by decide +kernel
theorem u_97_88 {a : Nat} {lv : am_L} {st : List Value} : am_W G (am_M G d) 97 K 88 lv (.ref a :: st) h nc ns = (f_gf G d 97 K 91 lv st h nc ns (h a) 7 26) := am_u e_97_88
theorem e_97_91 : pg_code 97 91 = some (.iadd, 1, 0, 0) := by decide +kernel
theorem u_97_91 {a b : Int32} {lv : am_L} {st : List Value} : am_W G (am_M G d) 97 K 91 lv (.int b :: .int a :: st) h nc ns = (am_W G (am_M G d) 97 K 92 lv (.int (a + b) :: st) h nc ns) := am_u e_97_91
theorem e_97_92 : pg_code 97 92 = some (.putfield 169, 3, 7, 27) := by decide +kernel
theorem u_97_92 {a : Nat} {b : Int32} {lv : am_L} {st : List Value} : am_W G (am_M G d) 97 K 92 lv (.int b :: .ref a :: st) h nc ns = (f_pf G d 97 K 95 lv st h nc ns (h a) 7 27 a (.int b)) := (am_u e_97_92).trans (f_pf_eq ⟨rfl, rfl⟩)
theorem e_97_95 : pg_code 97 95 = some (.aload_n 0, 1, 0, 0) := by decide +kernel
theorem u_97_95 {a : Nat} {lv : am_L} {st : List Value} : am_W G (am_M G d) 97 K 95 (some (.ref a) :: lv) st h nc ns = (am_W G (am_M G d) 97 K 96 (some (.ref a) :: lv) (.ref a :: st) h nc ns) := am_u e_97_95
theorem e_97_96 : pg_code 97 96 = some (.getfield 143, 3, 7, 26) := by decide +kernel
theorem u_97_96 {a : Nat} {lv : am_L} {st : List Value} : am_W G (am_M G d) 97 K 96 lv (.ref a :: st) h nc ns = (f_gf G d 97 K 99 lv st h nc ns (h a) 7 26) := am_u e_97_96
theorem e_97_99 : pg_code 97 99 = some (.ireturn, 1, 0, 0) := by decide +kernel
theorem u_97_99 {a : Int32} {lv : am_L} : am_W G (am_M G d) 97 K 99 lv [.int a] h nc ns = (K (.inl (some (.int a))) h) := (am_u e_97_99).trans (f_t ⟨rfl, .int, rfl, rfl⟩)
theorem e_98_0 : pg_code 98 0 = some (.aload_n 0, 1, 0, 0) := by decide +kernel
theorem u_98_0 {a : Nat} {lv : am_L} {st : List Value} : am_W G (am_M G d) 98 K 0 (some (.ref a) :: lv) st h nc ns = (am_W G (am_M G d) 98 K 1 (some (.ref a) :: lv) (.ref a :: st) h nc ns) := am_u e_98_0
theorem e_98_1 : pg_code 98 1 = some (.iload_n 1, 1, 0, 0) := by decide +kernel
theorem u_98_1 {a : Int32} {z0 : Option Value} {lv : am_L} {st : List Value} : am_W G (am_M G d) 98 K 1 (z0 :: some (.int a) :: lv) st h nc ns = (am_W G (am_M G d) 98 K 2 (z0 :: some (.int a) :: lv) (.int a :: st) h nc ns) := am_u e_98_1
theorem e_98_2 : pg_code 98 2 = some (.invokevirtual 135, 3, 99, 2) := by decide +kernel
theorem u_98_2 {a : Nat} {v0 : Value} {lv : am_L} {st : List Value} : am_W G (am_M G d) 98 K 2 lv (v0 :: .ref a :: st) h nc ns = ((am_words st ≤ 8 ∧ nc + 0 ≤ 0 ∧ ns + 0 ≤ 0 ∧ f_rc (h a) 7) ∧ am_M G d 99 [.ref a, v0] h (am_back 98 K (am_W G (am_M G d) 98 K) 99 2 lv st nc ns)) := (am_u e_98_2).trans (f_iv_eq (a := a) (G := G) (d := d) (k := 98) (K := K) (pc := 2) (lv := lv) (st := st) (h := h) (nc := nc) (ns := ns) (x := 99) (X := am_W G (am_M G d) 98 K) [v0] (by decide) rfl)
theorem e_98_5 : pg_code 98 5 = some (.aload_n 0, 1, 0, 0) := by decide +kernel
theorem u_98_5 {a : Nat} {lv : am_L} {st : List Value} : am_W G (am_M G d) 98 K 5 (some (.ref a) :: lv) st h nc ns = (am_W G (am_M G d) 98 K 6 (some (.ref a) :: lv) (.ref a :: st) h nc ns) := am_u e_98_5
theorem e_98_6 : pg_code 98 6 = some (.getfield 81, 3, 7, 30) := by decide +kernel
theorem u_98_6 {a : Nat} {lv : am_L} {st : List Value} : am_W G (am_M G d) 98 K 6 lv (.ref a :: st) h nc ns = (f_gf G d 98 K 9 lv st h nc ns (h a) 7 30) := am_u e_98_6
theorem e_98_9 : pg_code 98 9 = some (.iload_n 1, 1, 0, 0) := by decide +kernel
theorem u_98_9 {a : Int32} {z0 : Option Value} {lv : am_L} {st : List Value} : am_W G (am_M G d) 98 K 9 (z0 :: some (.int a) :: lv) st h nc ns = (am_W G (am_M G d) 98 K 10 (z0 :: some (.int a) :: lv) (.int a :: st) h nc ns) := am_u e_98_9
theorem e_98_10 : pg_code 98 10 = some (.iaload, 1, 0, 0) := by decide +kernel
theorem u_98_10 {a : Nat} {j : Int32} {lv : am_L} {st : List Value} : am_W G (am_M G d) 98 K 10 lv (.int j :: .ref a :: st) h nc ns = (f_ia G d 98 K 11 lv st h nc ns (h a) .int j) := am_u e_98_10
theorem e_98_11 : pg_code 98 11 = some (.ifCond .le 7, 3, 18, 0) := by decide +kernel
theorem u_98_11 {a : Int32} {lv : am_L} {st : List Value} : am_W G (am_M G d) 98 K 11 lv (.int a :: st) h nc ns = (am_br (a ≤ 0) (am_W G (am_M G d) 98 K 18 lv st h nc ns) (am_W G (am_M G d) 98 K 14 lv st h nc ns)) := am_u e_98_11
theorem e_98_14 : pg_code 98 14 = some (.iconst 1, 1, 0, 0) := by decide +kernel
theorem u_98_14 {lv : am_L} {st : List Value} : am_W G (am_M G d) 98 K 14 lv st h nc ns = (am_W G (am_M G d) 98 K 15 lv (.int 1 :: st) h nc ns) := am_u e_98_14
theorem e_98_15 : pg_code 98 15 = some (.goto 4, 3, 19, 0) := by decide +kernel
theorem u_98_15 {lv : am_L} {st : List Value} : am_W G (am_M G d) 98 K 15 lv st h nc ns = (am_W G (am_M G d) 98 K 19 lv st h nc ns) := am_u e_98_15
theorem e_98_18 : pg_code 98 18 = some (.iconst 0, 1, 0, 0) := by decide +kernel
theorem u_98_18 {lv : am_L} {st : List Value} : am_W G (am_M G d) 98 K 18 lv st h nc ns = (am_W G (am_M G d) 98 K 19 lv (.int 0 :: st) h nc ns) := am_u e_98_18
theorem e_98_19 : pg_code 98 19 = some (.ireturn, 1, 0, 0) := by decide +kernel
theorem u_98_19 {a : Int32} {lv : am_L} : am_W G (am_M G d) 98 K 19 lv [.int a] h nc ns = (narrow .boolean (.int a) = .int a ∧ K (.inl (some (.int a))) h) := (am_u e_98_19).trans (f_z_eq rfl)
theorem e_99_0 : pg_code 99 0 = some (.iconst 0, 1, 0, 0) := by decide +kernel
theorem u_99_0 {lv : am_L} {st : List Value} : am_W G (am_M G d) 99 K 0 lv st h nc ns = (am_W G (am_M G d) 99 K 1 lv (.int 0 :: st) h nc ns) := am_u e_99_0
theorem e_99_1 : pg_code 99 1 = some (.istore_n 2, 1, 0, 0) := by decide +kernel
theorem u_99_1 {a : Int32} {lv : am_L} {st : List Value} : am_W G (am_M G d) 99 K 1 lv (.int a :: st) h nc ns = (am_W G (am_M G d) 99 K 2 (am_st1 lv 2 (.int a)) st h nc ns) := (am_u e_99_1).trans (f_t (by decide +kernel))
theorem e_99_2 : pg_code 99 2 = some (.iload_n 2, 1, 0, 0) := by decide +kernel
theorem u_99_2 {a : Int32} {z0 : Option Value} {z1 : Option Value} {lv : am_L} {st : List Value} : am_W G (am_M G d) 99 K 2 (z0 :: z1 :: some (.int a) :: lv) st h nc ns = (am_W G (am_M G d) 99 K 3 (z0 :: z1 :: some (.int a) :: lv) (.int a :: st) h nc ns) := am_u e_99_2
theorem e_99_3 : pg_code 99 3 = some (.aload_n 0, 1, 0, 0) := by decide +kernel
theorem u_99_3 {a : Nat} {lv : am_L} {st : List Value} : am_W G (am_M G d) 99 K 3 (some (.ref a) :: lv) st h nc ns = (am_W G (am_M G d) 99 K 4 (some (.ref a) :: lv) (.ref a :: st) h nc ns) := am_u e_99_3
theorem e_99_4 : pg_code 99 4 = some (.getfield 119, 3, 7, 2) := by decide +kernel
theorem u_99_4 {a : Nat} {lv : am_L} {st : List Value} : am_W G (am_M G d) 99 K 4 lv (.ref a :: st) h nc ns = (f_gf G d 99 K 7 lv st h nc ns (h a) 7 2) := am_u e_99_4
theorem e_99_7 : pg_code 99 7 = some (.if_icmp .ge 16, 3, 23, 0) := by decide +kernel
theorem u_99_7 {a b : Int32} {lv : am_L} {st : List Value} : am_W G (am_M G d) 99 K 7 lv (.int b :: .int a :: st) h nc ns = (am_br (b ≤ a) (am_W G (am_M G d) 99 K 23 lv st h nc ns) (am_W G (am_M G d) 99 K 10 lv st h nc ns)) := am_u e_99_7
theorem e_99_10 : pg_code 99 10 = some (.aload_n 0, 1, 0, 0) := by decide +kernel
theorem u_99_10 {a : Nat} {lv : am_L} {st : List Value} : am_W G (am_M G d) 99 K 10 (some (.ref a) :: lv) st h nc ns = (am_W G (am_M G d) 99 K 11 (some (.ref a) :: lv) (.ref a :: st) h nc ns) := am_u e_99_10
theorem e_99_11 : pg_code 99 11 = some (.getfield 81, 3, 7, 30) := by decide +kernel
theorem u_99_11 {a : Nat} {lv : am_L} {st : List Value} : am_W G (am_M G d) 99 K 11 lv (.ref a :: st) h nc ns = (f_gf G d 99 K 14 lv st h nc ns (h a) 7 30) := am_u e_99_11
theorem e_99_14 : pg_code 99 14 = some (.iload_n 2, 1, 0, 0) := by decide +kernel
theorem u_99_14 {a : Int32} {z0 : Option Value} {z1 : Option Value} {lv : am_L} {st : List Value} : am_W G (am_M G d) 99 K 14 (z0 :: z1 :: some (.int a) :: lv) st h nc ns = (am_W G (am_M G d) 99 K 15 (z0 :: z1 :: some (.int a) :: lv) (.int a :: st) h nc ns) := am_u e_99_14
theorem e_99_15 : pg_code 99 15 = some (.iconst 0, 1, 0, 0) := by decide +kernel
theorem u_99_15 {lv : am_L} {st : List Value} : am_W G (am_M G d) 99 K 15 lv st h nc ns = (am_W G (am_M G d) 99 K 16 lv (.int 0 :: st) h nc ns) := am_u e_99_15
theorem e_99_16 : pg_code 99 16 = some (.iastore, 1, 0, 0) := by decide +kernel
theorem u_99_16 {a : Nat} {j b : Int32} {lv : am_L} {st : List Value} : am_W G (am_M G d) 99 K 16 lv (.int b :: .int j :: .ref a :: st) h nc ns = (f_is G d 99 K 17 lv st h nc ns (h a) .int a j b) := am_u e_99_16
theorem e_99_17 : pg_code 99 17 = some (.iinc 2 1, 3, 0, 0) := by decide +kernel
theorem u_99_17 {a : Int32} {z0 : Option Value} {z1 : Option Value} {lv : am_L} {st : List Value} : am_W G (am_M G d) 99 K 17 (z0 :: z1 :: some (.int a) :: lv) st h nc ns = (am_W G (am_M G d) 99 K 20 (am_st1 (z0 :: z1 :: some (.int a) :: lv) 2 (.int (a + Int32.ofInt 1))) st h nc ns) := (am_u e_99_17).trans (f_t (by decide +kernel))
theorem e_99_20 : pg_code 99 20 = some (.goto (-18), 3, 2, 0) := by decide +kernel
theorem u_99_20 {lv : am_L} {st : List Value} : am_W G (am_M G d) 99 K 20 lv st h nc ns = (am_W G (am_M G d) 99 K 2 lv st h nc ns) := am_u e_99_20
theorem e_99_23 : pg_code 99 23 = some (.iconst 1, 1, 0, 0) := by decide +kernel
theorem u_99_23 {lv : am_L} {st : List Value} : am_W G (am_M G d) 99 K 23 lv st h nc ns = (am_W G (am_M G d) 99 K 24 lv (.int 1 :: st) h nc ns) := am_u e_99_23
theorem e_99_24 : pg_code 99 24 = some (.istore_n 2, 1, 0, 0) := by decide +kernel
theorem u_99_24 {a : Int32} {lv : am_L} {st : List Value} : am_W G (am_M G d) 99 K 24 lv (.int a :: st) h nc ns = (am_W G (am_M G d) 99 K 25 (am_st1 lv 2 (.int a)) st h nc ns) := (am_u e_99_24).trans (f_t (by decide +kernel))
theorem e_99_25 : pg_code 99 25 = some (.iconst 1, 1, 0, 0) := by decide +kernel
theorem u_99_25 {lv : am_L} {st : List Value} : am_W G (am_M G d) 99 K 25 lv st h nc ns = (am_W G (am_M G d) 99 K 26 lv (.int 1 :: st) h nc ns) := am_u e_99_25
theorem e_99_26 : pg_code 99 26 = some (.istore_n 3, 1, 0, 0) := by decide +kernel
theorem u_99_26 {a : Int32} {lv : am_L} {st : List Value} : am_W G (am_M G d) 99 K 26 lv (.int a :: st) h nc ns = (am_W G (am_M G d) 99 K 27 (am_st1 lv 3 (.int a)) st h nc ns) := (am_u e_99_26).trans (f_t (by decide +kernel))
theorem e_99_27 : pg_code 99 27 = some (.iload_n 2, 1, 0, 0) := by decide +kernel
theorem u_99_27 {a : Int32} {z0 : Option Value} {z1 : Option Value} {lv : am_L} {st : List Value} : am_W G (am_M G d) 99 K 27 (z0 :: z1 :: some (.int a) :: lv) st h nc ns = (am_W G (am_M G d) 99 K 28 (z0 :: z1 :: some (.int a) :: lv) (.int a :: st) h nc ns) := am_u e_99_27
theorem e_99_28 : pg_code 99 28 = some (.ifCond .eq 99, 3, 127, 0) := by decide +kernel
theorem u_99_28 {a : Int32} {lv : am_L} {st : List Value} : am_W G (am_M G d) 99 K 28 lv (.int a :: st) h nc ns = (am_br (a = 0) (am_W G (am_M G d) 99 K 127 lv st h nc ns) (am_W G (am_M G d) 99 K 31 lv st h nc ns)) := am_u e_99_28
theorem e_99_31 : pg_code 99 31 = some (.iconst 0, 1, 0, 0) := by decide +kernel
theorem u_99_31 {lv : am_L} {st : List Value} : am_W G (am_M G d) 99 K 31 lv st h nc ns = (am_W G (am_M G d) 99 K 32 lv (.int 0 :: st) h nc ns) := am_u e_99_31
theorem e_99_32 : pg_code 99 32 = some (.istore_n 2, 1, 0, 0) := by decide +kernel
theorem u_99_32 {a : Int32} {lv : am_L} {st : List Value} : am_W G (am_M G d) 99 K 32 lv (.int a :: st) h nc ns = (am_W G (am_M G d) 99 K 33 (am_st1 lv 2 (.int a)) st h nc ns) := (am_u e_99_32).trans (f_t (by decide +kernel))
theorem e_99_33 : pg_code 99 33 = some (.iconst 0, 1, 0, 0) := by decide +kernel
theorem u_99_33 {lv : am_L} {st : List Value} : am_W G (am_M G d) 99 K 33 lv st h nc ns = (am_W G (am_M G d) 99 K 34 lv (.int 0 :: st) h nc ns) := am_u e_99_33
theorem e_99_34 : pg_code 99 34 = some (.istore 4, 2, 0, 0) := by decide +kernel
theorem u_99_34 {a : Int32} {lv : am_L} {st : List Value} : am_W G (am_M G d) 99 K 34 lv (.int a :: st) h nc ns = (am_W G (am_M G d) 99 K 36 (am_st1 lv 4 (.int a)) st h nc ns) := (am_u e_99_34).trans (f_t (by decide +kernel))
theorem e_99_36 : pg_code 99 36 = some (.iload 4, 2, 0, 0) := by decide +kernel
theorem u_99_36 {a : Int32} {z0 : Option Value} {z1 : Option Value} {z2 : Option Value} {z3 : Option Value} {lv : am_L} {st : List Value} : am_W G (am_M G d) 99 K 36 (z0 :: z1 :: z2 :: z3 :: some (.int a) :: lv) st h nc ns = (am_W G (am_M G d) 99 K 38 (z0 :: z1 :: z2 :: z3 :: some (.int a) :: lv) (.int a :: st) h nc ns) := am_u e_99_36
theorem e_99_38 : pg_code 99 38 = some (.aload_n 0, 1, 0, 0) := by decide +kernel
theorem u_99_38 {a : Nat} {lv : am_L} {st : List Value} : am_W G (am_M G d) 99 K 38 (some (.ref a) :: lv) st h nc ns = (am_W G (am_M G d) 99 K 39 (some (.ref a) :: lv) (.ref a :: st) h nc ns) := am_u e_99_38
theorem e_99_39 : pg_code 99 39 = some (.getfield 119, 3, 7, 2) := by decide +kernel
theorem u_99_39 {a : Nat} {lv : am_L} {st : List Value} : am_W G (am_M G d) 99 K 39 lv (.ref a :: st) h nc ns = (f_gf G d 99 K 42 lv st h nc ns (h a) 7 2) := am_u e_99_39
theorem e_99_42 : pg_code 99 42 = some (.if_icmp .ge 79, 3, 121, 0) := by decide +kernel
theorem u_99_42 {a b : Int32} {lv : am_L} {st : List Value} : am_W G (am_M G d) 99 K 42 lv (.int b :: .int a :: st) h nc ns = (am_br (b ≤ a) (am_W G (am_M G d) 99 K 121 lv st h nc ns) (am_W G (am_M G d) 99 K 45 lv st h nc ns)) := am_u e_99_42
theorem e_99_45 : pg_code 99 45 = some (.aload_n 0, 1, 0, 0) := by decide +kernel
theorem u_99_45 {a : Nat} {lv : am_L} {st : List Value} : am_W G (am_M G d) 99 K 45 (some (.ref a) :: lv) st h nc ns = (am_W G (am_M G d) 99 K 46 (some (.ref a) :: lv) (.ref a :: st) h nc ns) := am_u e_99_45
theorem e_99_46 : pg_code 99 46 = some (.getfield 81, 3, 7, 30) := by decide +kernel
theorem u_99_46 {a : Nat} {lv : am_L} {st : List Value} : am_W G (am_M G d) 99 K 46 lv (.ref a :: st) h nc ns = (f_gf G d 99 K 49 lv st h nc ns (h a) 7 30) := am_u e_99_46
theorem e_99_49 : pg_code 99 49 = some (.iload 4, 2, 0, 0) := by decide +kernel
theorem u_99_49 {a : Int32} {z0 : Option Value} {z1 : Option Value} {z2 : Option Value} {z3 : Option Value} {lv : am_L} {st : List Value} : am_W G (am_M G d) 99 K 49 (z0 :: z1 :: z2 :: z3 :: some (.int a) :: lv) st h nc ns = (am_W G (am_M G d) 99 K 51 (z0 :: z1 :: z2 :: z3 :: some (.int a) :: lv) (.int a :: st) h nc ns) := am_u e_99_49
theorem e_99_51 : pg_code 99 51 = some (.iaload, 1, 0, 0) := by decide +kernel
theorem u_99_51 {a : Nat} {j : Int32} {lv : am_L} {st : List Value} : am_W G (am_M G d) 99 K 51 lv (.int j :: .ref a :: st) h nc ns = (f_ia G d 99 K 52 lv st h nc ns (h a) .int j) := am_u e_99_51
theorem e_99_52 : pg_code 99 52 = some (.ifCond .ne 45, 3, 97, 0) := by decide +kernel
theorem u_99_52 {a : Int32} {lv : am_L} {st : List Value} : am_W G (am_M G d) 99 K 52 lv (.int a :: st) h nc ns = (am_br (¬ a = 0) (am_W G (am_M G d) 99 K 97 lv st h nc ns) (am_W G (am_M G d) 99 K 55 lv st h nc ns)) := am_u e_99_52
theorem e_99_55 : pg_code 99 55 = some (.aload_n 0, 1, 0, 0) := by decide +kernel
theorem u_99_55 {a : Nat} {lv : am_L} {st : List Value} : am_W G (am_M G d) 99 K 55 (some (.ref a) :: lv) st h nc ns = (am_W G (am_M G d) 99 K 56 (some (.ref a) :: lv) (.ref a :: st) h nc ns) := am_u e_99_55
theorem e_99_56 : pg_code 99 56 = some (.aload_n 0, 1, 0, 0) := by decide +kernel
theorem u_99_56 {a : Nat} {lv : am_L} {st : List Value} : am_W G (am_M G d) 99 K 56 (some (.ref a) :: lv) st h nc ns = (am_W G (am_M G d) 99 K 57 (some (.ref a) :: lv) (.ref a :: st) h nc ns) := am_u e_99_56
theorem e_99_57 : pg_code 99 57 = some (.getfield 13, 3, 7, 5) := by decide +kernel
theorem u_99_57 {a : Nat} {lv : am_L} {st : List Value} : am_W G (am_M G d) 99 K 57 lv (.ref a :: st) h nc ns = (f_gf G d 99 K 60 lv st h nc ns (h a) 7 5) := am_u e_99_57
theorem e_99_60 : pg_code 99 60 = some (.iload 4, 2, 0, 0) := by decide +kernel
theorem u_99_60 {a : Int32} {z0 : Option Value} {z1 : Option Value} {z2 : Option Value} {z3 : Option Value} {lv : am_L} {st : List Value} : am_W G (am_M G d) 99 K 60 (z0 :: z1 :: z2 :: z3 :: some (.int a) :: lv) st h nc ns = (am_W G (am_M G d) 99 K 62 (z0 :: z1 :: z2 :: z3 :: some (.int a) :: lv) (.int a :: st) h nc ns) := am_u e_99_60
theorem e_99_62 : pg_code 99 62 = some (.invokestatic 116, 3, 91, 1) := by decide +kernel
theorem u_99_62 {v0 : Value} {lv : am_L} {st : List Value} : am_W G (am_M G d) 99 K 62 lv (v0 :: st) h nc ns = ((am_words st ≤ 8 ∧ nc + 0 ≤ 0 ∧ ns + 0 ≤ 0) ∧ am_M G d 91 [v0] h (am_back 99 K (am_W G (am_M G d) 99 K) 91 62 lv st nc ns)) := (am_u e_99_62).trans (f_st_eq (G := G) (d := d) (k := 99) (K := K) (pc := 62) (lv := lv) (st := st) (h := h) (nc := nc) (ns := ns) (x := 91) (X := am_W G (am_M G d) 99 K) [v0] (by decide) rfl)
theorem e_99_65 : pg_code 99 65 = some (.iaload, 1, 0, 0) := by decide +kernel
theorem u_99_65 {a : Nat} {j : Int32} {lv : am_L} {st : List Value} : am_W G (am_M G d) 99 K 65 lv (.int j :: .ref a :: st) h nc ns = (f_ia G d 99 K 66 lv st h nc ns (h a) .int j) := am_u e_99_65
theorem e_99_66 : pg_code 99 66 = some (.iload_n 1, 1, 0, 0) := by decide +kernel
theorem u_99_66 {a : Int32} {z0 : Option Value} {lv : am_L} {st : List Value} : am_W G (am_M G d) 99 K 66 (z0 :: some (.int a) :: lv) st h nc ns = (am_W G (am_M G d) 99 K 67 (z0 :: some (.int a) :: lv) (.int a :: st) h nc ns) := am_u e_99_66
theorem e_99_67 : pg_code 99 67 = some (.iload_n 3, 1, 0, 0) := by decide +kernel
theorem u_99_67 {a : Int32} {z0 : Option Value} {z1 : Option Value} {z2 : Option Value} {lv : am_L} {st : List Value} : am_W G (am_M G d) 99 K 67 (z0 :: z1 :: z2 :: some (.int a) :: lv) st h nc ns = (am_W G (am_M G d) 99 K 68 (z0 :: z1 :: z2 :: some (.int a) :: lv) (.int a :: st) h nc ns) := am_u e_99_67
theorem e_99_68 : pg_code 99 68 = some (.invokevirtual 132, 3, 100, 4) := by decide +kernel
theorem u_99_68 {a : Nat} {v0 v1 v2 : Value} {lv : am_L} {st : List Value} : am_W G (am_M G d) 99 K 68 lv (v2 :: v1 :: v0 :: .ref a :: st) h nc ns = ((am_words st ≤ 8 ∧ nc + 0 ≤ 0 ∧ ns + 0 ≤ 0 ∧ f_rc (h a) 7) ∧ am_M G d 100 [.ref a, v0, v1, v2] h (am_back 99 K (am_W G (am_M G d) 99 K) 100 68 lv st nc ns)) := (am_u e_99_68).trans (f_iv_eq (a := a) (G := G) (d := d) (k := 99) (K := K) (pc := 68) (lv := lv) (st := st) (h := h) (nc := nc) (ns := ns) (x := 100) (X := am_W G (am_M G d) 99 K) [v0, v1, v2] (by decide) rfl)
theorem e_99_71 : pg_code 99 71 = some (.ifCond .ne 22, 3, 93, 0) := by decide +kernel
theorem u_99_71 {a : Int32} {lv : am_L} {st : List Value} : am_W G (am_M G d) 99 K 71 lv (.int a :: st) h nc ns = (am_br (¬ a = 0) (am_W G (am_M G d) 99 K 93 lv st h nc ns) (am_W G (am_M G d) 99 K 74 lv st h nc ns)) := am_u e_99_71
theorem e_99_74 : pg_code 99 74 = some (.aload_n 0, 1, 0, 0) := by decide +kernel
theorem u_99_74 {a : Nat} {lv : am_L} {st : List Value} : am_W G (am_M G d) 99 K 74 (some (.ref a) :: lv) st h nc ns = (am_W G (am_M G d) 99 K 75 (some (.ref a) :: lv) (.ref a :: st) h nc ns) := am_u e_99_74
theorem e_99_75 : pg_code 99 75 = some (.aload_n 0, 1, 0, 0) := by decide +kernel
theorem u_99_75 {a : Nat} {lv : am_L} {st : List Value} : am_W G (am_M G d) 99 K 75 (some (.ref a) :: lv) st h nc ns = (am_W G (am_M G d) 99 K 76 (some (.ref a) :: lv) (.ref a :: st) h nc ns) := am_u e_99_75
theorem e_99_76 : pg_code 99 76 = some (.getfield 16, 3, 7, 6) := by decide +kernel
theorem u_99_76 {a : Nat} {lv : am_L} {st : List Value} : am_W G (am_M G d) 99 K 76 lv (.ref a :: st) h nc ns = (f_gf G d 99 K 79 lv st h nc ns (h a) 7 6) := am_u e_99_76
theorem e_99_79 : pg_code 99 79 = some (.iload 4, 2, 0, 0) := by decide +kernel
theorem u_99_79 {a : Int32} {z0 : Option Value} {z1 : Option Value} {z2 : Option Value} {z3 : Option Value} {lv : am_L} {st : List Value} : am_W G (am_M G d) 99 K 79 (z0 :: z1 :: z2 :: z3 :: some (.int a) :: lv) st h nc ns = (am_W G (am_M G d) 99 K 81 (z0 :: z1 :: z2 :: z3 :: some (.int a) :: lv) (.int a :: st) h nc ns) := am_u e_99_79
theorem e_99_81 : pg_code 99 81 = some (.invokestatic 116, 3, 91, 1) := by decide +kernel
theorem u_99_81 {v0 : Value} {lv : am_L} {st : List Value} : am_W G (am_M G d) 99 K 81 lv (v0 :: st) h nc ns = ((am_words st ≤ 8 ∧ nc + 0 ≤ 0 ∧ ns + 0 ≤ 0) ∧ am_M G d 91 [v0] h (am_back 99 K (am_W G (am_M G d) 99 K) 91 81 lv st nc ns)) := (am_u e_99_81).trans (f_st_eq (G := G) (d := d) (k := 99) (K := K) (pc := 81) (lv := lv) (st := st) (h := h) (nc := nc) (ns := ns) (x := 91) (X := am_W G (am_M G d) 99 K) [v0] (by decide) rfl)
theorem e_99_84 : pg_code 99 84 = some (.iaload, 1, 0, 0) := by decide +kernel
theorem u_99_84 {a : Nat} {j : Int32} {lv : am_L} {st : List Value} : am_W G (am_M G d) 99 K 84 lv (.int j :: .ref a :: st) h nc ns = (f_ia G d 99 K 85 lv st h nc ns (h a) .int j) := am_u e_99_84
theorem e_99_85 : pg_code 99 85 = some (.iload_n 1, 1, 0, 0) := by decide +kernel
theorem u_99_85 {a : Int32} {z0 : Option Value} {lv : am_L} {st : List Value} : am_W G (am_M G d) 99 K 85 (z0 :: some (.int a) :: lv) st h nc ns = (am_W G (am_M G d) 99 K 86 (z0 :: some (.int a) :: lv) (.int a :: st) h nc ns) := am_u e_99_85
theorem e_99_86 : pg_code 99 86 = some (.iload_n 3, 1, 0, 0) := by decide +kernel
theorem u_99_86 {a : Int32} {z0 : Option Value} {z1 : Option Value} {z2 : Option Value} {lv : am_L} {st : List Value} : am_W G (am_M G d) 99 K 86 (z0 :: z1 :: z2 :: some (.int a) :: lv) st h nc ns = (am_W G (am_M G d) 99 K 87 (z0 :: z1 :: z2 :: some (.int a) :: lv) (.int a :: st) h nc ns) := am_u e_99_86
theorem e_99_87 : pg_code 99 87 = some (.invokevirtual 132, 3, 100, 4) := by decide +kernel
theorem u_99_87 {a : Nat} {v0 v1 v2 : Value} {lv : am_L} {st : List Value} : am_W G (am_M G d) 99 K 87 lv (v2 :: v1 :: v0 :: .ref a :: st) h nc ns = ((am_words st ≤ 8 ∧ nc + 0 ≤ 0 ∧ ns + 0 ≤ 0 ∧ f_rc (h a) 7) ∧ am_M G d 100 [.ref a, v0, v1, v2] h (am_back 99 K (am_W G (am_M G d) 99 K) 100 87 lv st nc ns)) := (am_u e_99_87).trans (f_iv_eq (a := a) (G := G) (d := d) (k := 99) (K := K) (pc := 87) (lv := lv) (st := st) (h := h) (nc := nc) (ns := ns) (x := 100) (X := am_W G (am_M G d) 99 K) [v0, v1, v2] (by decide) rfl)
theorem e_99_90 : pg_code 99 90 = some (.ifCond .eq 7, 3, 97, 0) := by decide +kernel
theorem u_99_90 {a : Int32} {lv : am_L} {st : List Value} : am_W G (am_M G d) 99 K 90 lv (.int a :: st) h nc ns = (am_br (a = 0) (am_W G (am_M G d) 99 K 97 lv st h nc ns) (am_W G (am_M G d) 99 K 93 lv st h nc ns)) := am_u e_99_90
theorem e_99_93 : pg_code 99 93 = some (.iconst 1, 1, 0, 0) := by decide +kernel
theorem u_99_93 {lv : am_L} {st : List Value} : am_W G (am_M G d) 99 K 93 lv st h nc ns = (am_W G (am_M G d) 99 K 94 lv (.int 1 :: st) h nc ns) := am_u e_99_93
theorem e_99_94 : pg_code 99 94 = some (.goto 4, 3, 98, 0) := by decide +kernel
theorem u_99_94 {lv : am_L} {st : List Value} : am_W G (am_M G d) 99 K 94 lv st h nc ns = (am_W G (am_M G d) 99 K 98 lv st h nc ns) := am_u e_99_94
theorem e_99_97 : pg_code 99 97 = some (.iconst 0, 1, 0, 0) := by decide +kernel
theorem u_99_97 {lv : am_L} {st : List Value} : am_W G (am_M G d) 99 K 97 lv st h nc ns = (am_W G (am_M G d) 99 K 98 lv (.int 0 :: st) h nc ns) := am_u e_99_97
theorem e_99_98 : pg_code 99 98 = some (.istore 5, 2, 0, 0) := by decide +kernel
theorem u_99_98 {a : Int32} {lv : am_L} {st : List Value} : am_W G (am_M G d) 99 K 98 lv (.int a :: st) h nc ns = (am_W G (am_M G d) 99 K 100 (am_st1 lv 5 (.int a)) st h nc ns) := (am_u e_99_98).trans (f_t (by decide +kernel))
theorem e_99_100 : pg_code 99 100 = some (.iload 5, 2, 0, 0) := by decide +kernel
theorem u_99_100 {a : Int32} {z0 : Option Value} {z1 : Option Value} {z2 : Option Value} {z3 : Option Value} {z4 : Option Value} {lv : am_L} {st : List Value} : am_W G (am_M G d) 99 K 100 (z0 :: z1 :: z2 :: z3 :: z4 :: some (.int a) :: lv) st h nc ns = (am_W G (am_M G d) 99 K 102 (z0 :: z1 :: z2 :: z3 :: z4 :: some (.int a) :: lv) (.int a :: st) h nc ns) := am_u e_99_100
theorem e_99_102 : pg_code 99 102 = some (.ifCond .eq 13, 3, 115, 0) := by decide +kernel
theorem u_99_102 {a : Int32} {lv : am_L} {st : List Value} : am_W G (am_M G d) 99 K 102 lv (.int a :: st) h nc ns = (am_br (a = 0) (am_W G (am_M G d) 99 K 115 lv st h nc ns) (am_W G (am_M G d) 99 K 105 lv st h nc ns)) := am_u e_99_102
theorem e_99_105 : pg_code 99 105 = some (.aload_n 0, 1, 0, 0) := by decide +kernel
theorem u_99_105 {a : Nat} {lv : am_L} {st : List Value} : am_W G (am_M G d) 99 K 105 (some (.ref a) :: lv) st h nc ns = (am_W G (am_M G d) 99 K 106 (some (.ref a) :: lv) (.ref a :: st) h nc ns) := am_u e_99_105
theorem e_99_106 : pg_code 99 106 = some (.getfield 81, 3, 7, 30) := by decide +kernel
theorem u_99_106 {a : Nat} {lv : am_L} {st : List Value} : am_W G (am_M G d) 99 K 106 lv (.ref a :: st) h nc ns = (f_gf G d 99 K 109 lv st h nc ns (h a) 7 30) := am_u e_99_106
theorem e_99_109 : pg_code 99 109 = some (.iload 4, 2, 0, 0) := by decide +kernel
theorem u_99_109 {a : Int32} {z0 : Option Value} {z1 : Option Value} {z2 : Option Value} {z3 : Option Value} {lv : am_L} {st : List Value} : am_W G (am_M G d) 99 K 109 (z0 :: z1 :: z2 :: z3 :: some (.int a) :: lv) st h nc ns = (am_W G (am_M G d) 99 K 111 (z0 :: z1 :: z2 :: z3 :: some (.int a) :: lv) (.int a :: st) h nc ns) := am_u e_99_109
theorem e_99_111 : pg_code 99 111 = some (.iload_n 3, 1, 0, 0) := by decide +kernel
theorem u_99_111 {a : Int32} {z0 : Option Value} {z1 : Option Value} {z2 : Option Value} {lv : am_L} {st : List Value} : am_W G (am_M G d) 99 K 111 (z0 :: z1 :: z2 :: some (.int a) :: lv) st h nc ns = (am_W G (am_M G d) 99 K 112 (z0 :: z1 :: z2 :: some (.int a) :: lv) (.int a :: st) h nc ns) := am_u e_99_111
theorem e_99_112 : pg_code 99 112 = some (.iastore, 1, 0, 0) := by decide +kernel
theorem u_99_112 {a : Nat} {j b : Int32} {lv : am_L} {st : List Value} : am_W G (am_M G d) 99 K 112 lv (.int b :: .int j :: .ref a :: st) h nc ns = (f_is G d 99 K 113 lv st h nc ns (h a) .int a j b) := am_u e_99_112
theorem e_99_113 : pg_code 99 113 = some (.iconst 1, 1, 0, 0) := by decide +kernel
theorem u_99_113 {lv : am_L} {st : List Value} : am_W G (am_M G d) 99 K 113 lv st h nc ns = (am_W G (am_M G d) 99 K 114 lv (.int 1 :: st) h nc ns) := am_u e_99_113
theorem e_99_114 : pg_code 99 114 = some (.istore_n 2, 1, 0, 0) := by decide +kernel
theorem u_99_114 {a : Int32} {lv : am_L} {st : List Value} : am_W G (am_M G d) 99 K 114 lv (.int a :: st) h nc ns = (am_W G (am_M G d) 99 K 115 (am_st1 lv 2 (.int a)) st h nc ns) := (am_u e_99_114).trans (f_t (by decide +kernel))
theorem e_99_115 : pg_code 99 115 = some (.iinc 4 1, 3, 0, 0) := by decide +kernel
theorem u_99_115 {a : Int32} {z0 : Option Value} {z1 : Option Value} {z2 : Option Value} {z3 : Option Value} {lv : am_L} {st : List Value} : am_W G (am_M G d) 99 K 115 (z0 :: z1 :: z2 :: z3 :: some (.int a) :: lv) st h nc ns = (am_W G (am_M G d) 99 K 118 (am_st1 (z0 :: z1 :: z2 :: z3 :: some (.int a) :: lv) 4 (.int (a + Int32.ofInt 1))) st h nc ns) := (am_u e_99_115).trans (f_t (by decide +kernel))
theorem e_99_118 : pg_code 99 118 = some (.goto (-82), 3, 36, 0) := by decide +kernel
theorem u_99_118 {lv : am_L} {st : List Value} : am_W G (am_M G d) 99 K 118 lv st h nc ns = (am_W G (am_M G d) 99 K 36 lv st h nc ns) := am_u e_99_118
theorem e_99_121 : pg_code 99 121 = some (.iinc 3 1, 3, 0, 0) := by decide +kernel
theorem u_99_121 {a : Int32} {z0 : Option Value} {z1 : Option Value} {z2 : Option Value} {lv : am_L} {st : List Value} : am_W G (am_M G d) 99 K 121 (z0 :: z1 :: z2 :: some (.int a) :: lv) st h nc ns = (am_W G (am_M G d) 99 K 124 (am_st1 (z0 :: z1 :: z2 :: some (.int a) :: lv) 3 (.int (a + Int32.ofInt 1))) st h nc ns) := (am_u e_99_121).trans (f_t (by decide +kernel))
theorem e_99_124 : pg_code 99 124 = some (.goto (-97), 3, 27, 0) := by decide +kernel
theorem u_99_124 {lv : am_L} {st : List Value} : am_W G (am_M G d) 99 K 124 lv st h nc ns = (am_W G (am_M G d) 99 K 27 lv st h nc ns) := am_u e_99_124
theorem e_99_127 : pg_code 99 127 = some (.return_, 1, 0, 0) := by decide +kernel
theorem u_99_127 {lv : am_L} : am_W G (am_M G d) 99 K 127 lv [] h nc ns = (K (.inl none) h) := (am_u e_99_127).trans (f_t ⟨rfl, rfl⟩)
theorem e_100_0 : pg_code 100 0 = some (.iload_n 1, 1, 0, 0) := by decide +kernel
theorem u_100_0 {a : Int32} {z0 : Option Value} {lv : am_L} {st : List Value} : am_W G (am_M G d) 100 K 0 (z0 :: some (.int a) :: lv) st h nc ns = (am_W G (am_M G d) 100 K 1 (z0 :: some (.int a) :: lv) (.int a :: st) h nc ns) := am_u e_100_0
theorem e_100_1 : pg_code 100 1 = some (.ifCond .lt 32, 3, 33, 0) := by decide +kernel
theorem u_100_1 {a : Int32} {lv : am_L} {st : List Value} : am_W G (am_M G d) 100 K 1 lv (.int a :: st) h nc ns = (am_br (a < 0) (am_W G (am_M G d) 100 K 33 lv st h nc ns) (am_W G (am_M G d) 100 K 4 lv st h nc ns)) := am_u e_100_1
theorem e_100_4 : pg_code 100 4 = some (.iload_n 3, 1, 0, 0) := by decide +kernel
theorem u_100_4 {a : Int32} {z0 : Option Value} {z1 : Option Value} {z2 : Option Value} {lv : am_L} {st : List Value} : am_W G (am_M G d) 100 K 4 (z0 :: z1 :: z2 :: some (.int a) :: lv) st h nc ns = (am_W G (am_M G d) 100 K 5 (z0 :: z1 :: z2 :: some (.int a) :: lv) (.int a :: st) h nc ns) := am_u e_100_4
theorem e_100_5 : pg_code 100 5 = some (.iconst 1, 1, 0, 0) := by decide +kernel
theorem u_100_5 {lv : am_L} {st : List Value} : am_W G (am_M G d) 100 K 5 lv st h nc ns = (am_W G (am_M G d) 100 K 6 lv (.int 1 :: st) h nc ns) := am_u e_100_5
theorem e_100_6 : pg_code 100 6 = some (.if_icmp .ne 11, 3, 17, 0) := by decide +kernel
theorem u_100_6 {a b : Int32} {lv : am_L} {st : List Value} : am_W G (am_M G d) 100 K 6 lv (.int b :: .int a :: st) h nc ns = (am_br (¬ a = b) (am_W G (am_M G d) 100 K 17 lv st h nc ns) (am_W G (am_M G d) 100 K 9 lv st h nc ns)) := am_u e_100_6
theorem e_100_9 : pg_code 100 9 = some (.iload_n 1, 1, 0, 0) := by decide +kernel
theorem u_100_9 {a : Int32} {z0 : Option Value} {lv : am_L} {st : List Value} : am_W G (am_M G d) 100 K 9 (z0 :: some (.int a) :: lv) st h nc ns = (am_W G (am_M G d) 100 K 10 (z0 :: some (.int a) :: lv) (.int a :: st) h nc ns) := am_u e_100_9
theorem e_100_10 : pg_code 100 10 = some (.iload_n 2, 1, 0, 0) := by decide +kernel
theorem u_100_10 {a : Int32} {z0 : Option Value} {z1 : Option Value} {lv : am_L} {st : List Value} : am_W G (am_M G d) 100 K 10 (z0 :: z1 :: some (.int a) :: lv) st h nc ns = (am_W G (am_M G d) 100 K 11 (z0 :: z1 :: some (.int a) :: lv) (.int a :: st) h nc ns) := am_u e_100_10
theorem e_100_11 : pg_code 100 11 = some (.if_icmp .ne 22, 3, 33, 0) := by decide +kernel
theorem u_100_11 {a b : Int32} {lv : am_L} {st : List Value} : am_W G (am_M G d) 100 K 11 lv (.int b :: .int a :: st) h nc ns = (am_br (¬ a = b) (am_W G (am_M G d) 100 K 33 lv st h nc ns) (am_W G (am_M G d) 100 K 14 lv st h nc ns)) := am_u e_100_11
theorem e_100_14 : pg_code 100 14 = some (.goto 15, 3, 29, 0) := by decide +kernel
theorem u_100_14 {lv : am_L} {st : List Value} : am_W G (am_M G d) 100 K 14 lv st h nc ns = (am_W G (am_M G d) 100 K 29 lv st h nc ns) := am_u e_100_14
theorem e_100_17 : pg_code 100 17 = some (.aload_n 0, 1, 0, 0) := by decide +kernel
theorem u_100_17 {a : Nat} {lv : am_L} {st : List Value} : am_W G (am_M G d) 100 K 17 (some (.ref a) :: lv) st h nc ns = (am_W G (am_M G d) 100 K 18 (some (.ref a) :: lv) (.ref a :: st) h nc ns) := am_u e_100_17
theorem e_100_18 : pg_code 100 18 = some (.getfield 81, 3, 7, 30) := by decide +kernel
theorem u_100_18 {a : Nat} {lv : am_L} {st : List Value} : am_W G (am_M G d) 100 K 18 lv (.ref a :: st) h nc ns = (f_gf G d 100 K 21 lv st h nc ns (h a) 7 30) := am_u e_100_18
theorem e_100_21 : pg_code 100 21 = some (.iload_n 1, 1, 0, 0) := by decide +kernel
theorem u_100_21 {a : Int32} {z0 : Option Value} {lv : am_L} {st : List Value} : am_W G (am_M G d) 100 K 21 (z0 :: some (.int a) :: lv) st h nc ns = (am_W G (am_M G d) 100 K 22 (z0 :: some (.int a) :: lv) (.int a :: st) h nc ns) := am_u e_100_21
theorem e_100_22 : pg_code 100 22 = some (.iaload, 1, 0, 0) := by decide +kernel
theorem u_100_22 {a : Nat} {j : Int32} {lv : am_L} {st : List Value} : am_W G (am_M G d) 100 K 22 lv (.int j :: .ref a :: st) h nc ns = (f_ia G d 100 K 23 lv st h nc ns (h a) .int j) := am_u e_100_22
theorem e_100_23 : pg_code 100 23 = some (.iload_n 3, 1, 0, 0) := by decide +kernel
theorem u_100_23 {a : Int32} {z0 : Option Value} {z1 : Option Value} {z2 : Option Value} {lv : am_L} {st : List Value} : am_W G (am_M G d) 100 K 23 (z0 :: z1 :: z2 :: some (.int a) :: lv) st h nc ns = (am_W G (am_M G d) 100 K 24 (z0 :: z1 :: z2 :: some (.int a) :: lv) (.int a :: st) h nc ns) := am_u e_100_23
theorem e_100_24 : pg_code 100 24 = some (.iconst 1, 1, 0, 0) := by decide +kernel
theorem u_100_24 {lv : am_L} {st : List Value} : am_W G (am_M G d) 100 K 24 lv st h nc ns = (am_W G (am_M G d) 100 K 25 lv (.int 1 :: st) h nc ns) := am_u e_100_24
theorem e_100_25 : pg_code 100 25 = some (.isub, 1, 0, 0) := by decide +kernel
theorem u_100_25 {a b : Int32} {lv : am_L} {st : List Value} : am_W G (am_M G d) 100 K 25 lv (.int b :: .int a :: st) h nc ns = (am_W G (am_M G d) 100 K 26 lv (.int (a - b) :: st) h nc ns) := am_u e_100_25
theorem e_100_26 : pg_code 100 26 = some (.if_icmp .ne 7, 3, 33, 0) := by decide +kernel
theorem u_100_26 {a b : Int32} {lv : am_L} {st : List Value} : am_W G (am_M G d) 100 K 26 lv (.int b :: .int a :: st) h nc ns = (am_br (¬ a = b) (am_W G (am_M G d) 100 K 33 lv st h nc ns) (am_W G (am_M G d) 100 K 29 lv st h nc ns)) := am_u e_100_26
theorem e_100_29 : pg_code 100 29 = some (.iconst 1, 1, 0, 0) := by decide +kernel
theorem u_100_29 {lv : am_L} {st : List Value} : am_W G (am_M G d) 100 K 29 lv st h nc ns = (am_W G (am_M G d) 100 K 30 lv (.int 1 :: st) h nc ns) := am_u e_100_29
theorem e_100_30 : pg_code 100 30 = some (.goto 4, 3, 34, 0) := by decide +kernel
theorem u_100_30 {lv : am_L} {st : List Value} : am_W G (am_M G d) 100 K 30 lv st h nc ns = (am_W G (am_M G d) 100 K 34 lv st h nc ns) := am_u e_100_30
theorem e_100_33 : pg_code 100 33 = some (.iconst 0, 1, 0, 0) := by decide +kernel
theorem u_100_33 {lv : am_L} {st : List Value} : am_W G (am_M G d) 100 K 33 lv st h nc ns = (am_W G (am_M G d) 100 K 34 lv (.int 0 :: st) h nc ns) := am_u e_100_33
theorem e_100_34 : pg_code 100 34 = some (.ireturn, 1, 0, 0) := by decide +kernel
theorem u_100_34 {a : Int32} {lv : am_L} : am_W G (am_M G d) 100 K 34 lv [.int a] h nc ns = (narrow .boolean (.int a) = .int a ∧ K (.inl (some (.int a))) h) := (am_u e_100_34).trans (f_z_eq rfl)
theorem e_101_0 : pg_code 101 0 = some (.iconst 0, 1, 0, 0) := by decide +kernel
theorem u_101_0 {lv : am_L} {st : List Value} : am_W G (am_M G d) 101 K 0 lv st h nc ns = (am_W G (am_M G d) 101 K 1 lv (.int 0 :: st) h nc ns) := am_u e_101_0
theorem e_101_1 : pg_code 101 1 = some (.istore_n 1, 1, 0, 0) := by decide +kernel
theorem u_101_1 {a : Int32} {lv : am_L} {st : List Value} : am_W G (am_M G d) 101 K 1 lv (.int a :: st) h nc ns = (am_W G (am_M G d) 101 K 2 (am_st1 lv 1 (.int a)) st h nc ns) := (am_u e_101_1).trans (f_t (by decide +kernel))
theorem e_101_2 : pg_code 101 2 = some (.iload_n 1, 1, 0, 0) := by decide +kernel
theorem u_101_2 {a : Int32} {z0 : Option Value} {lv : am_L} {st : List Value} : am_W G (am_M G d) 101 K 2 (z0 :: some (.int a) :: lv) st h nc ns = (am_W G (am_M G d) 101 K 3 (z0 :: some (.int a) :: lv) (.int a :: st) h nc ns) := am_u e_101_2
theorem e_101_3 : pg_code 101 3 = some (.aload_n 0, 1, 0, 0) := by decide +kernel
theorem u_101_3 {a : Nat} {lv : am_L} {st : List Value} : am_W G (am_M G d) 101 K 3 (some (.ref a) :: lv) st h nc ns = (am_W G (am_M G d) 101 K 4 (some (.ref a) :: lv) (.ref a :: st) h nc ns) := am_u e_101_3
theorem e_101_4 : pg_code 101 4 = some (.getfield 119, 3, 7, 2) := by decide +kernel
theorem u_101_4 {a : Nat} {lv : am_L} {st : List Value} : am_W G (am_M G d) 101 K 4 lv (.ref a :: st) h nc ns = (f_gf G d 101 K 7 lv st h nc ns (h a) 7 2) := am_u e_101_4
theorem e_101_7 : pg_code 101 7 = some (.if_icmp .ge 52, 3, 59, 0) := by decide +kernel
theorem u_101_7 {a b : Int32} {lv : am_L} {st : List Value} : am_W G (am_M G d) 101 K 7 lv (.int b :: .int a :: st) h nc ns = (am_br (b ≤ a) (am_W G (am_M G d) 101 K 59 lv st h nc ns) (am_W G (am_M G d) 101 K 10 lv st h nc ns)) := am_u e_101_7
theorem e_101_10 : pg_code 101 10 = some (.aload_n 0, 1, 0, 0) := by decide +kernel
theorem u_101_10 {a : Nat} {lv : am_L} {st : List Value} : am_W G (am_M G d) 101 K 10 (some (.ref a) :: lv) st h nc ns = (am_W G (am_M G d) 101 K 11 (some (.ref a) :: lv) (.ref a :: st) h nc ns) := am_u e_101_10
theorem e_101_11 : pg_code 101 11 = some (.getfield 78, 3, 7, 29) := by decide +kernel
theorem u_101_11 {a : Nat} {lv : am_L} {st : List Value} : am_W G (am_M G d) 101 K 11 lv (.ref a :: st) h nc ns = (f_gf G d 101 K 14 lv st h nc ns (h a) 7 29) := am_u e_101_11
theorem e_101_14 : pg_code 101 14 = some (.iload_n 1, 1, 0, 0) := by decide +kernel
theorem u_101_14 {a : Int32} {z0 : Option Value} {lv : am_L} {st : List Value} : am_W G (am_M G d) 101 K 14 (z0 :: some (.int a) :: lv) st h nc ns = (am_W G (am_M G d) 101 K 15 (z0 :: some (.int a) :: lv) (.int a :: st) h nc ns) := am_u e_101_14
theorem e_101_15 : pg_code 101 15 = some (.baload, 1, 0, 0) := by decide +kernel
theorem u_101_15 {a : Nat} {j : Int32} {lv : am_L} {st : List Value} : am_W G (am_M G d) 101 K 15 lv (.int j :: .ref a :: st) h nc ns = (f_ia G d 101 K 16 lv st h nc ns (h a) .boolean j) := am_u e_101_15
theorem e_101_16 : pg_code 101 16 = some (.ifCond .ne 37, 3, 53, 0) := by decide +kernel
theorem u_101_16 {a : Int32} {lv : am_L} {st : List Value} : am_W G (am_M G d) 101 K 16 lv (.int a :: st) h nc ns = (am_br (¬ a = 0) (am_W G (am_M G d) 101 K 53 lv st h nc ns) (am_W G (am_M G d) 101 K 19 lv st h nc ns)) := am_u e_101_16
theorem e_101_19 : pg_code 101 19 = some (.aload_n 0, 1, 0, 0) := by decide +kernel
theorem u_101_19 {a : Nat} {lv : am_L} {st : List Value} : am_W G (am_M G d) 101 K 19 (some (.ref a) :: lv) st h nc ns = (am_W G (am_M G d) 101 K 20 (some (.ref a) :: lv) (.ref a :: st) h nc ns) := am_u e_101_19
theorem e_101_20 : pg_code 101 20 = some (.aload_n 0, 1, 0, 0) := by decide +kernel
theorem u_101_20 {a : Nat} {lv : am_L} {st : List Value} : am_W G (am_M G d) 101 K 20 (some (.ref a) :: lv) st h nc ns = (am_W G (am_M G d) 101 K 21 (some (.ref a) :: lv) (.ref a :: st) h nc ns) := am_u e_101_20
theorem e_101_21 : pg_code 101 21 = some (.getfield 13, 3, 7, 5) := by decide +kernel
theorem u_101_21 {a : Nat} {lv : am_L} {st : List Value} : am_W G (am_M G d) 101 K 21 lv (.ref a :: st) h nc ns = (f_gf G d 101 K 24 lv st h nc ns (h a) 7 5) := am_u e_101_21
theorem e_101_24 : pg_code 101 24 = some (.iload_n 1, 1, 0, 0) := by decide +kernel
theorem u_101_24 {a : Int32} {z0 : Option Value} {lv : am_L} {st : List Value} : am_W G (am_M G d) 101 K 24 (z0 :: some (.int a) :: lv) st h nc ns = (am_W G (am_M G d) 101 K 25 (z0 :: some (.int a) :: lv) (.int a :: st) h nc ns) := am_u e_101_24
theorem e_101_25 : pg_code 101 25 = some (.invokestatic 116, 3, 91, 1) := by decide +kernel
theorem u_101_25 {v0 : Value} {lv : am_L} {st : List Value} : am_W G (am_M G d) 101 K 25 lv (v0 :: st) h nc ns = ((am_words st ≤ 8 ∧ nc + 0 ≤ 0 ∧ ns + 0 ≤ 0) ∧ am_M G d 91 [v0] h (am_back 101 K (am_W G (am_M G d) 101 K) 91 25 lv st nc ns)) := (am_u e_101_25).trans (f_st_eq (G := G) (d := d) (k := 101) (K := K) (pc := 25) (lv := lv) (st := st) (h := h) (nc := nc) (ns := ns) (x := 91) (X := am_W G (am_M G d) 101 K) [v0] (by decide) rfl)
theorem e_101_28 : pg_code 101 28 = some (.iaload, 1, 0, 0) := by decide +kernel
theorem u_101_28 {a : Nat} {j : Int32} {lv : am_L} {st : List Value} : am_W G (am_M G d) 101 K 28 lv (.int j :: .ref a :: st) h nc ns = (f_ia G d 101 K 29 lv st h nc ns (h a) .int j) := am_u e_101_28
theorem e_101_29 : pg_code 101 29 = some (.invokevirtual 156, 3, 102, 2) := by decide +kernel
theorem u_101_29 {a : Nat} {v0 : Value} {lv : am_L} {st : List Value} : am_W G (am_M G d) 101 K 29 lv (v0 :: .ref a :: st) h nc ns = ((am_words st ≤ 8 ∧ nc + 0 ≤ 0 ∧ ns + 0 ≤ 0 ∧ f_rc (h a) 7) ∧ am_M G d 102 [.ref a, v0] h (am_back 101 K (am_W G (am_M G d) 101 K) 102 29 lv st nc ns)) := (am_u e_101_29).trans (f_iv_eq (a := a) (G := G) (d := d) (k := 101) (K := K) (pc := 29) (lv := lv) (st := st) (h := h) (nc := nc) (ns := ns) (x := 102) (X := am_W G (am_M G d) 101 K) [v0] (by decide) rfl)
theorem e_101_32 : pg_code 101 32 = some (.ifCond .eq 21, 3, 53, 0) := by decide +kernel
theorem u_101_32 {a : Int32} {lv : am_L} {st : List Value} : am_W G (am_M G d) 101 K 32 lv (.int a :: st) h nc ns = (am_br (a = 0) (am_W G (am_M G d) 101 K 53 lv st h nc ns) (am_W G (am_M G d) 101 K 35 lv st h nc ns)) := am_u e_101_32
theorem e_101_35 : pg_code 101 35 = some (.aload_n 0, 1, 0, 0) := by decide +kernel
theorem u_101_35 {a : Nat} {lv : am_L} {st : List Value} : am_W G (am_M G d) 101 K 35 (some (.ref a) :: lv) st h nc ns = (am_W G (am_M G d) 101 K 36 (some (.ref a) :: lv) (.ref a :: st) h nc ns) := am_u e_101_35
theorem e_101_36 : pg_code 101 36 = some (.aload_n 0, 1, 0, 0) := by decide +kernel
theorem u_101_36 {a : Nat} {lv : am_L} {st : List Value} : am_W G (am_M G d) 101 K 36 (some (.ref a) :: lv) st h nc ns = (am_W G (am_M G d) 101 K 37 (some (.ref a) :: lv) (.ref a :: st) h nc ns) := am_u e_101_36
theorem e_101_37 : pg_code 101 37 = some (.getfield 16, 3, 7, 6) := by decide +kernel
theorem u_101_37 {a : Nat} {lv : am_L} {st : List Value} : am_W G (am_M G d) 101 K 37 lv (.ref a :: st) h nc ns = (f_gf G d 101 K 40 lv st h nc ns (h a) 7 6) := am_u e_101_37
theorem e_101_40 : pg_code 101 40 = some (.iload_n 1, 1, 0, 0) := by decide +kernel
theorem u_101_40 {a : Int32} {z0 : Option Value} {lv : am_L} {st : List Value} : am_W G (am_M G d) 101 K 40 (z0 :: some (.int a) :: lv) st h nc ns = (am_W G (am_M G d) 101 K 41 (z0 :: some (.int a) :: lv) (.int a :: st) h nc ns) := am_u e_101_40
theorem e_101_41 : pg_code 101 41 = some (.invokestatic 116, 3, 91, 1) := by decide +kernel
theorem u_101_41 {v0 : Value} {lv : am_L} {st : List Value} : am_W G (am_M G d) 101 K 41 lv (v0 :: st) h nc ns = ((am_words st ≤ 8 ∧ nc + 0 ≤ 0 ∧ ns + 0 ≤ 0) ∧ am_M G d 91 [v0] h (am_back 101 K (am_W G (am_M G d) 101 K) 91 41 lv st nc ns)) := (am_u e_101_41).trans (f_st_eq (G := G) (d := d) (k := 101) (K := K) (pc := 41) (lv := lv) (st := st) (h := h) (nc := nc) (ns := ns) (x := 91) (X := am_W G (am_M G d) 101 K) [v0] (by decide) rfl)
theorem e_101_44 : pg_code 101 44 = some (.iaload, 1, 0, 0) := by decide +kernel
theorem u_101_44 {a : Nat} {j : Int32} {lv : am_L} {st : List Value} : am_W G (am_M G d) 101 K 44 lv (.int j :: .ref a :: st) h nc ns = (f_ia G d 101 K 45 lv st h nc ns (h a) .int j) := am_u e_101_44
theorem e_101_45 : pg_code 101 45 = some (.invokevirtual 156, 3, 102, 2) := by decide +kernel
theorem u_101_45 {a : Nat} {v0 : Value} {lv : am_L} {st : List Value} : am_W G (am_M G d) 101 K 45 lv (v0 :: .ref a :: st) h nc ns = ((am_words st ≤ 8 ∧ nc + 0 ≤ 0 ∧ ns + 0 ≤ 0 ∧ f_rc (h a) 7) ∧ am_M G d 102 [.ref a, v0] h (am_back 101 K (am_W G (am_M G d) 101 K) 102 45 lv st nc ns)) := (am_u e_101_45).trans (f_iv_eq (a := a) (G := G) (d := d) (k := 101) (K := K) (pc := 45) (lv := lv) (st := st) (h := h) (nc := nc) (ns := ns) (x := 102) (X := am_W G (am_M G d) 101 K) [v0] (by decide) rfl)
theorem e_101_48 : pg_code 101 48 = some (.ifCond .eq 5, 3, 53, 0) := by decide +kernel
theorem u_101_48 {a : Int32} {lv : am_L} {st : List Value} : am_W G (am_M G d) 101 K 48 lv (.int a :: st) h nc ns = (am_br (a = 0) (am_W G (am_M G d) 101 K 53 lv st h nc ns) (am_W G (am_M G d) 101 K 51 lv st h nc ns)) := am_u e_101_48
theorem e_101_51 : pg_code 101 51 = some (.iload_n 1, 1, 0, 0) := by decide +kernel
theorem u_101_51 {a : Int32} {z0 : Option Value} {lv : am_L} {st : List Value} : am_W G (am_M G d) 101 K 51 (z0 :: some (.int a) :: lv) st h nc ns = (am_W G (am_M G d) 101 K 52 (z0 :: some (.int a) :: lv) (.int a :: st) h nc ns) := am_u e_101_51
theorem e_101_52 : pg_code 101 52 = some (.ireturn, 1, 0, 0) := by decide +kernel
theorem u_101_52 {a : Int32} {lv : am_L} : am_W G (am_M G d) 101 K 52 lv [.int a] h nc ns = (K (.inl (some (.int a))) h) := (am_u e_101_52).trans (f_t ⟨rfl, .int, rfl, rfl⟩)
theorem e_101_53 : pg_code 101 53 = some (.iinc 1 1, 3, 0, 0) := by decide +kernel
theorem u_101_53 {a : Int32} {z0 : Option Value} {lv : am_L} {st : List Value} : am_W G (am_M G d) 101 K 53 (z0 :: some (.int a) :: lv) st h nc ns = (am_W G (am_M G d) 101 K 56 (am_st1 (z0 :: some (.int a) :: lv) 1 (.int (a + Int32.ofInt 1))) st h nc ns) := (am_u e_101_53).trans (f_t (by decide +kernel))
theorem e_101_56 : pg_code 101 56 = some (.goto (-54), 3, 2, 0) := by decide +kernel
theorem u_101_56 {lv : am_L} {st : List Value} : am_W G (am_M G d) 101 K 56 lv st h nc ns = (am_W G (am_M G d) 101 K 2 lv st h nc ns) := am_u e_101_56
theorem e_101_59 : pg_code 101 59 = some (.iconst (-1), 1, 0, 0) := by decide +kernel
theorem u_101_59 {lv : am_L} {st : List Value} : am_W G (am_M G d) 101 K 59 lv st h nc ns = (am_W G (am_M G d) 101 K 60 lv (.int (-1) :: st) h nc ns) := am_u e_101_59
theorem e_101_60 : pg_code 101 60 = some (.ireturn, 1, 0, 0) := by decide +kernel
theorem u_101_60 {a : Int32} {lv : am_L} : am_W G (am_M G d) 101 K 60 lv [.int a] h nc ns = (K (.inl (some (.int a))) h) := (am_u e_101_60).trans (f_t ⟨rfl, .int, rfl, rfl⟩)
theorem e_102_0 : pg_code 102 0 = some (.iload_n 1, 1, 0, 0) := by decide +kernel
theorem u_102_0 {a : Int32} {z0 : Option Value} {lv : am_L} {st : List Value} : am_W G (am_M G d) 102 K 0 (z0 :: some (.int a) :: lv) st h nc ns = (am_W G (am_M G d) 102 K 1 (z0 :: some (.int a) :: lv) (.int a :: st) h nc ns) := am_u e_102_0
theorem e_102_1 : pg_code 102 1 = some (.ifCond .lt 12, 3, 13, 0) := by decide +kernel
theorem u_102_1 {a : Int32} {lv : am_L} {st : List Value} : am_W G (am_M G d) 102 K 1 lv (.int a :: st) h nc ns = (am_br (a < 0) (am_W G (am_M G d) 102 K 13 lv st h nc ns) (am_W G (am_M G d) 102 K 4 lv st h nc ns)) := am_u e_102_1
theorem e_102_4 : pg_code 102 4 = some (.aload_n 0, 1, 0, 0) := by decide +kernel
theorem u_102_4 {a : Nat} {lv : am_L} {st : List Value} : am_W G (am_M G d) 102 K 4 (some (.ref a) :: lv) st h nc ns = (am_W G (am_M G d) 102 K 5 (some (.ref a) :: lv) (.ref a :: st) h nc ns) := am_u e_102_4
theorem e_102_5 : pg_code 102 5 = some (.getfield 78, 3, 7, 29) := by decide +kernel
theorem u_102_5 {a : Nat} {lv : am_L} {st : List Value} : am_W G (am_M G d) 102 K 5 lv (.ref a :: st) h nc ns = (f_gf G d 102 K 8 lv st h nc ns (h a) 7 29) := am_u e_102_5
theorem e_102_8 : pg_code 102 8 = some (.iload_n 1, 1, 0, 0) := by decide +kernel
theorem u_102_8 {a : Int32} {z0 : Option Value} {lv : am_L} {st : List Value} : am_W G (am_M G d) 102 K 8 (z0 :: some (.int a) :: lv) st h nc ns = (am_W G (am_M G d) 102 K 9 (z0 :: some (.int a) :: lv) (.int a :: st) h nc ns) := am_u e_102_8
theorem e_102_9 : pg_code 102 9 = some (.baload, 1, 0, 0) := by decide +kernel
theorem u_102_9 {a : Nat} {j : Int32} {lv : am_L} {st : List Value} : am_W G (am_M G d) 102 K 9 lv (.int j :: .ref a :: st) h nc ns = (f_ia G d 102 K 10 lv st h nc ns (h a) .boolean j) := am_u e_102_9
theorem e_102_10 : pg_code 102 10 = some (.ifCond .eq 7, 3, 17, 0) := by decide +kernel
theorem u_102_10 {a : Int32} {lv : am_L} {st : List Value} : am_W G (am_M G d) 102 K 10 lv (.int a :: st) h nc ns = (am_br (a = 0) (am_W G (am_M G d) 102 K 17 lv st h nc ns) (am_W G (am_M G d) 102 K 13 lv st h nc ns)) := am_u e_102_10
theorem e_102_13 : pg_code 102 13 = some (.iconst 1, 1, 0, 0) := by decide +kernel
theorem u_102_13 {lv : am_L} {st : List Value} : am_W G (am_M G d) 102 K 13 lv st h nc ns = (am_W G (am_M G d) 102 K 14 lv (.int 1 :: st) h nc ns) := am_u e_102_13
theorem e_102_14 : pg_code 102 14 = some (.goto 4, 3, 18, 0) := by decide +kernel
theorem u_102_14 {lv : am_L} {st : List Value} : am_W G (am_M G d) 102 K 14 lv st h nc ns = (am_W G (am_M G d) 102 K 18 lv st h nc ns) := am_u e_102_14
theorem e_102_17 : pg_code 102 17 = some (.iconst 0, 1, 0, 0) := by decide +kernel
theorem u_102_17 {lv : am_L} {st : List Value} : am_W G (am_M G d) 102 K 17 lv st h nc ns = (am_W G (am_M G d) 102 K 18 lv (.int 0 :: st) h nc ns) := am_u e_102_17
theorem e_102_18 : pg_code 102 18 = some (.ireturn, 1, 0, 0) := by decide +kernel
theorem u_102_18 {a : Int32} {lv : am_L} : am_W G (am_M G d) 102 K 18 lv [.int a] h nc ns = (narrow .boolean (.int a) = .int a ∧ K (.inl (some (.int a))) h) := (am_u e_102_18).trans (f_z_eq rfl)
theorem e_103_0 : pg_code 103 0 = some (.iload_n 1, 1, 0, 0) := by decide +kernel
theorem u_103_0 {a : Int32} {z0 : Option Value} {lv : am_L} {st : List Value} : am_W G (am_M G d) 103 K 0 (z0 :: some (.int a) :: lv) st h nc ns = (am_W G (am_M G d) 103 K 1 (z0 :: some (.int a) :: lv) (.int a :: st) h nc ns) := am_u e_103_0
theorem e_103_1 : pg_code 103 1 = some (.invokestatic 116, 3, 91, 1) := by decide +kernel
theorem u_103_1 {v0 : Value} {lv : am_L} {st : List Value} : am_W G (am_M G d) 103 K 1 lv (v0 :: st) h nc ns = ((am_words st ≤ 8 ∧ nc + 0 ≤ 0 ∧ ns + 0 ≤ 0) ∧ am_M G d 91 [v0] h (am_back 103 K (am_W G (am_M G d) 103 K) 91 1 lv st nc ns)) := (am_u e_103_1).trans (f_st_eq (G := G) (d := d) (k := 103) (K := K) (pc := 1) (lv := lv) (st := st) (h := h) (nc := nc) (ns := ns) (x := 91) (X := am_W G (am_M G d) 103 K) [v0] (by decide) rfl)
theorem e_103_4 : pg_code 103 4 = some (.istore_n 2, 1, 0, 0) := by decide +kernel
theorem u_103_4 {a : Int32} {lv : am_L} {st : List Value} : am_W G (am_M G d) 103 K 4 lv (.int a :: st) h nc ns = (am_W G (am_M G d) 103 K 5 (am_st1 lv 2 (.int a)) st h nc ns) := (am_u e_103_4).trans (f_t (by decide +kernel))
theorem e_103_5 : pg_code 103 5 = some (.aload_n 0, 1, 0, 0) := by decide +kernel
theorem u_103_5 {a : Nat} {lv : am_L} {st : List Value} : am_W G (am_M G d) 103 K 5 (some (.ref a) :: lv) st h nc ns = (am_W G (am_M G d) 103 K 6 (some (.ref a) :: lv) (.ref a :: st) h nc ns) := am_u e_103_5
theorem e_103_6 : pg_code 103 6 = some (.getfield 78, 3, 7, 29) := by decide +kernel
theorem u_103_6 {a : Nat} {lv : am_L} {st : List Value} : am_W G (am_M G d) 103 K 6 lv (.ref a :: st) h nc ns = (f_gf G d 103 K 9 lv st h nc ns (h a) 7 29) := am_u e_103_6
theorem e_103_9 : pg_code 103 9 = some (.iload_n 1, 1, 0, 0) := by decide +kernel
theorem u_103_9 {a : Int32} {z0 : Option Value} {lv : am_L} {st : List Value} : am_W G (am_M G d) 103 K 9 (z0 :: some (.int a) :: lv) st h nc ns = (am_W G (am_M G d) 103 K 10 (z0 :: some (.int a) :: lv) (.int a :: st) h nc ns) := am_u e_103_9
theorem e_103_10 : pg_code 103 10 = some (.iconst 1, 1, 0, 0) := by decide +kernel
theorem u_103_10 {lv : am_L} {st : List Value} : am_W G (am_M G d) 103 K 10 lv st h nc ns = (am_W G (am_M G d) 103 K 11 lv (.int 1 :: st) h nc ns) := am_u e_103_10
theorem e_103_11 : pg_code 103 11 = some (.bastore, 1, 0, 0) := by decide +kernel
theorem u_103_11 {a : Nat} {j b : Int32} {lv : am_L} {st : List Value} : am_W G (am_M G d) 103 K 11 lv (.int b :: .int j :: .ref a :: st) h nc ns = (f_is G d 103 K 12 lv st h nc ns (h a) .boolean a j (vp_nar .boolean b)) := am_u e_103_11
theorem e_103_12 : pg_code 103 12 = some (.aload_n 0, 1, 0, 0) := by decide +kernel
theorem u_103_12 {a : Nat} {lv : am_L} {st : List Value} : am_W G (am_M G d) 103 K 12 (some (.ref a) :: lv) st h nc ns = (am_W G (am_M G d) 103 K 13 (some (.ref a) :: lv) (.ref a :: st) h nc ns) := am_u e_103_12
theorem e_103_13 : pg_code 103 13 = some (.aload_n 0, 1, 0, 0) := by decide +kernel
theorem u_103_13 {a : Nat} {lv : am_L} {st : List Value} : am_W G (am_M G d) 103 K 13 (some (.ref a) :: lv) st h nc ns = (am_W G (am_M G d) 103 K 14 (some (.ref a) :: lv) (.ref a :: st) h nc ns) := am_u e_103_13
theorem e_103_14 : pg_code 103 14 = some (.getfield 13, 3, 7, 5) := by decide +kernel
theorem u_103_14 {a : Nat} {lv : am_L} {st : List Value} : am_W G (am_M G d) 103 K 14 lv (.ref a :: st) h nc ns = (f_gf G d 103 K 17 lv st h nc ns (h a) 7 5) := am_u e_103_14
theorem e_103_17 : pg_code 103 17 = some (.iload_n 2, 1, 0, 0) := by decide +kernel
theorem u_103_17 {a : Int32} {z0 : Option Value} {z1 : Option Value} {lv : am_L} {st : List Value} : am_W G (am_M G d) 103 K 17 (z0 :: z1 :: some (.int a) :: lv) st h nc ns = (am_W G (am_M G d) 103 K 18 (z0 :: z1 :: some (.int a) :: lv) (.int a :: st) h nc ns) := am_u e_103_17
theorem e_103_18 : pg_code 103 18 = some (.iaload, 1, 0, 0) := by decide +kernel
theorem u_103_18 {a : Nat} {j : Int32} {lv : am_L} {st : List Value} : am_W G (am_M G d) 103 K 18 lv (.int j :: .ref a :: st) h nc ns = (f_ia G d 103 K 19 lv st h nc ns (h a) .int j) := am_u e_103_18
theorem e_103_19 : pg_code 103 19 = some (.invokevirtual 146, 3, 104, 2) := by decide +kernel
theorem u_103_19 {a : Nat} {v0 : Value} {lv : am_L} {st : List Value} : am_W G (am_M G d) 103 K 19 lv (v0 :: .ref a :: st) h nc ns = ((am_words st ≤ 8 ∧ nc + 0 ≤ 0 ∧ ns + 0 ≤ 0 ∧ f_rc (h a) 7) ∧ am_M G d 104 [.ref a, v0] h (am_back 103 K (am_W G (am_M G d) 103 K) 104 19 lv st nc ns)) := (am_u e_103_19).trans (f_iv_eq (a := a) (G := G) (d := d) (k := 103) (K := K) (pc := 19) (lv := lv) (st := st) (h := h) (nc := nc) (ns := ns) (x := 104) (X := am_W G (am_M G d) 103 K) [v0] (by decide) rfl)
theorem e_103_22 : pg_code 103 22 = some (.ifCond .eq 16, 3, 38, 0) := by decide +kernel
theorem u_103_22 {a : Int32} {lv : am_L} {st : List Value} : am_W G (am_M G d) 103 K 22 lv (.int a :: st) h nc ns = (am_br (a = 0) (am_W G (am_M G d) 103 K 38 lv st h nc ns) (am_W G (am_M G d) 103 K 25 lv st h nc ns)) := am_u e_103_22
theorem e_103_25 : pg_code 103 25 = some (.aload_n 0, 1, 0, 0) := by decide +kernel
theorem u_103_25 {a : Nat} {lv : am_L} {st : List Value} : am_W G (am_M G d) 103 K 25 (some (.ref a) :: lv) st h nc ns = (am_W G (am_M G d) 103 K 26 (some (.ref a) :: lv) (.ref a :: st) h nc ns) := am_u e_103_25
theorem e_103_26 : pg_code 103 26 = some (.aload_n 0, 1, 0, 0) := by decide +kernel
theorem u_103_26 {a : Nat} {lv : am_L} {st : List Value} : am_W G (am_M G d) 103 K 26 (some (.ref a) :: lv) st h nc ns = (am_W G (am_M G d) 103 K 27 (some (.ref a) :: lv) (.ref a :: st) h nc ns) := am_u e_103_26
theorem e_103_27 : pg_code 103 27 = some (.getfield 16, 3, 7, 6) := by decide +kernel
theorem u_103_27 {a : Nat} {lv : am_L} {st : List Value} : am_W G (am_M G d) 103 K 27 lv (.ref a :: st) h nc ns = (f_gf G d 103 K 30 lv st h nc ns (h a) 7 6) := am_u e_103_27
theorem e_103_30 : pg_code 103 30 = some (.iload_n 2, 1, 0, 0) := by decide +kernel
theorem u_103_30 {a : Int32} {z0 : Option Value} {z1 : Option Value} {lv : am_L} {st : List Value} : am_W G (am_M G d) 103 K 30 (z0 :: z1 :: some (.int a) :: lv) st h nc ns = (am_W G (am_M G d) 103 K 31 (z0 :: z1 :: some (.int a) :: lv) (.int a :: st) h nc ns) := am_u e_103_30
theorem e_103_31 : pg_code 103 31 = some (.iaload, 1, 0, 0) := by decide +kernel
theorem u_103_31 {a : Nat} {j : Int32} {lv : am_L} {st : List Value} : am_W G (am_M G d) 103 K 31 lv (.int j :: .ref a :: st) h nc ns = (f_ia G d 103 K 32 lv st h nc ns (h a) .int j) := am_u e_103_31
theorem e_103_32 : pg_code 103 32 = some (.invokevirtual 146, 3, 104, 2) := by decide +kernel
theorem u_103_32 {a : Nat} {v0 : Value} {lv : am_L} {st : List Value} : am_W G (am_M G d) 103 K 32 lv (v0 :: .ref a :: st) h nc ns = ((am_words st ≤ 8 ∧ nc + 0 ≤ 0 ∧ ns + 0 ≤ 0 ∧ f_rc (h a) 7) ∧ am_M G d 104 [.ref a, v0] h (am_back 103 K (am_W G (am_M G d) 103 K) 104 32 lv st nc ns)) := (am_u e_103_32).trans (f_iv_eq (a := a) (G := G) (d := d) (k := 103) (K := K) (pc := 32) (lv := lv) (st := st) (h := h) (nc := nc) (ns := ns) (x := 104) (X := am_W G (am_M G d) 103 K) [v0] (by decide) rfl)
theorem e_103_35 : pg_code 103 35 = some (.ifCond .ne 13, 3, 48, 0) := by decide +kernel
theorem u_103_35 {a : Int32} {lv : am_L} {st : List Value} : am_W G (am_M G d) 103 K 35 lv (.int a :: st) h nc ns = (am_br (¬ a = 0) (am_W G (am_M G d) 103 K 48 lv st h nc ns) (am_W G (am_M G d) 103 K 38 lv st h nc ns)) := am_u e_103_35
theorem e_103_38 : pg_code 103 38 = some (.aload_n 0, 1, 0, 0) := by decide +kernel
theorem u_103_38 {a : Nat} {lv : am_L} {st : List Value} : am_W G (am_M G d) 103 K 38 (some (.ref a) :: lv) st h nc ns = (am_W G (am_M G d) 103 K 39 (some (.ref a) :: lv) (.ref a :: st) h nc ns) := am_u e_103_38
theorem e_103_39 : pg_code 103 39 = some (.getfield 23, 3, 7, 8) := by decide +kernel
theorem u_103_39 {a : Nat} {lv : am_L} {st : List Value} : am_W G (am_M G d) 103 K 39 lv (.ref a :: st) h nc ns = (f_gf G d 103 K 42 lv st h nc ns (h a) 7 8) := am_u e_103_39
theorem e_103_42 : pg_code 103 42 = some (.iload_n 2, 1, 0, 0) := by decide +kernel
theorem u_103_42 {a : Int32} {z0 : Option Value} {z1 : Option Value} {lv : am_L} {st : List Value} : am_W G (am_M G d) 103 K 42 (z0 :: z1 :: some (.int a) :: lv) st h nc ns = (am_W G (am_M G d) 103 K 43 (z0 :: z1 :: some (.int a) :: lv) (.int a :: st) h nc ns) := am_u e_103_42
theorem e_103_43 : pg_code 103 43 = some (.iconst 2, 1, 0, 0) := by decide +kernel
theorem u_103_43 {lv : am_L} {st : List Value} : am_W G (am_M G d) 103 K 43 lv st h nc ns = (am_W G (am_M G d) 103 K 44 lv (.int 2 :: st) h nc ns) := am_u e_103_43
theorem e_103_44 : pg_code 103 44 = some (.iastore, 1, 0, 0) := by decide +kernel
theorem u_103_44 {a : Nat} {j b : Int32} {lv : am_L} {st : List Value} : am_W G (am_M G d) 103 K 44 lv (.int b :: .int j :: .ref a :: st) h nc ns = (f_is G d 103 K 45 lv st h nc ns (h a) .int a j b) := am_u e_103_44
theorem e_103_45 : pg_code 103 45 = some (.goto 16, 3, 61, 0) := by decide +kernel
theorem u_103_45 {lv : am_L} {st : List Value} : am_W G (am_M G d) 103 K 45 lv st h nc ns = (am_W G (am_M G d) 103 K 61 lv st h nc ns) := am_u e_103_45
theorem e_103_48 : pg_code 103 48 = some (.aload_n 0, 1, 0, 0) := by decide +kernel
theorem u_103_48 {a : Nat} {lv : am_L} {st : List Value} : am_W G (am_M G d) 103 K 48 (some (.ref a) :: lv) st h nc ns = (am_W G (am_M G d) 103 K 49 (some (.ref a) :: lv) (.ref a :: st) h nc ns) := am_u e_103_48
theorem e_103_49 : pg_code 103 49 = some (.iload_n 1, 1, 0, 0) := by decide +kernel
theorem u_103_49 {a : Int32} {z0 : Option Value} {lv : am_L} {st : List Value} : am_W G (am_M G d) 103 K 49 (z0 :: some (.int a) :: lv) st h nc ns = (am_W G (am_M G d) 103 K 50 (z0 :: some (.int a) :: lv) (.int a :: st) h nc ns) := am_u e_103_49
theorem e_103_50 : pg_code 103 50 = some (.invokevirtual 150, 3, 105, 2) := by decide +kernel
theorem u_103_50 {a : Nat} {v0 : Value} {lv : am_L} {st : List Value} : am_W G (am_M G d) 103 K 50 lv (v0 :: .ref a :: st) h nc ns = ((am_words st ≤ 8 ∧ nc + 0 ≤ 0 ∧ ns + 0 ≤ 0 ∧ f_rc (h a) 7) ∧ am_M G d 105 [.ref a, v0] h (am_back 103 K (am_W G (am_M G d) 103 K) 105 50 lv st nc ns)) := (am_u e_103_50).trans (f_iv_eq (a := a) (G := G) (d := d) (k := 103) (K := K) (pc := 50) (lv := lv) (st := st) (h := h) (nc := nc) (ns := ns) (x := 105) (X := am_W G (am_M G d) 103 K) [v0] (by decide) rfl)
theorem e_103_53 : pg_code 103 53 = some (.ifCond .eq 8, 3, 61, 0) := by decide +kernel
theorem u_103_53 {a : Int32} {lv : am_L} {st : List Value} : am_W G (am_M G d) 103 K 53 lv (.int a :: st) h nc ns = (am_br (a = 0) (am_W G (am_M G d) 103 K 61 lv st h nc ns) (am_W G (am_M G d) 103 K 56 lv st h nc ns)) := am_u e_103_53
theorem e_103_56 : pg_code 103 56 = some (.aload_n 0, 1, 0, 0) := by decide +kernel
theorem u_103_56 {a : Nat} {lv : am_L} {st : List Value} : am_W G (am_M G d) 103 K 56 (some (.ref a) :: lv) st h nc ns = (am_W G (am_M G d) 103 K 57 (some (.ref a) :: lv) (.ref a :: st) h nc ns) := am_u e_103_56
theorem e_103_57 : pg_code 103 57 = some (.iload_n 1, 1, 0, 0) := by decide +kernel
theorem u_103_57 {a : Int32} {z0 : Option Value} {lv : am_L} {st : List Value} : am_W G (am_M G d) 103 K 57 (z0 :: some (.int a) :: lv) st h nc ns = (am_W G (am_M G d) 103 K 58 (z0 :: some (.int a) :: lv) (.int a :: st) h nc ns) := am_u e_103_57
theorem e_103_58 : pg_code 103 58 = some (.invokevirtual 153, 3, 107, 2) := by decide +kernel
theorem u_103_58 {a : Nat} {v0 : Value} {lv : am_L} {st : List Value} : am_W G (am_M G d) 103 K 58 lv (v0 :: .ref a :: st) h nc ns = ((am_words st ≤ 8 ∧ nc + 0 ≤ 0 ∧ ns + 0 ≤ 0 ∧ f_rc (h a) 7) ∧ am_M G d 107 [.ref a, v0] h (am_back 103 K (am_W G (am_M G d) 103 K) 107 58 lv st nc ns)) := (am_u e_103_58).trans (f_iv_eq (a := a) (G := G) (d := d) (k := 103) (K := K) (pc := 58) (lv := lv) (st := st) (h := h) (nc := nc) (ns := ns) (x := 107) (X := am_W G (am_M G d) 103 K) [v0] (by decide) rfl)
theorem e_103_61 : pg_code 103 61 = some (.return_, 1, 0, 0) := by decide +kernel
theorem u_103_61 {lv : am_L} : am_W G (am_M G d) 103 K 61 lv [] h nc ns = (K (.inl none) h) := (am_u e_103_61).trans (f_t ⟨rfl, rfl⟩)
theorem e_104_0 : pg_code 104 0 = some (.iload_n 1, 1, 0, 0) := by decide +kernel
theorem u_104_0 {a : Int32} {z0 : Option Value} {lv : am_L} {st : List Value} : am_W G (am_M G d) 104 K 0 (z0 :: some (.int a) :: lv) st h nc ns = (am_W G (am_M G d) 104 K 1 (z0 :: some (.int a) :: lv) (.int a :: st) h nc ns) := am_u e_104_0
theorem e_104_1 : pg_code 104 1 = some (.ifCond .lt 15, 3, 16, 0) := by decide +kernel
theorem u_104_1 {a : Int32} {lv : am_L} {st : List Value} : am_W G (am_M G d) 104 K 1 lv (.int a :: st) h nc ns = (am_br (a < 0) (am_W G (am_M G d) 104 K 16 lv st h nc ns) (am_W G (am_M G d) 104 K 4 lv st h nc ns)) := am_u e_104_1
theorem e_104_4 : pg_code 104 4 = some (.aload_n 0, 1, 0, 0) := by decide +kernel
theorem u_104_4 {a : Nat} {lv : am_L} {st : List Value} : am_W G (am_M G d) 104 K 4 (some (.ref a) :: lv) st h nc ns = (am_W G (am_M G d) 104 K 5 (some (.ref a) :: lv) (.ref a :: st) h nc ns) := am_u e_104_4
theorem e_104_5 : pg_code 104 5 = some (.getfield 23, 3, 7, 8) := by decide +kernel
theorem u_104_5 {a : Nat} {lv : am_L} {st : List Value} : am_W G (am_M G d) 104 K 5 lv (.ref a :: st) h nc ns = (f_gf G d 104 K 8 lv st h nc ns (h a) 7 8) := am_u e_104_5
theorem e_104_8 : pg_code 104 8 = some (.iload_n 1, 1, 0, 0) := by decide +kernel
theorem u_104_8 {a : Int32} {z0 : Option Value} {lv : am_L} {st : List Value} : am_W G (am_M G d) 104 K 8 (z0 :: some (.int a) :: lv) st h nc ns = (am_W G (am_M G d) 104 K 9 (z0 :: some (.int a) :: lv) (.int a :: st) h nc ns) := am_u e_104_8
theorem e_104_9 : pg_code 104 9 = some (.invokestatic 116, 3, 91, 1) := by decide +kernel
theorem u_104_9 {v0 : Value} {lv : am_L} {st : List Value} : am_W G (am_M G d) 104 K 9 lv (v0 :: st) h nc ns = ((am_words st ≤ 8 ∧ nc + 0 ≤ 0 ∧ ns + 0 ≤ 0) ∧ am_M G d 91 [v0] h (am_back 104 K (am_W G (am_M G d) 104 K) 91 9 lv st nc ns)) := (am_u e_104_9).trans (f_st_eq (G := G) (d := d) (k := 104) (K := K) (pc := 9) (lv := lv) (st := st) (h := h) (nc := nc) (ns := ns) (x := 91) (X := am_W G (am_M G d) 104 K) [v0] (by decide) rfl)
theorem e_104_12 : pg_code 104 12 = some (.iaload, 1, 0, 0) := by decide +kernel
theorem u_104_12 {a : Nat} {j : Int32} {lv : am_L} {st : List Value} : am_W G (am_M G d) 104 K 12 lv (.int j :: .ref a :: st) h nc ns = (f_ia G d 104 K 13 lv st h nc ns (h a) .int j) := am_u e_104_12
theorem e_104_13 : pg_code 104 13 = some (.ifCond .ne 7, 3, 20, 0) := by decide +kernel
theorem u_104_13 {a : Int32} {lv : am_L} {st : List Value} : am_W G (am_M G d) 104 K 13 lv (.int a :: st) h nc ns = (am_br (¬ a = 0) (am_W G (am_M G d) 104 K 20 lv st h nc ns) (am_W G (am_M G d) 104 K 16 lv st h nc ns)) := am_u e_104_13
theorem e_104_16 : pg_code 104 16 = some (.iconst 1, 1, 0, 0) := by decide +kernel
theorem u_104_16 {lv : am_L} {st : List Value} : am_W G (am_M G d) 104 K 16 lv st h nc ns = (am_W G (am_M G d) 104 K 17 lv (.int 1 :: st) h nc ns) := am_u e_104_16
theorem e_104_17 : pg_code 104 17 = some (.goto 4, 3, 21, 0) := by decide +kernel
theorem u_104_17 {lv : am_L} {st : List Value} : am_W G (am_M G d) 104 K 17 lv st h nc ns = (am_W G (am_M G d) 104 K 21 lv st h nc ns) := am_u e_104_17
theorem e_104_20 : pg_code 104 20 = some (.iconst 0, 1, 0, 0) := by decide +kernel
theorem u_104_20 {lv : am_L} {st : List Value} : am_W G (am_M G d) 104 K 20 lv st h nc ns = (am_W G (am_M G d) 104 K 21 lv (.int 0 :: st) h nc ns) := am_u e_104_20
theorem e_104_21 : pg_code 104 21 = some (.ireturn, 1, 0, 0) := by decide +kernel
theorem u_104_21 {a : Int32} {lv : am_L} : am_W G (am_M G d) 104 K 21 lv [.int a] h nc ns = (narrow .boolean (.int a) = .int a ∧ K (.inl (some (.int a))) h) := (am_u e_104_21).trans (f_z_eq rfl)
theorem e_105_0 : pg_code 105 0 = some (.iload_n 1, 1, 0, 0) := by decide +kernel
theorem u_105_0 {a : Int32} {z0 : Option Value} {lv : am_L} {st : List Value} : am_W G (am_M G d) 105 K 0 (z0 :: some (.int a) :: lv) st h nc ns = (am_W G (am_M G d) 105 K 1 (z0 :: some (.int a) :: lv) (.int a :: st) h nc ns) := am_u e_105_0
theorem e_105_1 : pg_code 105 1 = some (.invokestatic 116, 3, 91, 1) := by decide +kernel
theorem u_105_1 {v0 : Value} {lv : am_L} {st : List Value} : am_W G (am_M G d) 105 K 1 lv (v0 :: st) h nc ns = ((am_words st ≤ 8 ∧ nc + 0 ≤ 0 ∧ ns + 0 ≤ 0) ∧ am_M G d 91 [v0] h (am_back 105 K (am_W G (am_M G d) 105 K) 91 1 lv st nc ns)) := (am_u e_105_1).trans (f_st_eq (G := G) (d := d) (k := 105) (K := K) (pc := 1) (lv := lv) (st := st) (h := h) (nc := nc) (ns := ns) (x := 91) (X := am_W G (am_M G d) 105 K) [v0] (by decide) rfl)
theorem e_105_4 : pg_code 105 4 = some (.istore_n 2, 1, 0, 0) := by decide +kernel
theorem u_105_4 {a : Int32} {lv : am_L} {st : List Value} : am_W G (am_M G d) 105 K 4 lv (.int a :: st) h nc ns = (am_W G (am_M G d) 105 K 5 (am_st1 lv 2 (.int a)) st h nc ns) := (am_u e_105_4).trans (f_t (by decide +kernel))
theorem e_105_5 : pg_code 105 5 = some (.aload_n 0, 1, 0, 0) := by decide +kernel
theorem u_105_5 {a : Nat} {lv : am_L} {st : List Value} : am_W G (am_M G d) 105 K 5 (some (.ref a) :: lv) st h nc ns = (am_W G (am_M G d) 105 K 6 (some (.ref a) :: lv) (.ref a :: st) h nc ns) := am_u e_105_5
theorem e_105_6 : pg_code 105 6 = some (.getfield 23, 3, 7, 8) := by decide +kernel
theorem u_105_6 {a : Nat} {lv : am_L} {st : List Value} : am_W G (am_M G d) 105 K 6 lv (.ref a :: st) h nc ns = (f_gf G d 105 K 9 lv st h nc ns (h a) 7 8) := am_u e_105_6
theorem e_105_9 : pg_code 105 9 = some (.iload_n 2, 1, 0, 0) := by decide +kernel
theorem u_105_9 {a : Int32} {z0 : Option Value} {z1 : Option Value} {lv : am_L} {st : List Value} : am_W G (am_M G d) 105 K 9 (z0 :: z1 :: some (.int a) :: lv) st h nc ns = (am_W G (am_M G d) 105 K 10 (z0 :: z1 :: some (.int a) :: lv) (.int a :: st) h nc ns) := am_u e_105_9
theorem e_105_10 : pg_code 105 10 = some (.iaload, 1, 0, 0) := by decide +kernel
theorem u_105_10 {a : Nat} {j : Int32} {lv : am_L} {st : List Value} : am_W G (am_M G d) 105 K 10 lv (.int j :: .ref a :: st) h nc ns = (f_ia G d 105 K 11 lv st h nc ns (h a) .int j) := am_u e_105_10
theorem e_105_11 : pg_code 105 11 = some (.ifCond .eq 13, 3, 24, 0) := by decide +kernel
theorem u_105_11 {a : Int32} {lv : am_L} {st : List Value} : am_W G (am_M G d) 105 K 11 lv (.int a :: st) h nc ns = (am_br (a = 0) (am_W G (am_M G d) 105 K 24 lv st h nc ns) (am_W G (am_M G d) 105 K 14 lv st h nc ns)) := am_u e_105_11
theorem e_105_14 : pg_code 105 14 = some (.aload_n 0, 1, 0, 0) := by decide +kernel
theorem u_105_14 {a : Nat} {lv : am_L} {st : List Value} : am_W G (am_M G d) 105 K 14 (some (.ref a) :: lv) st h nc ns = (am_W G (am_M G d) 105 K 15 (some (.ref a) :: lv) (.ref a :: st) h nc ns) := am_u e_105_14
theorem e_105_15 : pg_code 105 15 = some (.getfield 23, 3, 7, 8) := by decide +kernel
theorem u_105_15 {a : Nat} {lv : am_L} {st : List Value} : am_W G (am_M G d) 105 K 15 lv (.ref a :: st) h nc ns = (f_gf G d 105 K 18 lv st h nc ns (h a) 7 8) := am_u e_105_15
theorem e_105_18 : pg_code 105 18 = some (.iload_n 2, 1, 0, 0) := by decide +kernel
theorem u_105_18 {a : Int32} {z0 : Option Value} {z1 : Option Value} {lv : am_L} {st : List Value} : am_W G (am_M G d) 105 K 18 (z0 :: z1 :: some (.int a) :: lv) st h nc ns = (am_W G (am_M G d) 105 K 19 (z0 :: z1 :: some (.int a) :: lv) (.int a :: st) h nc ns) := am_u e_105_18
theorem e_105_19 : pg_code 105 19 = some (.iaload, 1, 0, 0) := by decide +kernel
theorem u_105_19 {a : Nat} {j : Int32} {lv : am_L} {st : List Value} : am_W G (am_M G d) 105 K 19 lv (.int j :: .ref a :: st) h nc ns = (f_ia G d 105 K 20 lv st h nc ns (h a) .int j) := am_u e_105_19
theorem e_105_20 : pg_code 105 20 = some (.iconst 1, 1, 0, 0) := by decide +kernel
theorem u_105_20 {lv : am_L} {st : List Value} : am_W G (am_M G d) 105 K 20 lv st h nc ns = (am_W G (am_M G d) 105 K 21 lv (.int 1 :: st) h nc ns) := am_u e_105_20
theorem e_105_21 : pg_code 105 21 = some (.if_icmp .ne 12, 3, 33, 0) := by decide +kernel
theorem u_105_21 {a b : Int32} {lv : am_L} {st : List Value} : am_W G (am_M G d) 105 K 21 lv (.int b :: .int a :: st) h nc ns = (am_br (¬ a = b) (am_W G (am_M G d) 105 K 33 lv st h nc ns) (am_W G (am_M G d) 105 K 24 lv st h nc ns)) := am_u e_105_21
theorem e_105_24 : pg_code 105 24 = some (.aload_n 0, 1, 0, 0) := by decide +kernel
theorem u_105_24 {a : Nat} {lv : am_L} {st : List Value} : am_W G (am_M G d) 105 K 24 (some (.ref a) :: lv) st h nc ns = (am_W G (am_M G d) 105 K 25 (some (.ref a) :: lv) (.ref a :: st) h nc ns) := am_u e_105_24
theorem e_105_25 : pg_code 105 25 = some (.getfield 48, 3, 7, 16) := by decide +kernel
theorem u_105_25 {a : Nat} {lv : am_L} {st : List Value} : am_W G (am_M G d) 105 K 25 lv (.ref a :: st) h nc ns = (f_gf G d 105 K 28 lv st h nc ns (h a) 7 16) := am_u e_105_25
theorem e_105_28 : pg_code 105 28 = some (.iload_n 2, 1, 0, 0) := by decide +kernel
theorem u_105_28 {a : Int32} {z0 : Option Value} {z1 : Option Value} {lv : am_L} {st : List Value} : am_W G (am_M G d) 105 K 28 (z0 :: z1 :: some (.int a) :: lv) st h nc ns = (am_W G (am_M G d) 105 K 29 (z0 :: z1 :: some (.int a) :: lv) (.int a :: st) h nc ns) := am_u e_105_28
theorem e_105_29 : pg_code 105 29 = some (.baload, 1, 0, 0) := by decide +kernel
theorem u_105_29 {a : Nat} {j : Int32} {lv : am_L} {st : List Value} : am_W G (am_M G d) 105 K 29 lv (.int j :: .ref a :: st) h nc ns = (f_ia G d 105 K 30 lv st h nc ns (h a) .boolean j) := am_u e_105_29
theorem e_105_30 : pg_code 105 30 = some (.ifCond .ne 5, 3, 35, 0) := by decide +kernel
theorem u_105_30 {a : Int32} {lv : am_L} {st : List Value} : am_W G (am_M G d) 105 K 30 lv (.int a :: st) h nc ns = (am_br (¬ a = 0) (am_W G (am_M G d) 105 K 35 lv st h nc ns) (am_W G (am_M G d) 105 K 33 lv st h nc ns)) := am_u e_105_30
theorem e_105_33 : pg_code 105 33 = some (.iconst 1, 1, 0, 0) := by decide +kernel
theorem u_105_33 {lv : am_L} {st : List Value} : am_W G (am_M G d) 105 K 33 lv st h nc ns = (am_W G (am_M G d) 105 K 34 lv (.int 1 :: st) h nc ns) := am_u e_105_33
theorem e_105_34 : pg_code 105 34 = some (.ireturn, 1, 0, 0) := by decide +kernel
theorem u_105_34 {a : Int32} {lv : am_L} : am_W G (am_M G d) 105 K 34 lv [.int a] h nc ns = (narrow .boolean (.int a) = .int a ∧ K (.inl (some (.int a))) h) := (am_u e_105_34).trans (f_z_eq rfl)
theorem e_105_35 : pg_code 105 35 = some (.aload_n 0, 1, 0, 0) := by decide +kernel
theorem u_105_35 {a : Nat} {lv : am_L} {st : List Value} : am_W G (am_M G d) 105 K 35 (some (.ref a) :: lv) st h nc ns = (am_W G (am_M G d) 105 K 36 (some (.ref a) :: lv) (.ref a :: st) h nc ns) := am_u e_105_35
theorem e_105_36 : pg_code 105 36 = some (.getfield 7, 3, 7, 4) := by decide +kernel
theorem u_105_36 {a : Nat} {lv : am_L} {st : List Value} : am_W G (am_M G d) 105 K 36 lv (.ref a :: st) h nc ns = (f_gf G d 105 K 39 lv st h nc ns (h a) 7 4) := am_u e_105_36
theorem e_105_39 : pg_code 105 39 = some (.iload_n 2, 1, 0, 0) := by decide +kernel
theorem u_105_39 {a : Int32} {z0 : Option Value} {z1 : Option Value} {lv : am_L} {st : List Value} : am_W G (am_M G d) 105 K 39 (z0 :: z1 :: some (.int a) :: lv) st h nc ns = (am_W G (am_M G d) 105 K 40 (z0 :: z1 :: some (.int a) :: lv) (.int a :: st) h nc ns) := am_u e_105_39
theorem e_105_40 : pg_code 105 40 = some (.iaload, 1, 0, 0) := by decide +kernel
theorem u_105_40 {a : Nat} {j : Int32} {lv : am_L} {st : List Value} : am_W G (am_M G d) 105 K 40 lv (.int j :: .ref a :: st) h nc ns = (f_ia G d 105 K 41 lv st h nc ns (h a) .int j) := am_u e_105_40
theorem e_105_41 : pg_code 105 41 = some (.aload_n 0, 1, 0, 0) := by decide +kernel
theorem u_105_41 {a : Nat} {lv : am_L} {st : List Value} : am_W G (am_M G d) 105 K 41 (some (.ref a) :: lv) st h nc ns = (am_W G (am_M G d) 105 K 42 (some (.ref a) :: lv) (.ref a :: st) h nc ns) := am_u e_105_41
theorem e_105_42 : pg_code 105 42 = some (.getfield 30, 3, 7, 10) := by decide +kernel
theorem u_105_42 {a : Nat} {lv : am_L} {st : List Value} : am_W G (am_M G d) 105 K 42 lv (.ref a :: st) h nc ns = (f_gf G d 105 K 45 lv st h nc ns (h a) 7 10) := am_u e_105_42
theorem e_105_45 : pg_code 105 45 = some (.iload_n 2, 1, 0, 0) := by decide +kernel
theorem u_105_45 {a : Int32} {z0 : Option Value} {z1 : Option Value} {lv : am_L} {st : List Value} : am_W G (am_M G d) 105 K 45 (z0 :: z1 :: some (.int a) :: lv) st h nc ns = (am_W G (am_M G d) 105 K 46 (z0 :: z1 :: some (.int a) :: lv) (.int a :: st) h nc ns) := am_u e_105_45
theorem e_105_46 : pg_code 105 46 = some (.iaload, 1, 0, 0) := by decide +kernel
theorem u_105_46 {a : Nat} {j : Int32} {lv : am_L} {st : List Value} : am_W G (am_M G d) 105 K 46 lv (.int j :: .ref a :: st) h nc ns = (f_ia G d 105 K 47 lv st h nc ns (h a) .int j) := am_u e_105_46
theorem e_105_47 : pg_code 105 47 = some (.if_icmp .ne 48, 3, 95, 0) := by decide +kernel
theorem u_105_47 {a b : Int32} {lv : am_L} {st : List Value} : am_W G (am_M G d) 105 K 47 lv (.int b :: .int a :: st) h nc ns = (am_br (¬ a = b) (am_W G (am_M G d) 105 K 95 lv st h nc ns) (am_W G (am_M G d) 105 K 50 lv st h nc ns)) := am_u e_105_47
theorem e_105_50 : pg_code 105 50 = some (.aload_n 0, 1, 0, 0) := by decide +kernel
theorem u_105_50 {a : Nat} {lv : am_L} {st : List Value} : am_W G (am_M G d) 105 K 50 (some (.ref a) :: lv) st h nc ns = (am_W G (am_M G d) 105 K 51 (some (.ref a) :: lv) (.ref a :: st) h nc ns) := am_u e_105_50
theorem e_105_51 : pg_code 105 51 = some (.getfield 13, 3, 7, 5) := by decide +kernel
theorem u_105_51 {a : Nat} {lv : am_L} {st : List Value} : am_W G (am_M G d) 105 K 51 lv (.ref a :: st) h nc ns = (f_gf G d 105 K 54 lv st h nc ns (h a) 7 5) := am_u e_105_51
theorem e_105_54 : pg_code 105 54 = some (.iload_n 2, 1, 0, 0) := by decide +kernel
theorem u_105_54 {a : Int32} {z0 : Option Value} {z1 : Option Value} {lv : am_L} {st : List Value} : am_W G (am_M G d) 105 K 54 (z0 :: z1 :: some (.int a) :: lv) st h nc ns = (am_W G (am_M G d) 105 K 55 (z0 :: z1 :: some (.int a) :: lv) (.int a :: st) h nc ns) := am_u e_105_54
theorem e_105_55 : pg_code 105 55 = some (.iaload, 1, 0, 0) := by decide +kernel
theorem u_105_55 {a : Nat} {j : Int32} {lv : am_L} {st : List Value} : am_W G (am_M G d) 105 K 55 lv (.int j :: .ref a :: st) h nc ns = (f_ia G d 105 K 56 lv st h nc ns (h a) .int j) := am_u e_105_55
theorem e_105_56 : pg_code 105 56 = some (.aload_n 0, 1, 0, 0) := by decide +kernel
theorem u_105_56 {a : Nat} {lv : am_L} {st : List Value} : am_W G (am_M G d) 105 K 56 (some (.ref a) :: lv) st h nc ns = (am_W G (am_M G d) 105 K 57 (some (.ref a) :: lv) (.ref a :: st) h nc ns) := am_u e_105_56
theorem e_105_57 : pg_code 105 57 = some (.getfield 33, 3, 7, 11) := by decide +kernel
theorem u_105_57 {a : Nat} {lv : am_L} {st : List Value} : am_W G (am_M G d) 105 K 57 lv (.ref a :: st) h nc ns = (f_gf G d 105 K 60 lv st h nc ns (h a) 7 11) := am_u e_105_57
theorem e_105_60 : pg_code 105 60 = some (.iload_n 2, 1, 0, 0) := by decide +kernel
theorem u_105_60 {a : Int32} {z0 : Option Value} {z1 : Option Value} {lv : am_L} {st : List Value} : am_W G (am_M G d) 105 K 60 (z0 :: z1 :: some (.int a) :: lv) st h nc ns = (am_W G (am_M G d) 105 K 61 (z0 :: z1 :: some (.int a) :: lv) (.int a :: st) h nc ns) := am_u e_105_60
theorem e_105_61 : pg_code 105 61 = some (.iaload, 1, 0, 0) := by decide +kernel
theorem u_105_61 {a : Nat} {j : Int32} {lv : am_L} {st : List Value} : am_W G (am_M G d) 105 K 61 lv (.int j :: .ref a :: st) h nc ns = (f_ia G d 105 K 62 lv st h nc ns (h a) .int j) := am_u e_105_61
theorem e_105_62 : pg_code 105 62 = some (.if_icmp .ne 33, 3, 95, 0) := by decide +kernel
theorem u_105_62 {a b : Int32} {lv : am_L} {st : List Value} : am_W G (am_M G d) 105 K 62 lv (.int b :: .int a :: st) h nc ns = (am_br (¬ a = b) (am_W G (am_M G d) 105 K 95 lv st h nc ns) (am_W G (am_M G d) 105 K 65 lv st h nc ns)) := am_u e_105_62
theorem e_105_65 : pg_code 105 65 = some (.aload_n 0, 1, 0, 0) := by decide +kernel
theorem u_105_65 {a : Nat} {lv : am_L} {st : List Value} : am_W G (am_M G d) 105 K 65 (some (.ref a) :: lv) st h nc ns = (am_W G (am_M G d) 105 K 66 (some (.ref a) :: lv) (.ref a :: st) h nc ns) := am_u e_105_65
theorem e_105_66 : pg_code 105 66 = some (.getfield 16, 3, 7, 6) := by decide +kernel
theorem u_105_66 {a : Nat} {lv : am_L} {st : List Value} : am_W G (am_M G d) 105 K 66 lv (.ref a :: st) h nc ns = (f_gf G d 105 K 69 lv st h nc ns (h a) 7 6) := am_u e_105_66
theorem e_105_69 : pg_code 105 69 = some (.iload_n 2, 1, 0, 0) := by decide +kernel
theorem u_105_69 {a : Int32} {z0 : Option Value} {z1 : Option Value} {lv : am_L} {st : List Value} : am_W G (am_M G d) 105 K 69 (z0 :: z1 :: some (.int a) :: lv) st h nc ns = (am_W G (am_M G d) 105 K 70 (z0 :: z1 :: some (.int a) :: lv) (.int a :: st) h nc ns) := am_u e_105_69
theorem e_105_70 : pg_code 105 70 = some (.iaload, 1, 0, 0) := by decide +kernel
theorem u_105_70 {a : Nat} {j : Int32} {lv : am_L} {st : List Value} : am_W G (am_M G d) 105 K 70 lv (.int j :: .ref a :: st) h nc ns = (f_ia G d 105 K 71 lv st h nc ns (h a) .int j) := am_u e_105_70
theorem e_105_71 : pg_code 105 71 = some (.aload_n 0, 1, 0, 0) := by decide +kernel
theorem u_105_71 {a : Nat} {lv : am_L} {st : List Value} : am_W G (am_M G d) 105 K 71 (some (.ref a) :: lv) st h nc ns = (am_W G (am_M G d) 105 K 72 (some (.ref a) :: lv) (.ref a :: st) h nc ns) := am_u e_105_71
theorem e_105_72 : pg_code 105 72 = some (.getfield 36, 3, 7, 12) := by decide +kernel
theorem u_105_72 {a : Nat} {lv : am_L} {st : List Value} : am_W G (am_M G d) 105 K 72 lv (.ref a :: st) h nc ns = (f_gf G d 105 K 75 lv st h nc ns (h a) 7 12) := am_u e_105_72
theorem e_105_75 : pg_code 105 75 = some (.iload_n 2, 1, 0, 0) := by decide +kernel
theorem u_105_75 {a : Int32} {z0 : Option Value} {z1 : Option Value} {lv : am_L} {st : List Value} : am_W G (am_M G d) 105 K 75 (z0 :: z1 :: some (.int a) :: lv) st h nc ns = (am_W G (am_M G d) 105 K 76 (z0 :: z1 :: some (.int a) :: lv) (.int a :: st) h nc ns) := am_u e_105_75
theorem e_105_76 : pg_code 105 76 = some (.iaload, 1, 0, 0) := by decide +kernel
theorem u_105_76 {a : Nat} {j : Int32} {lv : am_L} {st : List Value} : am_W G (am_M G d) 105 K 76 lv (.int j :: .ref a :: st) h nc ns = (f_ia G d 105 K 77 lv st h nc ns (h a) .int j) := am_u e_105_76
theorem e_105_77 : pg_code 105 77 = some (.if_icmp .ne 18, 3, 95, 0) := by decide +kernel
theorem u_105_77 {a b : Int32} {lv : am_L} {st : List Value} : am_W G (am_M G d) 105 K 77 lv (.int b :: .int a :: st) h nc ns = (am_br (¬ a = b) (am_W G (am_M G d) 105 K 95 lv st h nc ns) (am_W G (am_M G d) 105 K 80 lv st h nc ns)) := am_u e_105_77
theorem e_105_80 : pg_code 105 80 = some (.aload_n 0, 1, 0, 0) := by decide +kernel
theorem u_105_80 {a : Nat} {lv : am_L} {st : List Value} : am_W G (am_M G d) 105 K 80 (some (.ref a) :: lv) st h nc ns = (am_W G (am_M G d) 105 K 81 (some (.ref a) :: lv) (.ref a :: st) h nc ns) := am_u e_105_80
theorem e_105_81 : pg_code 105 81 = some (.getfield 19, 3, 7, 7) := by decide +kernel
theorem u_105_81 {a : Nat} {lv : am_L} {st : List Value} : am_W G (am_M G d) 105 K 81 lv (.ref a :: st) h nc ns = (f_gf G d 105 K 84 lv st h nc ns (h a) 7 7) := am_u e_105_81
theorem e_105_84 : pg_code 105 84 = some (.iload_n 2, 1, 0, 0) := by decide +kernel
theorem u_105_84 {a : Int32} {z0 : Option Value} {z1 : Option Value} {lv : am_L} {st : List Value} : am_W G (am_M G d) 105 K 84 (z0 :: z1 :: some (.int a) :: lv) st h nc ns = (am_W G (am_M G d) 105 K 85 (z0 :: z1 :: some (.int a) :: lv) (.int a :: st) h nc ns) := am_u e_105_84
theorem e_105_85 : pg_code 105 85 = some (.baload, 1, 0, 0) := by decide +kernel
theorem u_105_85 {a : Nat} {j : Int32} {lv : am_L} {st : List Value} : am_W G (am_M G d) 105 K 85 lv (.int j :: .ref a :: st) h nc ns = (f_ia G d 105 K 86 lv st h nc ns (h a) .boolean j) := am_u e_105_85
theorem e_105_86 : pg_code 105 86 = some (.aload_n 0, 1, 0, 0) := by decide +kernel
theorem u_105_86 {a : Nat} {lv : am_L} {st : List Value} : am_W G (am_M G d) 105 K 86 (some (.ref a) :: lv) st h nc ns = (am_W G (am_M G d) 105 K 87 (some (.ref a) :: lv) (.ref a :: st) h nc ns) := am_u e_105_86
theorem e_105_87 : pg_code 105 87 = some (.getfield 39, 3, 7, 13) := by decide +kernel
theorem u_105_87 {a : Nat} {lv : am_L} {st : List Value} : am_W G (am_M G d) 105 K 87 lv (.ref a :: st) h nc ns = (f_gf G d 105 K 90 lv st h nc ns (h a) 7 13) := am_u e_105_87
theorem e_105_90 : pg_code 105 90 = some (.iload_n 2, 1, 0, 0) := by decide +kernel
theorem u_105_90 {a : Int32} {z0 : Option Value} {z1 : Option Value} {lv : am_L} {st : List Value} : am_W G (am_M G d) 105 K 90 (z0 :: z1 :: some (.int a) :: lv) st h nc ns = (am_W G (am_M G d) 105 K 91 (z0 :: z1 :: some (.int a) :: lv) (.int a :: st) h nc ns) := am_u e_105_90
theorem e_105_91 : pg_code 105 91 = some (.baload, 1, 0, 0) := by decide +kernel
theorem u_105_91 {a : Nat} {j : Int32} {lv : am_L} {st : List Value} : am_W G (am_M G d) 105 K 91 lv (.int j :: .ref a :: st) h nc ns = (f_ia G d 105 K 92 lv st h nc ns (h a) .boolean j) := am_u e_105_91
theorem e_105_92 : pg_code 105 92 = some (.if_icmp .eq 5, 3, 97, 0) := by decide +kernel
theorem u_105_92 {a b : Int32} {lv : am_L} {st : List Value} : am_W G (am_M G d) 105 K 92 lv (.int b :: .int a :: st) h nc ns = (am_br (a = b) (am_W G (am_M G d) 105 K 97 lv st h nc ns) (am_W G (am_M G d) 105 K 95 lv st h nc ns)) := am_u e_105_92
theorem e_105_95 : pg_code 105 95 = some (.iconst 1, 1, 0, 0) := by decide +kernel
theorem u_105_95 {lv : am_L} {st : List Value} : am_W G (am_M G d) 105 K 95 lv st h nc ns = (am_W G (am_M G d) 105 K 96 lv (.int 1 :: st) h nc ns) := am_u e_105_95
theorem e_105_96 : pg_code 105 96 = some (.ireturn, 1, 0, 0) := by decide +kernel
theorem u_105_96 {a : Int32} {lv : am_L} : am_W G (am_M G d) 105 K 96 lv [.int a] h nc ns = (narrow .boolean (.int a) = .int a ∧ K (.inl (some (.int a))) h) := (am_u e_105_96).trans (f_z_eq rfl)
theorem e_105_97 : pg_code 105 97 = some (.aload_n 0, 1, 0, 0) := by decide +kernel
theorem u_105_97 {a : Nat} {lv : am_L} {st : List Value} : am_W G (am_M G d) 105 K 97 (some (.ref a) :: lv) st h nc ns = (am_W G (am_M G d) 105 K 98 (some (.ref a) :: lv) (.ref a :: st) h nc ns) := am_u e_105_97
theorem e_105_98 : pg_code 105 98 = some (.aload_n 0, 1, 0, 0) := by decide +kernel
theorem u_105_98 {a : Nat} {lv : am_L} {st : List Value} : am_W G (am_M G d) 105 K 98 (some (.ref a) :: lv) st h nc ns = (am_W G (am_M G d) 105 K 99 (some (.ref a) :: lv) (.ref a :: st) h nc ns) := am_u e_105_98
theorem e_105_99 : pg_code 105 99 = some (.getfield 13, 3, 7, 5) := by decide +kernel
theorem u_105_99 {a : Nat} {lv : am_L} {st : List Value} : am_W G (am_M G d) 105 K 99 lv (.ref a :: st) h nc ns = (f_gf G d 105 K 102 lv st h nc ns (h a) 7 5) := am_u e_105_99
theorem e_105_102 : pg_code 105 102 = some (.iload_n 2, 1, 0, 0) := by decide +kernel
theorem u_105_102 {a : Int32} {z0 : Option Value} {z1 : Option Value} {lv : am_L} {st : List Value} : am_W G (am_M G d) 105 K 102 (z0 :: z1 :: some (.int a) :: lv) st h nc ns = (am_W G (am_M G d) 105 K 103 (z0 :: z1 :: some (.int a) :: lv) (.int a :: st) h nc ns) := am_u e_105_102
theorem e_105_103 : pg_code 105 103 = some (.iaload, 1, 0, 0) := by decide +kernel
theorem u_105_103 {a : Nat} {j : Int32} {lv : am_L} {st : List Value} : am_W G (am_M G d) 105 K 103 lv (.int j :: .ref a :: st) h nc ns = (f_ia G d 105 K 104 lv st h nc ns (h a) .int j) := am_u e_105_103
theorem e_105_104 : pg_code 105 104 = some (.invokevirtual 139, 3, 106, 2) := by decide +kernel
theorem u_105_104 {a : Nat} {v0 : Value} {lv : am_L} {st : List Value} : am_W G (am_M G d) 105 K 104 lv (v0 :: .ref a :: st) h nc ns = ((am_words st ≤ 8 ∧ nc + 0 ≤ 0 ∧ ns + 0 ≤ 0 ∧ f_rc (h a) 7) ∧ am_M G d 106 [.ref a, v0] h (am_back 105 K (am_W G (am_M G d) 105 K) 106 104 lv st nc ns)) := (am_u e_105_104).trans (f_iv_eq (a := a) (G := G) (d := d) (k := 105) (K := K) (pc := 104) (lv := lv) (st := st) (h := h) (nc := nc) (ns := ns) (x := 106) (X := am_W G (am_M G d) 105 K) [v0] (by decide) rfl)
theorem e_105_107 : pg_code 105 107 = some (.aload_n 0, 1, 0, 0) := by decide +kernel
theorem u_105_107 {a : Nat} {lv : am_L} {st : List Value} : am_W G (am_M G d) 105 K 107 (some (.ref a) :: lv) st h nc ns = (am_W G (am_M G d) 105 K 108 (some (.ref a) :: lv) (.ref a :: st) h nc ns) := am_u e_105_107
theorem e_105_108 : pg_code 105 108 = some (.getfield 42, 3, 7, 14) := by decide +kernel
theorem u_105_108 {a : Nat} {lv : am_L} {st : List Value} : am_W G (am_M G d) 105 K 108 lv (.ref a :: st) h nc ns = (f_gf G d 105 K 111 lv st h nc ns (h a) 7 14) := am_u e_105_108
theorem e_105_111 : pg_code 105 111 = some (.iload_n 2, 1, 0, 0) := by decide +kernel
theorem u_105_111 {a : Int32} {z0 : Option Value} {z1 : Option Value} {lv : am_L} {st : List Value} : am_W G (am_M G d) 105 K 111 (z0 :: z1 :: some (.int a) :: lv) st h nc ns = (am_W G (am_M G d) 105 K 112 (z0 :: z1 :: some (.int a) :: lv) (.int a :: st) h nc ns) := am_u e_105_111
theorem e_105_112 : pg_code 105 112 = some (.laload, 1, 0, 0) := by decide +kernel
theorem u_105_112 {a : Nat} {j : Int32} {lv : am_L} {st : List Value} : am_W G (am_M G d) 105 K 112 lv (.int j :: .ref a :: st) h nc ns = (f_la G d 105 K 113 lv st h nc ns (h a) j) := am_u e_105_112
theorem e_105_113 : pg_code 105 113 = some (.lcmp, 1, 0, 0) := by decide +kernel
theorem u_105_113 {a b : Int64} {lv : am_L} {st : List Value} : am_W G (am_M G d) 105 K 113 lv (.long b :: .long a :: st) h nc ns = (am_W G (am_M G d) 105 K 114 lv (.int (lg_cmp a b) :: st) h nc ns) := am_u e_105_113
theorem e_105_114 : pg_code 105 114 = some (.ifCond .ne 23, 3, 137, 0) := by decide +kernel
theorem u_105_114 {a : Int32} {lv : am_L} {st : List Value} : am_W G (am_M G d) 105 K 114 lv (.int a :: st) h nc ns = (am_br (¬ a = 0) (am_W G (am_M G d) 105 K 137 lv st h nc ns) (am_W G (am_M G d) 105 K 117 lv st h nc ns)) := am_u e_105_114
theorem e_105_117 : pg_code 105 117 = some (.aload_n 0, 1, 0, 0) := by decide +kernel
theorem u_105_117 {a : Nat} {lv : am_L} {st : List Value} : am_W G (am_M G d) 105 K 117 (some (.ref a) :: lv) st h nc ns = (am_W G (am_M G d) 105 K 118 (some (.ref a) :: lv) (.ref a :: st) h nc ns) := am_u e_105_117
theorem e_105_118 : pg_code 105 118 = some (.aload_n 0, 1, 0, 0) := by decide +kernel
theorem u_105_118 {a : Nat} {lv : am_L} {st : List Value} : am_W G (am_M G d) 105 K 118 (some (.ref a) :: lv) st h nc ns = (am_W G (am_M G d) 105 K 119 (some (.ref a) :: lv) (.ref a :: st) h nc ns) := am_u e_105_118
theorem e_105_119 : pg_code 105 119 = some (.getfield 16, 3, 7, 6) := by decide +kernel
theorem u_105_119 {a : Nat} {lv : am_L} {st : List Value} : am_W G (am_M G d) 105 K 119 lv (.ref a :: st) h nc ns = (f_gf G d 105 K 122 lv st h nc ns (h a) 7 6) := am_u e_105_119
theorem e_105_122 : pg_code 105 122 = some (.iload_n 2, 1, 0, 0) := by decide +kernel
theorem u_105_122 {a : Int32} {z0 : Option Value} {z1 : Option Value} {lv : am_L} {st : List Value} : am_W G (am_M G d) 105 K 122 (z0 :: z1 :: some (.int a) :: lv) st h nc ns = (am_W G (am_M G d) 105 K 123 (z0 :: z1 :: some (.int a) :: lv) (.int a :: st) h nc ns) := am_u e_105_122
theorem e_105_123 : pg_code 105 123 = some (.iaload, 1, 0, 0) := by decide +kernel
theorem u_105_123 {a : Nat} {j : Int32} {lv : am_L} {st : List Value} : am_W G (am_M G d) 105 K 123 lv (.int j :: .ref a :: st) h nc ns = (f_ia G d 105 K 124 lv st h nc ns (h a) .int j) := am_u e_105_123
theorem e_105_124 : pg_code 105 124 = some (.invokevirtual 139, 3, 106, 2) := by decide +kernel
theorem u_105_124 {a : Nat} {v0 : Value} {lv : am_L} {st : List Value} : am_W G (am_M G d) 105 K 124 lv (v0 :: .ref a :: st) h nc ns = ((am_words st ≤ 8 ∧ nc + 0 ≤ 0 ∧ ns + 0 ≤ 0 ∧ f_rc (h a) 7) ∧ am_M G d 106 [.ref a, v0] h (am_back 105 K (am_W G (am_M G d) 105 K) 106 124 lv st nc ns)) := (am_u e_105_124).trans (f_iv_eq (a := a) (G := G) (d := d) (k := 105) (K := K) (pc := 124) (lv := lv) (st := st) (h := h) (nc := nc) (ns := ns) (x := 106) (X := am_W G (am_M G d) 105 K) [v0] (by decide) rfl)
theorem e_105_127 : pg_code 105 127 = some (.aload_n 0, 1, 0, 0) := by decide +kernel
theorem u_105_127 {a : Nat} {lv : am_L} {st : List Value} : am_W G (am_M G d) 105 K 127 (some (.ref a) :: lv) st h nc ns = (am_W G (am_M G d) 105 K 128 (some (.ref a) :: lv) (.ref a :: st) h nc ns) := am_u e_105_127
theorem e_105_128 : pg_code 105 128 = some (.getfield 45, 3, 7, 15) := by decide +kernel
theorem u_105_128 {a : Nat} {lv : am_L} {st : List Value} : am_W G (am_M G d) 105 K 128 lv (.ref a :: st) h nc ns = (f_gf G d 105 K 131 lv st h nc ns (h a) 7 15) := am_u e_105_128
theorem e_105_131 : pg_code 105 131 = some (.iload_n 2, 1, 0, 0) := by decide +kernel
theorem u_105_131 {a : Int32} {z0 : Option Value} {z1 : Option Value} {lv : am_L} {st : List Value} : am_W G (am_M G d) 105 K 131 (z0 :: z1 :: some (.int a) :: lv) st h nc ns = (am_W G (am_M G d) 105 K 132 (z0 :: z1 :: some (.int a) :: lv) (.int a :: st) h nc ns) := am_u e_105_131
theorem e_105_132 : pg_code 105 132 = some (.laload, 1, 0, 0) := by decide +kernel
theorem u_105_132 {a : Nat} {j : Int32} {lv : am_L} {st : List Value} : am_W G (am_M G d) 105 K 132 lv (.int j :: .ref a :: st) h nc ns = (f_la G d 105 K 133 lv st h nc ns (h a) j) := am_u e_105_132
theorem e_105_133 : pg_code 105 133 = some (.lcmp, 1, 0, 0) := by decide +kernel
theorem u_105_133 {a b : Int64} {lv : am_L} {st : List Value} : am_W G (am_M G d) 105 K 133 lv (.long b :: .long a :: st) h nc ns = (am_W G (am_M G d) 105 K 134 lv (.int (lg_cmp a b) :: st) h nc ns) := am_u e_105_133
theorem e_105_134 : pg_code 105 134 = some (.ifCond .eq 7, 3, 141, 0) := by decide +kernel
theorem u_105_134 {a : Int32} {lv : am_L} {st : List Value} : am_W G (am_M G d) 105 K 134 lv (.int a :: st) h nc ns = (am_br (a = 0) (am_W G (am_M G d) 105 K 141 lv st h nc ns) (am_W G (am_M G d) 105 K 137 lv st h nc ns)) := am_u e_105_134
theorem e_105_137 : pg_code 105 137 = some (.iconst 1, 1, 0, 0) := by decide +kernel
theorem u_105_137 {lv : am_L} {st : List Value} : am_W G (am_M G d) 105 K 137 lv st h nc ns = (am_W G (am_M G d) 105 K 138 lv (.int 1 :: st) h nc ns) := am_u e_105_137
theorem e_105_138 : pg_code 105 138 = some (.goto 4, 3, 142, 0) := by decide +kernel
theorem u_105_138 {lv : am_L} {st : List Value} : am_W G (am_M G d) 105 K 138 lv st h nc ns = (am_W G (am_M G d) 105 K 142 lv st h nc ns) := am_u e_105_138
theorem e_105_141 : pg_code 105 141 = some (.iconst 0, 1, 0, 0) := by decide +kernel
theorem u_105_141 {lv : am_L} {st : List Value} : am_W G (am_M G d) 105 K 141 lv st h nc ns = (am_W G (am_M G d) 105 K 142 lv (.int 0 :: st) h nc ns) := am_u e_105_141
theorem e_105_142 : pg_code 105 142 = some (.ireturn, 1, 0, 0) := by decide +kernel
theorem u_105_142 {a : Int32} {lv : am_L} : am_W G (am_M G d) 105 K 142 lv [.int a] h nc ns = (narrow .boolean (.int a) = .int a ∧ K (.inl (some (.int a))) h) := (am_u e_105_142).trans (f_z_eq rfl)
theorem e_106_0 : pg_code 106 0 = some (.iload_n 1, 1, 0, 0) := by decide +kernel
theorem u_106_0 {a : Int32} {z0 : Option Value} {lv : am_L} {st : List Value} : am_W G (am_M G d) 106 K 0 (z0 :: some (.int a) :: lv) st h nc ns = (am_W G (am_M G d) 106 K 1 (z0 :: some (.int a) :: lv) (.int a :: st) h nc ns) := am_u e_106_0
theorem e_106_1 : pg_code 106 1 = some (.ifCond .ge 16, 3, 17, 0) := by decide +kernel
theorem u_106_1 {a : Int32} {lv : am_L} {st : List Value} : am_W G (am_M G d) 106 K 1 lv (.int a :: st) h nc ns = (am_br (0 ≤ a) (am_W G (am_M G d) 106 K 17 lv st h nc ns) (am_W G (am_M G d) 106 K 4 lv st h nc ns)) := am_u e_106_1
theorem e_106_4 : pg_code 106 4 = some (.aload_n 0, 1, 0, 0) := by decide +kernel
theorem u_106_4 {a : Nat} {lv : am_L} {st : List Value} : am_W G (am_M G d) 106 K 4 (some (.ref a) :: lv) st h nc ns = (am_W G (am_M G d) 106 K 5 (some (.ref a) :: lv) (.ref a :: st) h nc ns) := am_u e_106_4
theorem e_106_5 : pg_code 106 5 = some (.getfield 51, 3, 7, 17) := by decide +kernel
theorem u_106_5 {a : Nat} {lv : am_L} {st : List Value} : am_W G (am_M G d) 106 K 5 lv (.ref a :: st) h nc ns = (f_gf G d 106 K 8 lv st h nc ns (h a) 7 17) := am_u e_106_5
theorem e_106_8 : pg_code 106 8 = some (.sipush 959, 3, 0, 0) := by decide +kernel
theorem u_106_8 {lv : am_L} {st : List Value} : am_W G (am_M G d) 106 K 8 lv st h nc ns = (am_W G (am_M G d) 106 K 11 lv (.int 959 :: st) h nc ns) := am_u e_106_8
theorem e_106_11 : pg_code 106 11 = some (.iload_n 1, 1, 0, 0) := by decide +kernel
theorem u_106_11 {a : Int32} {z0 : Option Value} {lv : am_L} {st : List Value} : am_W G (am_M G d) 106 K 11 (z0 :: some (.int a) :: lv) st h nc ns = (am_W G (am_M G d) 106 K 12 (z0 :: some (.int a) :: lv) (.int a :: st) h nc ns) := am_u e_106_11
theorem e_106_12 : pg_code 106 12 = some (.isub, 1, 0, 0) := by decide +kernel
theorem u_106_12 {a b : Int32} {lv : am_L} {st : List Value} : am_W G (am_M G d) 106 K 12 lv (.int b :: .int a :: st) h nc ns = (am_W G (am_M G d) 106 K 13 lv (.int (a - b) :: st) h nc ns) := am_u e_106_12
theorem e_106_13 : pg_code 106 13 = some (.laload, 1, 0, 0) := by decide +kernel
theorem u_106_13 {a : Nat} {j : Int32} {lv : am_L} {st : List Value} : am_W G (am_M G d) 106 K 13 lv (.int j :: .ref a :: st) h nc ns = (f_la G d 106 K 14 lv st h nc ns (h a) j) := am_u e_106_13
theorem e_106_14 : pg_code 106 14 = some (.goto 12, 3, 26, 0) := by decide +kernel
theorem u_106_14 {lv : am_L} {st : List Value} : am_W G (am_M G d) 106 K 14 lv st h nc ns = (am_W G (am_M G d) 106 K 26 lv st h nc ns) := am_u e_106_14
theorem e_106_17 : pg_code 106 17 = some (.aload_n 0, 1, 0, 0) := by decide +kernel
theorem u_106_17 {a : Nat} {lv : am_L} {st : List Value} : am_W G (am_M G d) 106 K 17 (some (.ref a) :: lv) st h nc ns = (am_W G (am_M G d) 106 K 18 (some (.ref a) :: lv) (.ref a :: st) h nc ns) := am_u e_106_17
theorem e_106_18 : pg_code 106 18 = some (.getfield 26, 3, 7, 9) := by decide +kernel
theorem u_106_18 {a : Nat} {lv : am_L} {st : List Value} : am_W G (am_M G d) 106 K 18 lv (.ref a :: st) h nc ns = (f_gf G d 106 K 21 lv st h nc ns (h a) 7 9) := am_u e_106_18
theorem e_106_21 : pg_code 106 21 = some (.iload_n 1, 1, 0, 0) := by decide +kernel
theorem u_106_21 {a : Int32} {z0 : Option Value} {lv : am_L} {st : List Value} : am_W G (am_M G d) 106 K 21 (z0 :: some (.int a) :: lv) st h nc ns = (am_W G (am_M G d) 106 K 22 (z0 :: some (.int a) :: lv) (.int a :: st) h nc ns) := am_u e_106_21
theorem e_106_22 : pg_code 106 22 = some (.invokestatic 116, 3, 91, 1) := by decide +kernel
theorem u_106_22 {v0 : Value} {lv : am_L} {st : List Value} : am_W G (am_M G d) 106 K 22 lv (v0 :: st) h nc ns = ((am_words st ≤ 8 ∧ nc + 0 ≤ 0 ∧ ns + 0 ≤ 0) ∧ am_M G d 91 [v0] h (am_back 106 K (am_W G (am_M G d) 106 K) 91 22 lv st nc ns)) := (am_u e_106_22).trans (f_st_eq (G := G) (d := d) (k := 106) (K := K) (pc := 22) (lv := lv) (st := st) (h := h) (nc := nc) (ns := ns) (x := 91) (X := am_W G (am_M G d) 106 K) [v0] (by decide) rfl)
theorem e_106_25 : pg_code 106 25 = some (.laload, 1, 0, 0) := by decide +kernel
theorem u_106_25 {a : Nat} {j : Int32} {lv : am_L} {st : List Value} : am_W G (am_M G d) 106 K 25 lv (.int j :: .ref a :: st) h nc ns = (f_la G d 106 K 26 lv st h nc ns (h a) j) := am_u e_106_25
theorem e_106_26 : pg_code 106 26 = some (.lreturn, 1, 0, 0) := by decide +kernel
theorem u_106_26 {a : Int64} {lv : am_L} : am_W G (am_M G d) 106 K 26 lv [.long a] h nc ns = (K (.inl (some (.long a))) h) := (am_u e_106_26).trans (f_t ⟨rfl, rfl⟩)
theorem e_107_0 : pg_code 107 0 = some (.iload_n 1, 1, 0, 0) := by decide +kernel
theorem u_107_0 {a : Int32} {z0 : Option Value} {lv : am_L} {st : List Value} : am_W G (am_M G d) 107 K 0 (z0 :: some (.int a) :: lv) st h nc ns = (am_W G (am_M G d) 107 K 1 (z0 :: some (.int a) :: lv) (.int a :: st) h nc ns) := am_u e_107_0
theorem e_107_1 : pg_code 107 1 = some (.invokestatic 116, 3, 91, 1) := by decide +kernel
theorem u_107_1 {v0 : Value} {lv : am_L} {st : List Value} : am_W G (am_M G d) 107 K 1 lv (v0 :: st) h nc ns = ((am_words st ≤ 8 ∧ nc + 0 ≤ 0 ∧ ns + 0 ≤ 0) ∧ am_M G d 91 [v0] h (am_back 107 K (am_W G (am_M G d) 107 K) 91 1 lv st nc ns)) := (am_u e_107_1).trans (f_st_eq (G := G) (d := d) (k := 107) (K := K) (pc := 1) (lv := lv) (st := st) (h := h) (nc := nc) (ns := ns) (x := 91) (X := am_W G (am_M G d) 107 K) [v0] (by decide) rfl)
theorem e_107_4 : pg_code 107 4 = some (.istore_n 2, 1, 0, 0) := by decide +kernel
theorem u_107_4 {a : Int32} {lv : am_L} {st : List Value} : am_W G (am_M G d) 107 K 4 lv (.int a :: st) h nc ns = (am_W G (am_M G d) 107 K 5 (am_st1 lv 2 (.int a)) st h nc ns) := (am_u e_107_4).trans (f_t (by decide +kernel))
theorem e_107_5 : pg_code 107 5 = some (.aload_n 0, 1, 0, 0) := by decide +kernel
theorem u_107_5 {a : Nat} {lv : am_L} {st : List Value} : am_W G (am_M G d) 107 K 5 (some (.ref a) :: lv) st h nc ns = (am_W G (am_M G d) 107 K 6 (some (.ref a) :: lv) (.ref a :: st) h nc ns) := am_u e_107_5
theorem e_107_6 : pg_code 107 6 = some (.aload_n 0, 1, 0, 0) := by decide +kernel
theorem u_107_6 {a : Nat} {lv : am_L} {st : List Value} : am_W G (am_M G d) 107 K 6 (some (.ref a) :: lv) st h nc ns = (am_W G (am_M G d) 107 K 7 (some (.ref a) :: lv) (.ref a :: st) h nc ns) := am_u e_107_6
theorem e_107_7 : pg_code 107 7 = some (.getfield 13, 3, 7, 5) := by decide +kernel
theorem u_107_7 {a : Nat} {lv : am_L} {st : List Value} : am_W G (am_M G d) 107 K 7 lv (.ref a :: st) h nc ns = (f_gf G d 107 K 10 lv st h nc ns (h a) 7 5) := am_u e_107_7
theorem e_107_10 : pg_code 107 10 = some (.iload_n 2, 1, 0, 0) := by decide +kernel
theorem u_107_10 {a : Int32} {z0 : Option Value} {z1 : Option Value} {lv : am_L} {st : List Value} : am_W G (am_M G d) 107 K 10 (z0 :: z1 :: some (.int a) :: lv) st h nc ns = (am_W G (am_M G d) 107 K 11 (z0 :: z1 :: some (.int a) :: lv) (.int a :: st) h nc ns) := am_u e_107_10
theorem e_107_11 : pg_code 107 11 = some (.iaload, 1, 0, 0) := by decide +kernel
theorem u_107_11 {a : Nat} {j : Int32} {lv : am_L} {st : List Value} : am_W G (am_M G d) 107 K 11 lv (.int j :: .ref a :: st) h nc ns = (f_ia G d 107 K 12 lv st h nc ns (h a) .int j) := am_u e_107_11
theorem e_107_12 : pg_code 107 12 = some (.invokevirtual 139, 3, 106, 2) := by decide +kernel
theorem u_107_12 {a : Nat} {v0 : Value} {lv : am_L} {st : List Value} : am_W G (am_M G d) 107 K 12 lv (v0 :: .ref a :: st) h nc ns = ((am_words st ≤ 8 ∧ nc + 0 ≤ 0 ∧ ns + 0 ≤ 0 ∧ f_rc (h a) 7) ∧ am_M G d 106 [.ref a, v0] h (am_back 107 K (am_W G (am_M G d) 107 K) 106 12 lv st nc ns)) := (am_u e_107_12).trans (f_iv_eq (a := a) (G := G) (d := d) (k := 107) (K := K) (pc := 12) (lv := lv) (st := st) (h := h) (nc := nc) (ns := ns) (x := 106) (X := am_W G (am_M G d) 107 K) [v0] (by decide) rfl)
theorem e_107_15 : pg_code 107 15 = some (.lstore_n 3, 1, 0, 0) := by decide +kernel
theorem u_107_15 {a : Int64} {lv : am_L} {st : List Value} : am_W G (am_M G d) 107 K 15 lv (.long a :: st) h nc ns = (am_W G (am_M G d) 107 K 16 (am_st2 lv 3 (.long a)) st h nc ns) := (am_u e_107_15).trans (f_t (by decide +kernel))
theorem e_107_16 : pg_code 107 16 = some (.aload_n 0, 1, 0, 0) := by decide +kernel
theorem u_107_16 {a : Nat} {lv : am_L} {st : List Value} : am_W G (am_M G d) 107 K 16 (some (.ref a) :: lv) st h nc ns = (am_W G (am_M G d) 107 K 17 (some (.ref a) :: lv) (.ref a :: st) h nc ns) := am_u e_107_16
theorem e_107_17 : pg_code 107 17 = some (.aload_n 0, 1, 0, 0) := by decide +kernel
theorem u_107_17 {a : Nat} {lv : am_L} {st : List Value} : am_W G (am_M G d) 107 K 17 (some (.ref a) :: lv) st h nc ns = (am_W G (am_M G d) 107 K 18 (some (.ref a) :: lv) (.ref a :: st) h nc ns) := am_u e_107_17
theorem e_107_18 : pg_code 107 18 = some (.getfield 16, 3, 7, 6) := by decide +kernel
theorem u_107_18 {a : Nat} {lv : am_L} {st : List Value} : am_W G (am_M G d) 107 K 18 lv (.ref a :: st) h nc ns = (f_gf G d 107 K 21 lv st h nc ns (h a) 7 6) := am_u e_107_18
theorem e_107_21 : pg_code 107 21 = some (.iload_n 2, 1, 0, 0) := by decide +kernel
theorem u_107_21 {a : Int32} {z0 : Option Value} {z1 : Option Value} {lv : am_L} {st : List Value} : am_W G (am_M G d) 107 K 21 (z0 :: z1 :: some (.int a) :: lv) st h nc ns = (am_W G (am_M G d) 107 K 22 (z0 :: z1 :: some (.int a) :: lv) (.int a :: st) h nc ns) := am_u e_107_21
theorem e_107_22 : pg_code 107 22 = some (.iaload, 1, 0, 0) := by decide +kernel
theorem u_107_22 {a : Nat} {j : Int32} {lv : am_L} {st : List Value} : am_W G (am_M G d) 107 K 22 lv (.int j :: .ref a :: st) h nc ns = (f_ia G d 107 K 23 lv st h nc ns (h a) .int j) := am_u e_107_22
theorem e_107_23 : pg_code 107 23 = some (.invokevirtual 139, 3, 106, 2) := by decide +kernel
theorem u_107_23 {a : Nat} {v0 : Value} {lv : am_L} {st : List Value} : am_W G (am_M G d) 107 K 23 lv (v0 :: .ref a :: st) h nc ns = ((am_words st ≤ 8 ∧ nc + 0 ≤ 0 ∧ ns + 0 ≤ 0 ∧ f_rc (h a) 7) ∧ am_M G d 106 [.ref a, v0] h (am_back 107 K (am_W G (am_M G d) 107 K) 106 23 lv st nc ns)) := (am_u e_107_23).trans (f_iv_eq (a := a) (G := G) (d := d) (k := 107) (K := K) (pc := 23) (lv := lv) (st := st) (h := h) (nc := nc) (ns := ns) (x := 106) (X := am_W G (am_M G d) 107 K) [v0] (by decide) rfl)
theorem e_107_26 : pg_code 107 26 = some (.lstore 5, 2, 0, 0) := by decide +kernel
theorem u_107_26 {a : Int64} {lv : am_L} {st : List Value} : am_W G (am_M G d) 107 K 26 lv (.long a :: st) h nc ns = (am_W G (am_M G d) 107 K 28 (am_st2 lv 5 (.long a)) st h nc ns) := (am_u e_107_26).trans (f_t (by decide +kernel))
theorem e_107_28 : pg_code 107 28 = some (.aload_n 0, 1, 0, 0) := by decide +kernel
theorem u_107_28 {a : Nat} {lv : am_L} {st : List Value} : am_W G (am_M G d) 107 K 28 (some (.ref a) :: lv) st h nc ns = (am_W G (am_M G d) 107 K 29 (some (.ref a) :: lv) (.ref a :: st) h nc ns) := am_u e_107_28
theorem e_107_29 : pg_code 107 29 = some (.getfield 48, 3, 7, 16) := by decide +kernel
theorem u_107_29 {a : Nat} {lv : am_L} {st : List Value} : am_W G (am_M G d) 107 K 29 lv (.ref a :: st) h nc ns = (f_gf G d 107 K 32 lv st h nc ns (h a) 7 16) := am_u e_107_29
theorem e_107_32 : pg_code 107 32 = some (.iload_n 2, 1, 0, 0) := by decide +kernel
theorem u_107_32 {a : Int32} {z0 : Option Value} {z1 : Option Value} {lv : am_L} {st : List Value} : am_W G (am_M G d) 107 K 32 (z0 :: z1 :: some (.int a) :: lv) st h nc ns = (am_W G (am_M G d) 107 K 33 (z0 :: z1 :: some (.int a) :: lv) (.int a :: st) h nc ns) := am_u e_107_32
theorem e_107_33 : pg_code 107 33 = some (.iconst 1, 1, 0, 0) := by decide +kernel
theorem u_107_33 {lv : am_L} {st : List Value} : am_W G (am_M G d) 107 K 33 lv st h nc ns = (am_W G (am_M G d) 107 K 34 lv (.int 1 :: st) h nc ns) := am_u e_107_33
theorem e_107_34 : pg_code 107 34 = some (.bastore, 1, 0, 0) := by decide +kernel
theorem u_107_34 {a : Nat} {j b : Int32} {lv : am_L} {st : List Value} : am_W G (am_M G d) 107 K 34 lv (.int b :: .int j :: .ref a :: st) h nc ns = (f_is G d 107 K 35 lv st h nc ns (h a) .boolean a j (vp_nar .boolean b)) := am_u e_107_34
theorem e_107_35 : pg_code 107 35 = some (.aload_n 0, 1, 0, 0) := by decide +kernel
theorem u_107_35 {a : Nat} {lv : am_L} {st : List Value} : am_W G (am_M G d) 107 K 35 (some (.ref a) :: lv) st h nc ns = (am_W G (am_M G d) 107 K 36 (some (.ref a) :: lv) (.ref a :: st) h nc ns) := am_u e_107_35
theorem e_107_36 : pg_code 107 36 = some (.getfield 30, 3, 7, 10) := by decide +kernel
theorem u_107_36 {a : Nat} {lv : am_L} {st : List Value} : am_W G (am_M G d) 107 K 36 lv (.ref a :: st) h nc ns = (f_gf G d 107 K 39 lv st h nc ns (h a) 7 10) := am_u e_107_36
theorem e_107_39 : pg_code 107 39 = some (.iload_n 2, 1, 0, 0) := by decide +kernel
theorem u_107_39 {a : Int32} {z0 : Option Value} {z1 : Option Value} {lv : am_L} {st : List Value} : am_W G (am_M G d) 107 K 39 (z0 :: z1 :: some (.int a) :: lv) st h nc ns = (am_W G (am_M G d) 107 K 40 (z0 :: z1 :: some (.int a) :: lv) (.int a :: st) h nc ns) := am_u e_107_39
theorem e_107_40 : pg_code 107 40 = some (.aload_n 0, 1, 0, 0) := by decide +kernel
theorem u_107_40 {a : Nat} {lv : am_L} {st : List Value} : am_W G (am_M G d) 107 K 40 (some (.ref a) :: lv) st h nc ns = (am_W G (am_M G d) 107 K 41 (some (.ref a) :: lv) (.ref a :: st) h nc ns) := am_u e_107_40
theorem e_107_41 : pg_code 107 41 = some (.getfield 7, 3, 7, 4) := by decide +kernel
theorem u_107_41 {a : Nat} {lv : am_L} {st : List Value} : am_W G (am_M G d) 107 K 41 lv (.ref a :: st) h nc ns = (f_gf G d 107 K 44 lv st h nc ns (h a) 7 4) := am_u e_107_41
theorem e_107_44 : pg_code 107 44 = some (.iload_n 2, 1, 0, 0) := by decide +kernel
theorem u_107_44 {a : Int32} {z0 : Option Value} {z1 : Option Value} {lv : am_L} {st : List Value} : am_W G (am_M G d) 107 K 44 (z0 :: z1 :: some (.int a) :: lv) st h nc ns = (am_W G (am_M G d) 107 K 45 (z0 :: z1 :: some (.int a) :: lv) (.int a :: st) h nc ns) := am_u e_107_44
theorem e_107_45 : pg_code 107 45 = some (.iaload, 1, 0, 0) := by decide +kernel
theorem u_107_45 {a : Nat} {j : Int32} {lv : am_L} {st : List Value} : am_W G (am_M G d) 107 K 45 lv (.int j :: .ref a :: st) h nc ns = (f_ia G d 107 K 46 lv st h nc ns (h a) .int j) := am_u e_107_45
theorem e_107_46 : pg_code 107 46 = some (.iastore, 1, 0, 0) := by decide +kernel
theorem u_107_46 {a : Nat} {j b : Int32} {lv : am_L} {st : List Value} : am_W G (am_M G d) 107 K 46 lv (.int b :: .int j :: .ref a :: st) h nc ns = (f_is G d 107 K 47 lv st h nc ns (h a) .int a j b) := am_u e_107_46
theorem e_107_47 : pg_code 107 47 = some (.aload_n 0, 1, 0, 0) := by decide +kernel
theorem u_107_47 {a : Nat} {lv : am_L} {st : List Value} : am_W G (am_M G d) 107 K 47 (some (.ref a) :: lv) st h nc ns = (am_W G (am_M G d) 107 K 48 (some (.ref a) :: lv) (.ref a :: st) h nc ns) := am_u e_107_47
theorem e_107_48 : pg_code 107 48 = some (.getfield 33, 3, 7, 11) := by decide +kernel
theorem u_107_48 {a : Nat} {lv : am_L} {st : List Value} : am_W G (am_M G d) 107 K 48 lv (.ref a :: st) h nc ns = (f_gf G d 107 K 51 lv st h nc ns (h a) 7 11) := am_u e_107_48
theorem e_107_51 : pg_code 107 51 = some (.iload_n 2, 1, 0, 0) := by decide +kernel
theorem u_107_51 {a : Int32} {z0 : Option Value} {z1 : Option Value} {lv : am_L} {st : List Value} : am_W G (am_M G d) 107 K 51 (z0 :: z1 :: some (.int a) :: lv) st h nc ns = (am_W G (am_M G d) 107 K 52 (z0 :: z1 :: some (.int a) :: lv) (.int a :: st) h nc ns) := am_u e_107_51
theorem e_107_52 : pg_code 107 52 = some (.aload_n 0, 1, 0, 0) := by decide +kernel
theorem u_107_52 {a : Nat} {lv : am_L} {st : List Value} : am_W G (am_M G d) 107 K 52 (some (.ref a) :: lv) st h nc ns = (am_W G (am_M G d) 107 K 53 (some (.ref a) :: lv) (.ref a :: st) h nc ns) := am_u e_107_52
theorem e_107_53 : pg_code 107 53 = some (.getfield 13, 3, 7, 5) := by decide +kernel
theorem u_107_53 {a : Nat} {lv : am_L} {st : List Value} : am_W G (am_M G d) 107 K 53 lv (.ref a :: st) h nc ns = (f_gf G d 107 K 56 lv st h nc ns (h a) 7 5) := am_u e_107_53
theorem e_107_56 : pg_code 107 56 = some (.iload_n 2, 1, 0, 0) := by decide +kernel
theorem u_107_56 {a : Int32} {z0 : Option Value} {z1 : Option Value} {lv : am_L} {st : List Value} : am_W G (am_M G d) 107 K 56 (z0 :: z1 :: some (.int a) :: lv) st h nc ns = (am_W G (am_M G d) 107 K 57 (z0 :: z1 :: some (.int a) :: lv) (.int a :: st) h nc ns) := am_u e_107_56
theorem e_107_57 : pg_code 107 57 = some (.iaload, 1, 0, 0) := by decide +kernel
theorem u_107_57 {a : Nat} {j : Int32} {lv : am_L} {st : List Value} : am_W G (am_M G d) 107 K 57 lv (.int j :: .ref a :: st) h nc ns = (f_ia G d 107 K 58 lv st h nc ns (h a) .int j) := am_u e_107_57
theorem e_107_58 : pg_code 107 58 = some (.iastore, 1, 0, 0) := by decide +kernel
theorem u_107_58 {a : Nat} {j b : Int32} {lv : am_L} {st : List Value} : am_W G (am_M G d) 107 K 58 lv (.int b :: .int j :: .ref a :: st) h nc ns = (f_is G d 107 K 59 lv st h nc ns (h a) .int a j b) := am_u e_107_58
theorem e_107_59 : pg_code 107 59 = some (.aload_n 0, 1, 0, 0) := by decide +kernel
theorem u_107_59 {a : Nat} {lv : am_L} {st : List Value} : am_W G (am_M G d) 107 K 59 (some (.ref a) :: lv) st h nc ns = (am_W G (am_M G d) 107 K 60 (some (.ref a) :: lv) (.ref a :: st) h nc ns) := am_u e_107_59
theorem e_107_60 : pg_code 107 60 = some (.getfield 36, 3, 7, 12) := by decide +kernel
theorem u_107_60 {a : Nat} {lv : am_L} {st : List Value} : am_W G (am_M G d) 107 K 60 lv (.ref a :: st) h nc ns = (f_gf G d 107 K 63 lv st h nc ns (h a) 7 12) := am_u e_107_60
theorem e_107_63 : pg_code 107 63 = some (.iload_n 2, 1, 0, 0) := by decide +kernel
theorem u_107_63 {a : Int32} {z0 : Option Value} {z1 : Option Value} {lv : am_L} {st : List Value} : am_W G (am_M G d) 107 K 63 (z0 :: z1 :: some (.int a) :: lv) st h nc ns = (am_W G (am_M G d) 107 K 64 (z0 :: z1 :: some (.int a) :: lv) (.int a :: st) h nc ns) := am_u e_107_63
theorem e_107_64 : pg_code 107 64 = some (.aload_n 0, 1, 0, 0) := by decide +kernel
theorem u_107_64 {a : Nat} {lv : am_L} {st : List Value} : am_W G (am_M G d) 107 K 64 (some (.ref a) :: lv) st h nc ns = (am_W G (am_M G d) 107 K 65 (some (.ref a) :: lv) (.ref a :: st) h nc ns) := am_u e_107_64
theorem e_107_65 : pg_code 107 65 = some (.getfield 16, 3, 7, 6) := by decide +kernel
theorem u_107_65 {a : Nat} {lv : am_L} {st : List Value} : am_W G (am_M G d) 107 K 65 lv (.ref a :: st) h nc ns = (f_gf G d 107 K 68 lv st h nc ns (h a) 7 6) := am_u e_107_65
theorem e_107_68 : pg_code 107 68 = some (.iload_n 2, 1, 0, 0) := by decide +kernel
theorem u_107_68 {a : Int32} {z0 : Option Value} {z1 : Option Value} {lv : am_L} {st : List Value} : am_W G (am_M G d) 107 K 68 (z0 :: z1 :: some (.int a) :: lv) st h nc ns = (am_W G (am_M G d) 107 K 69 (z0 :: z1 :: some (.int a) :: lv) (.int a :: st) h nc ns) := am_u e_107_68
theorem e_107_69 : pg_code 107 69 = some (.iaload, 1, 0, 0) := by decide +kernel
theorem u_107_69 {a : Nat} {j : Int32} {lv : am_L} {st : List Value} : am_W G (am_M G d) 107 K 69 lv (.int j :: .ref a :: st) h nc ns = (f_ia G d 107 K 70 lv st h nc ns (h a) .int j) := am_u e_107_69
theorem e_107_70 : pg_code 107 70 = some (.iastore, 1, 0, 0) := by decide +kernel
theorem u_107_70 {a : Nat} {j b : Int32} {lv : am_L} {st : List Value} : am_W G (am_M G d) 107 K 70 lv (.int b :: .int j :: .ref a :: st) h nc ns = (f_is G d 107 K 71 lv st h nc ns (h a) .int a j b) := am_u e_107_70
theorem e_107_71 : pg_code 107 71 = some (.aload_n 0, 1, 0, 0) := by decide +kernel
theorem u_107_71 {a : Nat} {lv : am_L} {st : List Value} : am_W G (am_M G d) 107 K 71 (some (.ref a) :: lv) st h nc ns = (am_W G (am_M G d) 107 K 72 (some (.ref a) :: lv) (.ref a :: st) h nc ns) := am_u e_107_71
theorem e_107_72 : pg_code 107 72 = some (.getfield 39, 3, 7, 13) := by decide +kernel
theorem u_107_72 {a : Nat} {lv : am_L} {st : List Value} : am_W G (am_M G d) 107 K 72 lv (.ref a :: st) h nc ns = (f_gf G d 107 K 75 lv st h nc ns (h a) 7 13) := am_u e_107_72
theorem e_107_75 : pg_code 107 75 = some (.iload_n 2, 1, 0, 0) := by decide +kernel
theorem u_107_75 {a : Int32} {z0 : Option Value} {z1 : Option Value} {lv : am_L} {st : List Value} : am_W G (am_M G d) 107 K 75 (z0 :: z1 :: some (.int a) :: lv) st h nc ns = (am_W G (am_M G d) 107 K 76 (z0 :: z1 :: some (.int a) :: lv) (.int a :: st) h nc ns) := am_u e_107_75
theorem e_107_76 : pg_code 107 76 = some (.aload_n 0, 1, 0, 0) := by decide +kernel
theorem u_107_76 {a : Nat} {lv : am_L} {st : List Value} : am_W G (am_M G d) 107 K 76 (some (.ref a) :: lv) st h nc ns = (am_W G (am_M G d) 107 K 77 (some (.ref a) :: lv) (.ref a :: st) h nc ns) := am_u e_107_76
theorem e_107_77 : pg_code 107 77 = some (.getfield 19, 3, 7, 7) := by decide +kernel
theorem u_107_77 {a : Nat} {lv : am_L} {st : List Value} : am_W G (am_M G d) 107 K 77 lv (.ref a :: st) h nc ns = (f_gf G d 107 K 80 lv st h nc ns (h a) 7 7) := am_u e_107_77
theorem e_107_80 : pg_code 107 80 = some (.iload_n 2, 1, 0, 0) := by decide +kernel
theorem u_107_80 {a : Int32} {z0 : Option Value} {z1 : Option Value} {lv : am_L} {st : List Value} : am_W G (am_M G d) 107 K 80 (z0 :: z1 :: some (.int a) :: lv) st h nc ns = (am_W G (am_M G d) 107 K 81 (z0 :: z1 :: some (.int a) :: lv) (.int a :: st) h nc ns) := am_u e_107_80
theorem e_107_81 : pg_code 107 81 = some (.baload, 1, 0, 0) := by decide +kernel
theorem u_107_81 {a : Nat} {j : Int32} {lv : am_L} {st : List Value} : am_W G (am_M G d) 107 K 81 lv (.int j :: .ref a :: st) h nc ns = (f_ia G d 107 K 82 lv st h nc ns (h a) .boolean j) := am_u e_107_81
theorem e_107_82 : pg_code 107 82 = some (.bastore, 1, 0, 0) := by decide +kernel
theorem u_107_82 {a : Nat} {j b : Int32} {lv : am_L} {st : List Value} : am_W G (am_M G d) 107 K 82 lv (.int b :: .int j :: .ref a :: st) h nc ns = (f_is G d 107 K 83 lv st h nc ns (h a) .boolean a j (vp_nar .boolean b)) := am_u e_107_82
theorem e_107_83 : pg_code 107 83 = some (.aload_n 0, 1, 0, 0) := by decide +kernel
theorem u_107_83 {a : Nat} {lv : am_L} {st : List Value} : am_W G (am_M G d) 107 K 83 (some (.ref a) :: lv) st h nc ns = (am_W G (am_M G d) 107 K 84 (some (.ref a) :: lv) (.ref a :: st) h nc ns) := am_u e_107_83
theorem e_107_84 : pg_code 107 84 = some (.getfield 42, 3, 7, 14) := by decide +kernel
theorem u_107_84 {a : Nat} {lv : am_L} {st : List Value} : am_W G (am_M G d) 107 K 84 lv (.ref a :: st) h nc ns = (f_gf G d 107 K 87 lv st h nc ns (h a) 7 14) := am_u e_107_84
theorem e_107_87 : pg_code 107 87 = some (.iload_n 2, 1, 0, 0) := by decide +kernel
theorem u_107_87 {a : Int32} {z0 : Option Value} {z1 : Option Value} {lv : am_L} {st : List Value} : am_W G (am_M G d) 107 K 87 (z0 :: z1 :: some (.int a) :: lv) st h nc ns = (am_W G (am_M G d) 107 K 88 (z0 :: z1 :: some (.int a) :: lv) (.int a :: st) h nc ns) := am_u e_107_87
theorem e_107_88 : pg_code 107 88 = some (.lload_n 3, 1, 0, 0) := by decide +kernel
theorem u_107_88 {a : Int64} {z0 : Option Value} {z1 : Option Value} {z2 : Option Value} {lv : am_L} {st : List Value} : am_W G (am_M G d) 107 K 88 (z0 :: z1 :: z2 :: some (.long a) :: lv) st h nc ns = (am_W G (am_M G d) 107 K 89 (z0 :: z1 :: z2 :: some (.long a) :: lv) (.long a :: st) h nc ns) := am_u e_107_88
theorem e_107_89 : pg_code 107 89 = some (.lastore, 1, 0, 0) := by decide +kernel
theorem u_107_89 {a : Nat} {j : Int32} {b : Int64} {lv : am_L} {st : List Value} : am_W G (am_M G d) 107 K 89 lv (.long b :: .int j :: .ref a :: st) h nc ns = (f_ls G d 107 K 90 lv st h nc ns (h a) a j b) := am_u e_107_89
theorem e_107_90 : pg_code 107 90 = some (.aload_n 0, 1, 0, 0) := by decide +kernel
theorem u_107_90 {a : Nat} {lv : am_L} {st : List Value} : am_W G (am_M G d) 107 K 90 (some (.ref a) :: lv) st h nc ns = (am_W G (am_M G d) 107 K 91 (some (.ref a) :: lv) (.ref a :: st) h nc ns) := am_u e_107_90
theorem e_107_91 : pg_code 107 91 = some (.getfield 45, 3, 7, 15) := by decide +kernel
theorem u_107_91 {a : Nat} {lv : am_L} {st : List Value} : am_W G (am_M G d) 107 K 91 lv (.ref a :: st) h nc ns = (f_gf G d 107 K 94 lv st h nc ns (h a) 7 15) := am_u e_107_91
theorem e_107_94 : pg_code 107 94 = some (.iload_n 2, 1, 0, 0) := by decide +kernel
theorem u_107_94 {a : Int32} {z0 : Option Value} {z1 : Option Value} {lv : am_L} {st : List Value} : am_W G (am_M G d) 107 K 94 (z0 :: z1 :: some (.int a) :: lv) st h nc ns = (am_W G (am_M G d) 107 K 95 (z0 :: z1 :: some (.int a) :: lv) (.int a :: st) h nc ns) := am_u e_107_94
theorem e_107_95 : pg_code 107 95 = some (.lload 5, 2, 0, 0) := by decide +kernel
theorem u_107_95 {a : Int64} {z0 : Option Value} {z1 : Option Value} {z2 : Option Value} {z3 : Option Value} {z4 : Option Value} {lv : am_L} {st : List Value} : am_W G (am_M G d) 107 K 95 (z0 :: z1 :: z2 :: z3 :: z4 :: some (.long a) :: lv) st h nc ns = (am_W G (am_M G d) 107 K 97 (z0 :: z1 :: z2 :: z3 :: z4 :: some (.long a) :: lv) (.long a :: st) h nc ns) := am_u e_107_95
theorem e_107_97 : pg_code 107 97 = some (.lastore, 1, 0, 0) := by decide +kernel
theorem u_107_97 {a : Nat} {j : Int32} {b : Int64} {lv : am_L} {st : List Value} : am_W G (am_M G d) 107 K 97 lv (.long b :: .int j :: .ref a :: st) h nc ns = (f_ls G d 107 K 98 lv st h nc ns (h a) a j b) := am_u e_107_97
theorem e_107_98 : pg_code 107 98 = some (.aload_n 0, 1, 0, 0) := by decide +kernel
theorem u_107_98 {a : Nat} {lv : am_L} {st : List Value} : am_W G (am_M G d) 107 K 98 (some (.ref a) :: lv) st h nc ns = (am_W G (am_M G d) 107 K 99 (some (.ref a) :: lv) (.ref a :: st) h nc ns) := am_u e_107_98
theorem e_107_99 : pg_code 107 99 = some (.getfield 75, 3, 7, 28) := by decide +kernel
theorem u_107_99 {a : Nat} {lv : am_L} {st : List Value} : am_W G (am_M G d) 107 K 99 lv (.ref a :: st) h nc ns = (f_gf G d 107 K 102 lv st h nc ns (h a) 7 28) := am_u e_107_99
theorem e_107_102 : pg_code 107 102 = some (.aload_n 0, 1, 0, 0) := by decide +kernel
theorem u_107_102 {a : Nat} {lv : am_L} {st : List Value} : am_W G (am_M G d) 107 K 102 (some (.ref a) :: lv) st h nc ns = (am_W G (am_M G d) 107 K 103 (some (.ref a) :: lv) (.ref a :: st) h nc ns) := am_u e_107_102
theorem e_107_103 : pg_code 107 103 = some (.getfield 143, 3, 7, 26) := by decide +kernel
theorem u_107_103 {a : Nat} {lv : am_L} {st : List Value} : am_W G (am_M G d) 107 K 103 lv (.ref a :: st) h nc ns = (f_gf G d 107 K 106 lv st h nc ns (h a) 7 26) := am_u e_107_103
theorem e_107_106 : pg_code 107 106 = some (.iload_n 1, 1, 0, 0) := by decide +kernel
theorem u_107_106 {a : Int32} {z0 : Option Value} {lv : am_L} {st : List Value} : am_W G (am_M G d) 107 K 106 (z0 :: some (.int a) :: lv) st h nc ns = (am_W G (am_M G d) 107 K 107 (z0 :: some (.int a) :: lv) (.int a :: st) h nc ns) := am_u e_107_106
theorem e_107_107 : pg_code 107 107 = some (.iastore, 1, 0, 0) := by decide +kernel
theorem u_107_107 {a : Nat} {j b : Int32} {lv : am_L} {st : List Value} : am_W G (am_M G d) 107 K 107 lv (.int b :: .int j :: .ref a :: st) h nc ns = (f_is G d 107 K 108 lv st h nc ns (h a) .int a j b) := am_u e_107_107
theorem e_107_108 : pg_code 107 108 = some (.aload_n 0, 1, 0, 0) := by decide +kernel
theorem u_107_108 {a : Nat} {lv : am_L} {st : List Value} : am_W G (am_M G d) 107 K 108 (some (.ref a) :: lv) st h nc ns = (am_W G (am_M G d) 107 K 109 (some (.ref a) :: lv) (.ref a :: st) h nc ns) := am_u e_107_108
theorem e_107_109 : pg_code 107 109 = some (.dup, 1, 0, 0) := by decide +kernel
theorem u_107_109 {a : Nat} {lv : am_L} {st : List Value} : am_W G (am_M G d) 107 K 109 lv (.ref a :: st) h nc ns = (am_W G (am_M G d) 107 K 110 lv (.ref a :: .ref a :: st) h nc ns) := (am_u e_107_109).trans (f_t rfl)
theorem e_107_110 : pg_code 107 110 = some (.getfield 143, 3, 7, 26) := by decide +kernel
theorem u_107_110 {a : Nat} {lv : am_L} {st : List Value} : am_W G (am_M G d) 107 K 110 lv (.ref a :: st) h nc ns = (f_gf G d 107 K 113 lv st h nc ns (h a) 7 26) := am_u e_107_110
theorem e_107_113 : pg_code 107 113 = some (.iconst 1, 1, 0, 0) := by decide +kernel
theorem u_107_113 {lv : am_L} {st : List Value} : am_W G (am_M G d) 107 K 113 lv st h nc ns = (am_W G (am_M G d) 107 K 114 lv (.int 1 :: st) h nc ns) := am_u e_107_113
theorem e_107_114 : pg_code 107 114 = some (.iadd, 1, 0, 0) := by decide +kernel
theorem u_107_114 {a b : Int32} {lv : am_L} {st : List Value} : am_W G (am_M G d) 107 K 114 lv (.int b :: .int a :: st) h nc ns = (am_W G (am_M G d) 107 K 115 lv (.int (a + b) :: st) h nc ns) := am_u e_107_114
theorem e_107_115 : pg_code 107 115 = some (.putfield 143, 3, 7, 26) := by decide +kernel
theorem u_107_115 {a : Nat} {b : Int32} {lv : am_L} {st : List Value} : am_W G (am_M G d) 107 K 115 lv (.int b :: .ref a :: st) h nc ns = (f_pf G d 107 K 118 lv st h nc ns (h a) 7 26 a (.int b)) := (am_u e_107_115).trans (f_pf_eq ⟨rfl, rfl⟩)
theorem e_107_118 : pg_code 107 118 = some (.aload_n 0, 1, 0, 0) := by decide +kernel
theorem u_107_118 {a : Nat} {lv : am_L} {st : List Value} : am_W G (am_M G d) 107 K 118 (some (.ref a) :: lv) st h nc ns = (am_W G (am_M G d) 107 K 119 (some (.ref a) :: lv) (.ref a :: st) h nc ns) := am_u e_107_118
theorem e_107_119 : pg_code 107 119 = some (.getfield 19, 3, 7, 7) := by decide +kernel
theorem u_107_119 {a : Nat} {lv : am_L} {st : List Value} : am_W G (am_M G d) 107 K 119 lv (.ref a :: st) h nc ns = (f_gf G d 107 K 122 lv st h nc ns (h a) 7 7) := am_u e_107_119
theorem e_107_122 : pg_code 107 122 = some (.iload_n 2, 1, 0, 0) := by decide +kernel
theorem u_107_122 {a : Int32} {z0 : Option Value} {z1 : Option Value} {lv : am_L} {st : List Value} : am_W G (am_M G d) 107 K 122 (z0 :: z1 :: some (.int a) :: lv) st h nc ns = (am_W G (am_M G d) 107 K 123 (z0 :: z1 :: some (.int a) :: lv) (.int a :: st) h nc ns) := am_u e_107_122
theorem e_107_123 : pg_code 107 123 = some (.baload, 1, 0, 0) := by decide +kernel
theorem u_107_123 {a : Nat} {j : Int32} {lv : am_L} {st : List Value} : am_W G (am_M G d) 107 K 123 lv (.int j :: .ref a :: st) h nc ns = (f_ia G d 107 K 124 lv st h nc ns (h a) .boolean j) := am_u e_107_123
theorem e_107_124 : pg_code 107 124 = some (.ifCond .ne 20, 3, 144, 0) := by decide +kernel
theorem u_107_124 {a : Int32} {lv : am_L} {st : List Value} : am_W G (am_M G d) 107 K 124 lv (.int a :: st) h nc ns = (am_br (¬ a = 0) (am_W G (am_M G d) 107 K 144 lv st h nc ns) (am_W G (am_M G d) 107 K 127 lv st h nc ns)) := am_u e_107_124
theorem e_107_127 : pg_code 107 127 = some (.aload_n 0, 1, 0, 0) := by decide +kernel
theorem u_107_127 {a : Nat} {lv : am_L} {st : List Value} : am_W G (am_M G d) 107 K 127 (some (.ref a) :: lv) st h nc ns = (am_W G (am_M G d) 107 K 128 (some (.ref a) :: lv) (.ref a :: st) h nc ns) := am_u e_107_127
theorem e_107_128 : pg_code 107 128 = some (.getfield 7, 3, 7, 4) := by decide +kernel
theorem u_107_128 {a : Nat} {lv : am_L} {st : List Value} : am_W G (am_M G d) 107 K 128 lv (.ref a :: st) h nc ns = (f_gf G d 107 K 131 lv st h nc ns (h a) 7 4) := am_u e_107_128
theorem e_107_131 : pg_code 107 131 = some (.iload_n 2, 1, 0, 0) := by decide +kernel
theorem u_107_131 {a : Int32} {z0 : Option Value} {z1 : Option Value} {lv : am_L} {st : List Value} : am_W G (am_M G d) 107 K 131 (z0 :: z1 :: some (.int a) :: lv) st h nc ns = (am_W G (am_M G d) 107 K 132 (z0 :: z1 :: some (.int a) :: lv) (.int a :: st) h nc ns) := am_u e_107_131
theorem e_107_132 : pg_code 107 132 = some (.iaload, 1, 0, 0) := by decide +kernel
theorem u_107_132 {a : Nat} {j : Int32} {lv : am_L} {st : List Value} : am_W G (am_M G d) 107 K 132 lv (.int j :: .ref a :: st) h nc ns = (f_ia G d 107 K 133 lv st h nc ns (h a) .int j) := am_u e_107_132
theorem e_107_133 : pg_code 107 133 = some (.iconst 3, 1, 0, 0) := by decide +kernel
theorem u_107_133 {lv : am_L} {st : List Value} : am_W G (am_M G d) 107 K 133 lv st h nc ns = (am_W G (am_M G d) 107 K 134 lv (.int 3 :: st) h nc ns) := am_u e_107_133
theorem e_107_134 : pg_code 107 134 = some (.if_icmp .ne 14, 3, 148, 0) := by decide +kernel
theorem u_107_134 {a b : Int32} {lv : am_L} {st : List Value} : am_W G (am_M G d) 107 K 134 lv (.int b :: .int a :: st) h nc ns = (am_br (¬ a = b) (am_W G (am_M G d) 107 K 148 lv st h nc ns) (am_W G (am_M G d) 107 K 137 lv st h nc ns)) := am_u e_107_134
theorem e_107_137 : pg_code 107 137 = some (.lload 5, 2, 0, 0) := by decide +kernel
theorem u_107_137 {a : Int64} {z0 : Option Value} {z1 : Option Value} {z2 : Option Value} {z3 : Option Value} {z4 : Option Value} {lv : am_L} {st : List Value} : am_W G (am_M G d) 107 K 137 (z0 :: z1 :: z2 :: z3 :: z4 :: some (.long a) :: lv) st h nc ns = (am_W G (am_M G d) 107 K 139 (z0 :: z1 :: z2 :: z3 :: z4 :: some (.long a) :: lv) (.long a :: st) h nc ns) := am_u e_107_137
theorem e_107_139 : pg_code 107 139 = some (.lconst 0, 1, 0, 0) := by decide +kernel
theorem u_107_139 {lv : am_L} {st : List Value} : am_W G (am_M G d) 107 K 139 lv st h nc ns = (am_W G (am_M G d) 107 K 140 lv (.long 0 :: st) h nc ns) := am_u e_107_139
theorem e_107_140 : pg_code 107 140 = some (.lcmp, 1, 0, 0) := by decide +kernel
theorem u_107_140 {a b : Int64} {lv : am_L} {st : List Value} : am_W G (am_M G d) 107 K 140 lv (.long b :: .long a :: st) h nc ns = (am_W G (am_M G d) 107 K 141 lv (.int (lg_cmp a b) :: st) h nc ns) := am_u e_107_140
theorem e_107_141 : pg_code 107 141 = some (.ifCond .ne 7, 3, 148, 0) := by decide +kernel
theorem u_107_141 {a : Int32} {lv : am_L} {st : List Value} : am_W G (am_M G d) 107 K 141 lv (.int a :: st) h nc ns = (am_br (¬ a = 0) (am_W G (am_M G d) 107 K 148 lv st h nc ns) (am_W G (am_M G d) 107 K 144 lv st h nc ns)) := am_u e_107_141
theorem e_107_144 : pg_code 107 144 = some (.iconst 1, 1, 0, 0) := by decide +kernel
theorem u_107_144 {lv : am_L} {st : List Value} : am_W G (am_M G d) 107 K 144 lv st h nc ns = (am_W G (am_M G d) 107 K 145 lv (.int 1 :: st) h nc ns) := am_u e_107_144
theorem e_107_145 : pg_code 107 145 = some (.goto 4, 3, 149, 0) := by decide +kernel
theorem u_107_145 {lv : am_L} {st : List Value} : am_W G (am_M G d) 107 K 145 lv st h nc ns = (am_W G (am_M G d) 107 K 149 lv st h nc ns) := am_u e_107_145
theorem e_107_148 : pg_code 107 148 = some (.iconst 0, 1, 0, 0) := by decide +kernel
theorem u_107_148 {lv : am_L} {st : List Value} : am_W G (am_M G d) 107 K 148 lv st h nc ns = (am_W G (am_M G d) 107 K 149 lv (.int 0 :: st) h nc ns) := am_u e_107_148
theorem e_107_149 : pg_code 107 149 = some (.istore 7, 2, 0, 0) := by decide +kernel
theorem u_107_149 {a : Int32} {lv : am_L} {st : List Value} : am_W G (am_M G d) 107 K 149 lv (.int a :: st) h nc ns = (am_W G (am_M G d) 107 K 151 (am_st1 lv 7 (.int a)) st h nc ns) := (am_u e_107_149).trans (f_t (by decide +kernel))
theorem e_107_151 : pg_code 107 151 = some (.aload_n 0, 1, 0, 0) := by decide +kernel
theorem u_107_151 {a : Nat} {lv : am_L} {st : List Value} : am_W G (am_M G d) 107 K 151 (some (.ref a) :: lv) st h nc ns = (am_W G (am_M G d) 107 K 152 (some (.ref a) :: lv) (.ref a :: st) h nc ns) := am_u e_107_151
theorem e_107_152 : pg_code 107 152 = some (.getfield 23, 3, 7, 8) := by decide +kernel
theorem u_107_152 {a : Nat} {lv : am_L} {st : List Value} : am_W G (am_M G d) 107 K 152 lv (.ref a :: st) h nc ns = (f_gf G d 107 K 155 lv st h nc ns (h a) 7 8) := am_u e_107_152
theorem e_107_155 : pg_code 107 155 = some (.iload_n 2, 1, 0, 0) := by decide +kernel
theorem u_107_155 {a : Int32} {z0 : Option Value} {z1 : Option Value} {lv : am_L} {st : List Value} : am_W G (am_M G d) 107 K 155 (z0 :: z1 :: some (.int a) :: lv) st h nc ns = (am_W G (am_M G d) 107 K 156 (z0 :: z1 :: some (.int a) :: lv) (.int a :: st) h nc ns) := am_u e_107_155
theorem e_107_156 : pg_code 107 156 = some (.iload 7, 2, 0, 0) := by decide +kernel
theorem u_107_156 {a : Int32} {z0 : Option Value} {z1 : Option Value} {z2 : Option Value} {z3 : Option Value} {z4 : Option Value} {z5 : Option Value} {z6 : Option Value} {lv : am_L} {st : List Value} : am_W G (am_M G d) 107 K 156 (z0 :: z1 :: z2 :: z3 :: z4 :: z5 :: z6 :: some (.int a) :: lv) st h nc ns = (am_W G (am_M G d) 107 K 158 (z0 :: z1 :: z2 :: z3 :: z4 :: z5 :: z6 :: some (.int a) :: lv) (.int a :: st) h nc ns) := am_u e_107_156
theorem e_107_158 : pg_code 107 158 = some (.ifCond .eq 7, 3, 165, 0) := by decide +kernel
theorem u_107_158 {a : Int32} {lv : am_L} {st : List Value} : am_W G (am_M G d) 107 K 158 lv (.int a :: st) h nc ns = (am_br (a = 0) (am_W G (am_M G d) 107 K 165 lv st h nc ns) (am_W G (am_M G d) 107 K 161 lv st h nc ns)) := am_u e_107_158
theorem e_107_161 : pg_code 107 161 = some (.iconst 1, 1, 0, 0) := by decide +kernel
theorem u_107_161 {lv : am_L} {st : List Value} : am_W G (am_M G d) 107 K 161 lv st h nc ns = (am_W G (am_M G d) 107 K 162 lv (.int 1 :: st) h nc ns) := am_u e_107_161
theorem e_107_162 : pg_code 107 162 = some (.goto 4, 3, 166, 0) := by decide +kernel
theorem u_107_162 {lv : am_L} {st : List Value} : am_W G (am_M G d) 107 K 162 lv st h nc ns = (am_W G (am_M G d) 107 K 166 lv st h nc ns) := am_u e_107_162
theorem e_107_165 : pg_code 107 165 = some (.iconst 0, 1, 0, 0) := by decide +kernel
theorem u_107_165 {lv : am_L} {st : List Value} : am_W G (am_M G d) 107 K 165 lv st h nc ns = (am_W G (am_M G d) 107 K 166 lv (.int 0 :: st) h nc ns) := am_u e_107_165
theorem e_107_166 : pg_code 107 166 = some (.iastore, 1, 0, 0) := by decide +kernel
theorem u_107_166 {a : Nat} {j b : Int32} {lv : am_L} {st : List Value} : am_W G (am_M G d) 107 K 166 lv (.int b :: .int j :: .ref a :: st) h nc ns = (f_is G d 107 K 167 lv st h nc ns (h a) .int a j b) := am_u e_107_166
theorem e_107_167 : pg_code 107 167 = some (.iload 7, 2, 0, 0) := by decide +kernel
theorem u_107_167 {a : Int32} {z0 : Option Value} {z1 : Option Value} {z2 : Option Value} {z3 : Option Value} {z4 : Option Value} {z5 : Option Value} {z6 : Option Value} {lv : am_L} {st : List Value} : am_W G (am_M G d) 107 K 167 (z0 :: z1 :: z2 :: z3 :: z4 :: z5 :: z6 :: some (.int a) :: lv) st h nc ns = (am_W G (am_M G d) 107 K 169 (z0 :: z1 :: z2 :: z3 :: z4 :: z5 :: z6 :: some (.int a) :: lv) (.int a :: st) h nc ns) := am_u e_107_167
theorem e_107_169 : pg_code 107 169 = some (.ifCond .eq 4, 3, 173, 0) := by decide +kernel
theorem u_107_169 {a : Int32} {lv : am_L} {st : List Value} : am_W G (am_M G d) 107 K 169 lv (.int a :: st) h nc ns = (am_br (a = 0) (am_W G (am_M G d) 107 K 173 lv st h nc ns) (am_W G (am_M G d) 107 K 172 lv st h nc ns)) := am_u e_107_169
theorem e_107_172 : pg_code 107 172 = some (.return_, 1, 0, 0) := by decide +kernel
theorem u_107_172 {lv : am_L} : am_W G (am_M G d) 107 K 172 lv [] h nc ns = (K (.inl none) h) := (am_u e_107_172).trans (f_t ⟨rfl, rfl⟩)
theorem e_107_173 : pg_code 107 173 = some (.aload_n 0, 1, 0, 0) := by decide +kernel
theorem u_107_173 {a : Nat} {lv : am_L} {st : List Value} : am_W G (am_M G d) 107 K 173 (some (.ref a) :: lv) st h nc ns = (am_W G (am_M G d) 107 K 174 (some (.ref a) :: lv) (.ref a :: st) h nc ns) := am_u e_107_173
theorem e_107_174 : pg_code 107 174 = some (.getfield 26, 3, 7, 9) := by decide +kernel
theorem u_107_174 {a : Nat} {lv : am_L} {st : List Value} : am_W G (am_M G d) 107 K 174 lv (.ref a :: st) h nc ns = (f_gf G d 107 K 177 lv st h nc ns (h a) 7 9) := am_u e_107_174
theorem e_107_177 : pg_code 107 177 = some (.iload_n 2, 1, 0, 0) := by decide +kernel
theorem u_107_177 {a : Int32} {z0 : Option Value} {z1 : Option Value} {lv : am_L} {st : List Value} : am_W G (am_M G d) 107 K 177 (z0 :: z1 :: some (.int a) :: lv) st h nc ns = (am_W G (am_M G d) 107 K 178 (z0 :: z1 :: some (.int a) :: lv) (.int a :: st) h nc ns) := am_u e_107_177
theorem e_107_178 : pg_code 107 178 = some (.aload_n 0, 1, 0, 0) := by decide +kernel
theorem u_107_178 {a : Nat} {lv : am_L} {st : List Value} : am_W G (am_M G d) 107 K 178 (some (.ref a) :: lv) st h nc ns = (am_W G (am_M G d) 107 K 179 (some (.ref a) :: lv) (.ref a :: st) h nc ns) := am_u e_107_178
theorem e_107_179 : pg_code 107 179 = some (.getfield 7, 3, 7, 4) := by decide +kernel
theorem u_107_179 {a : Nat} {lv : am_L} {st : List Value} : am_W G (am_M G d) 107 K 179 lv (.ref a :: st) h nc ns = (f_gf G d 107 K 182 lv st h nc ns (h a) 7 4) := am_u e_107_179
theorem e_107_182 : pg_code 107 182 = some (.iload_n 2, 1, 0, 0) := by decide +kernel
theorem u_107_182 {a : Int32} {z0 : Option Value} {z1 : Option Value} {lv : am_L} {st : List Value} : am_W G (am_M G d) 107 K 182 (z0 :: z1 :: some (.int a) :: lv) st h nc ns = (am_W G (am_M G d) 107 K 183 (z0 :: z1 :: some (.int a) :: lv) (.int a :: st) h nc ns) := am_u e_107_182
theorem e_107_183 : pg_code 107 183 = some (.iaload, 1, 0, 0) := by decide +kernel
theorem u_107_183 {a : Nat} {j : Int32} {lv : am_L} {st : List Value} : am_W G (am_M G d) 107 K 183 lv (.int j :: .ref a :: st) h nc ns = (f_ia G d 107 K 184 lv st h nc ns (h a) .int j) := am_u e_107_183
theorem e_107_184 : pg_code 107 184 = some (.ifCond .ne 10, 3, 194, 0) := by decide +kernel
theorem u_107_184 {a : Int32} {lv : am_L} {st : List Value} : am_W G (am_M G d) 107 K 184 lv (.int a :: st) h nc ns = (am_br (¬ a = 0) (am_W G (am_M G d) 107 K 194 lv st h nc ns) (am_W G (am_M G d) 107 K 187 lv st h nc ns)) := am_u e_107_184
theorem e_107_187 : pg_code 107 187 = some (.lload_n 3, 1, 0, 0) := by decide +kernel
theorem u_107_187 {a : Int64} {z0 : Option Value} {z1 : Option Value} {z2 : Option Value} {lv : am_L} {st : List Value} : am_W G (am_M G d) 107 K 187 (z0 :: z1 :: z2 :: some (.long a) :: lv) st h nc ns = (am_W G (am_M G d) 107 K 188 (z0 :: z1 :: z2 :: some (.long a) :: lv) (.long a :: st) h nc ns) := am_u e_107_187
theorem e_107_188 : pg_code 107 188 = some (.lload 5, 2, 0, 0) := by decide +kernel
theorem u_107_188 {a : Int64} {z0 : Option Value} {z1 : Option Value} {z2 : Option Value} {z3 : Option Value} {z4 : Option Value} {lv : am_L} {st : List Value} : am_W G (am_M G d) 107 K 188 (z0 :: z1 :: z2 :: z3 :: z4 :: some (.long a) :: lv) st h nc ns = (am_W G (am_M G d) 107 K 190 (z0 :: z1 :: z2 :: z3 :: z4 :: some (.long a) :: lv) (.long a :: st) h nc ns) := am_u e_107_188
theorem e_107_190 : pg_code 107 190 = some (.ladd, 1, 0, 0) := by decide +kernel
theorem u_107_190 {a b : Int64} {lv : am_L} {st : List Value} : am_W G (am_M G d) 107 K 190 lv (.long b :: .long a :: st) h nc ns = (am_W G (am_M G d) 107 K 191 lv (.long (a + b) :: st) h nc ns) := am_u e_107_190
theorem e_107_191 : pg_code 107 191 = some (.goto 92, 3, 283, 0) := by decide +kernel
theorem u_107_191 {lv : am_L} {st : List Value} : am_W G (am_M G d) 107 K 191 lv st h nc ns = (am_W G (am_M G d) 107 K 283 lv st h nc ns) := am_u e_107_191
theorem e_107_194 : pg_code 107 194 = some (.aload_n 0, 1, 0, 0) := by decide +kernel
theorem u_107_194 {a : Nat} {lv : am_L} {st : List Value} : am_W G (am_M G d) 107 K 194 (some (.ref a) :: lv) st h nc ns = (am_W G (am_M G d) 107 K 195 (some (.ref a) :: lv) (.ref a :: st) h nc ns) := am_u e_107_194
theorem e_107_195 : pg_code 107 195 = some (.getfield 7, 3, 7, 4) := by decide +kernel
theorem u_107_195 {a : Nat} {lv : am_L} {st : List Value} : am_W G (am_M G d) 107 K 195 lv (.ref a :: st) h nc ns = (f_gf G d 107 K 198 lv st h nc ns (h a) 7 4) := am_u e_107_195
theorem e_107_198 : pg_code 107 198 = some (.iload_n 2, 1, 0, 0) := by decide +kernel
theorem u_107_198 {a : Int32} {z0 : Option Value} {z1 : Option Value} {lv : am_L} {st : List Value} : am_W G (am_M G d) 107 K 198 (z0 :: z1 :: some (.int a) :: lv) st h nc ns = (am_W G (am_M G d) 107 K 199 (z0 :: z1 :: some (.int a) :: lv) (.int a :: st) h nc ns) := am_u e_107_198
theorem e_107_199 : pg_code 107 199 = some (.iaload, 1, 0, 0) := by decide +kernel
theorem u_107_199 {a : Nat} {j : Int32} {lv : am_L} {st : List Value} : am_W G (am_M G d) 107 K 199 lv (.int j :: .ref a :: st) h nc ns = (f_ia G d 107 K 200 lv st h nc ns (h a) .int j) := am_u e_107_199
theorem e_107_200 : pg_code 107 200 = some (.iconst 1, 1, 0, 0) := by decide +kernel
theorem u_107_200 {lv : am_L} {st : List Value} : am_W G (am_M G d) 107 K 200 lv st h nc ns = (am_W G (am_M G d) 107 K 201 lv (.int 1 :: st) h nc ns) := am_u e_107_200
theorem e_107_201 : pg_code 107 201 = some (.if_icmp .ne 10, 3, 211, 0) := by decide +kernel
theorem u_107_201 {a b : Int32} {lv : am_L} {st : List Value} : am_W G (am_M G d) 107 K 201 lv (.int b :: .int a :: st) h nc ns = (am_br (¬ a = b) (am_W G (am_M G d) 107 K 211 lv st h nc ns) (am_W G (am_M G d) 107 K 204 lv st h nc ns)) := am_u e_107_201
theorem e_107_204 : pg_code 107 204 = some (.lload_n 3, 1, 0, 0) := by decide +kernel
theorem u_107_204 {a : Int64} {z0 : Option Value} {z1 : Option Value} {z2 : Option Value} {lv : am_L} {st : List Value} : am_W G (am_M G d) 107 K 204 (z0 :: z1 :: z2 :: some (.long a) :: lv) st h nc ns = (am_W G (am_M G d) 107 K 205 (z0 :: z1 :: z2 :: some (.long a) :: lv) (.long a :: st) h nc ns) := am_u e_107_204
theorem e_107_205 : pg_code 107 205 = some (.lload 5, 2, 0, 0) := by decide +kernel
theorem u_107_205 {a : Int64} {z0 : Option Value} {z1 : Option Value} {z2 : Option Value} {z3 : Option Value} {z4 : Option Value} {lv : am_L} {st : List Value} : am_W G (am_M G d) 107 K 205 (z0 :: z1 :: z2 :: z3 :: z4 :: some (.long a) :: lv) st h nc ns = (am_W G (am_M G d) 107 K 207 (z0 :: z1 :: z2 :: z3 :: z4 :: some (.long a) :: lv) (.long a :: st) h nc ns) := am_u e_107_205
theorem e_107_207 : pg_code 107 207 = some (.lsub, 1, 0, 0) := by decide +kernel
theorem u_107_207 {a b : Int64} {lv : am_L} {st : List Value} : am_W G (am_M G d) 107 K 207 lv (.long b :: .long a :: st) h nc ns = (am_W G (am_M G d) 107 K 208 lv (.long (a - b) :: st) h nc ns) := am_u e_107_207
theorem e_107_208 : pg_code 107 208 = some (.goto 75, 3, 283, 0) := by decide +kernel
theorem u_107_208 {lv : am_L} {st : List Value} : am_W G (am_M G d) 107 K 208 lv st h nc ns = (am_W G (am_M G d) 107 K 283 lv st h nc ns) := am_u e_107_208
theorem e_107_211 : pg_code 107 211 = some (.aload_n 0, 1, 0, 0) := by decide +kernel
theorem u_107_211 {a : Nat} {lv : am_L} {st : List Value} : am_W G (am_M G d) 107 K 211 (some (.ref a) :: lv) st h nc ns = (am_W G (am_M G d) 107 K 212 (some (.ref a) :: lv) (.ref a :: st) h nc ns) := am_u e_107_211
theorem e_107_212 : pg_code 107 212 = some (.getfield 7, 3, 7, 4) := by decide +kernel
theorem u_107_212 {a : Nat} {lv : am_L} {st : List Value} : am_W G (am_M G d) 107 K 212 lv (.ref a :: st) h nc ns = (f_gf G d 107 K 215 lv st h nc ns (h a) 7 4) := am_u e_107_212
theorem e_107_215 : pg_code 107 215 = some (.iload_n 2, 1, 0, 0) := by decide +kernel
theorem u_107_215 {a : Int32} {z0 : Option Value} {z1 : Option Value} {lv : am_L} {st : List Value} : am_W G (am_M G d) 107 K 215 (z0 :: z1 :: some (.int a) :: lv) st h nc ns = (am_W G (am_M G d) 107 K 216 (z0 :: z1 :: some (.int a) :: lv) (.int a :: st) h nc ns) := am_u e_107_215
theorem e_107_216 : pg_code 107 216 = some (.iaload, 1, 0, 0) := by decide +kernel
theorem u_107_216 {a : Nat} {j : Int32} {lv : am_L} {st : List Value} : am_W G (am_M G d) 107 K 216 lv (.int j :: .ref a :: st) h nc ns = (f_ia G d 107 K 217 lv st h nc ns (h a) .int j) := am_u e_107_216
theorem e_107_217 : pg_code 107 217 = some (.iconst 2, 1, 0, 0) := by decide +kernel
theorem u_107_217 {lv : am_L} {st : List Value} : am_W G (am_M G d) 107 K 217 lv st h nc ns = (am_W G (am_M G d) 107 K 218 lv (.int 2 :: st) h nc ns) := am_u e_107_217
theorem e_107_218 : pg_code 107 218 = some (.if_icmp .ne 10, 3, 228, 0) := by decide +kernel
theorem u_107_218 {a b : Int32} {lv : am_L} {st : List Value} : am_W G (am_M G d) 107 K 218 lv (.int b :: .int a :: st) h nc ns = (am_br (¬ a = b) (am_W G (am_M G d) 107 K 228 lv st h nc ns) (am_W G (am_M G d) 107 K 221 lv st h nc ns)) := am_u e_107_218
theorem e_107_221 : pg_code 107 221 = some (.lload_n 3, 1, 0, 0) := by decide +kernel
theorem u_107_221 {a : Int64} {z0 : Option Value} {z1 : Option Value} {z2 : Option Value} {lv : am_L} {st : List Value} : am_W G (am_M G d) 107 K 221 (z0 :: z1 :: z2 :: some (.long a) :: lv) st h nc ns = (am_W G (am_M G d) 107 K 222 (z0 :: z1 :: z2 :: some (.long a) :: lv) (.long a :: st) h nc ns) := am_u e_107_221
theorem e_107_222 : pg_code 107 222 = some (.lload 5, 2, 0, 0) := by decide +kernel
theorem u_107_222 {a : Int64} {z0 : Option Value} {z1 : Option Value} {z2 : Option Value} {z3 : Option Value} {z4 : Option Value} {lv : am_L} {st : List Value} : am_W G (am_M G d) 107 K 222 (z0 :: z1 :: z2 :: z3 :: z4 :: some (.long a) :: lv) st h nc ns = (am_W G (am_M G d) 107 K 224 (z0 :: z1 :: z2 :: z3 :: z4 :: some (.long a) :: lv) (.long a :: st) h nc ns) := am_u e_107_222
theorem e_107_224 : pg_code 107 224 = some (.lmul, 1, 0, 0) := by decide +kernel
theorem u_107_224 {a b : Int64} {lv : am_L} {st : List Value} : am_W G (am_M G d) 107 K 224 lv (.long b :: .long a :: st) h nc ns = (am_W G (am_M G d) 107 K 225 lv (.long (a * b) :: st) h nc ns) := am_u e_107_224
theorem e_107_225 : pg_code 107 225 = some (.goto 58, 3, 283, 0) := by decide +kernel
theorem u_107_225 {lv : am_L} {st : List Value} : am_W G (am_M G d) 107 K 225 lv st h nc ns = (am_W G (am_M G d) 107 K 283 lv st h nc ns) := am_u e_107_225
theorem e_107_228 : pg_code 107 228 = some (.aload_n 0, 1, 0, 0) := by decide +kernel
theorem u_107_228 {a : Nat} {lv : am_L} {st : List Value} : am_W G (am_M G d) 107 K 228 (some (.ref a) :: lv) st h nc ns = (am_W G (am_M G d) 107 K 229 (some (.ref a) :: lv) (.ref a :: st) h nc ns) := am_u e_107_228
theorem e_107_229 : pg_code 107 229 = some (.getfield 7, 3, 7, 4) := by decide +kernel
theorem u_107_229 {a : Nat} {lv : am_L} {st : List Value} : am_W G (am_M G d) 107 K 229 lv (.ref a :: st) h nc ns = (f_gf G d 107 K 232 lv st h nc ns (h a) 7 4) := am_u e_107_229
theorem e_107_232 : pg_code 107 232 = some (.iload_n 2, 1, 0, 0) := by decide +kernel
theorem u_107_232 {a : Int32} {z0 : Option Value} {z1 : Option Value} {lv : am_L} {st : List Value} : am_W G (am_M G d) 107 K 232 (z0 :: z1 :: some (.int a) :: lv) st h nc ns = (am_W G (am_M G d) 107 K 233 (z0 :: z1 :: some (.int a) :: lv) (.int a :: st) h nc ns) := am_u e_107_232
theorem e_107_233 : pg_code 107 233 = some (.iaload, 1, 0, 0) := by decide +kernel
theorem u_107_233 {a : Nat} {j : Int32} {lv : am_L} {st : List Value} : am_W G (am_M G d) 107 K 233 lv (.int j :: .ref a :: st) h nc ns = (f_ia G d 107 K 234 lv st h nc ns (h a) .int j) := am_u e_107_233
theorem e_107_234 : pg_code 107 234 = some (.iconst 3, 1, 0, 0) := by decide +kernel
theorem u_107_234 {lv : am_L} {st : List Value} : am_W G (am_M G d) 107 K 234 lv st h nc ns = (am_W G (am_M G d) 107 K 235 lv (.int 3 :: st) h nc ns) := am_u e_107_234
theorem e_107_235 : pg_code 107 235 = some (.if_icmp .ne 10, 3, 245, 0) := by decide +kernel
theorem u_107_235 {a b : Int32} {lv : am_L} {st : List Value} : am_W G (am_M G d) 107 K 235 lv (.int b :: .int a :: st) h nc ns = (am_br (¬ a = b) (am_W G (am_M G d) 107 K 245 lv st h nc ns) (am_W G (am_M G d) 107 K 238 lv st h nc ns)) := am_u e_107_235
theorem e_107_238 : pg_code 107 238 = some (.lload_n 3, 1, 0, 0) := by decide +kernel
theorem u_107_238 {a : Int64} {z0 : Option Value} {z1 : Option Value} {z2 : Option Value} {lv : am_L} {st : List Value} : am_W G (am_M G d) 107 K 238 (z0 :: z1 :: z2 :: some (.long a) :: lv) st h nc ns = (am_W G (am_M G d) 107 K 239 (z0 :: z1 :: z2 :: some (.long a) :: lv) (.long a :: st) h nc ns) := am_u e_107_238
theorem e_107_239 : pg_code 107 239 = some (.lload 5, 2, 0, 0) := by decide +kernel
theorem u_107_239 {a : Int64} {z0 : Option Value} {z1 : Option Value} {z2 : Option Value} {z3 : Option Value} {z4 : Option Value} {lv : am_L} {st : List Value} : am_W G (am_M G d) 107 K 239 (z0 :: z1 :: z2 :: z3 :: z4 :: some (.long a) :: lv) st h nc ns = (am_W G (am_M G d) 107 K 241 (z0 :: z1 :: z2 :: z3 :: z4 :: some (.long a) :: lv) (.long a :: st) h nc ns) := am_u e_107_239
theorem e_107_241 : pg_code 107 241 = some (.ldiv, 1, 0, 0) := by decide +kernel
theorem u_107_241 {a b : Int64} {lv : am_L} {st : List Value} : am_W G (am_M G d) 107 K 241 lv (.long b :: .long a :: st) h nc ns = (¬ b = 0 ∧ am_W G (am_M G d) 107 K 242 lv (.long (a / b) :: st) h nc ns) := am_u e_107_241
theorem e_107_242 : pg_code 107 242 = some (.goto 41, 3, 283, 0) := by decide +kernel
theorem u_107_242 {lv : am_L} {st : List Value} : am_W G (am_M G d) 107 K 242 lv st h nc ns = (am_W G (am_M G d) 107 K 283 lv st h nc ns) := am_u e_107_242
theorem e_107_245 : pg_code 107 245 = some (.aload_n 0, 1, 0, 0) := by decide +kernel
theorem u_107_245 {a : Nat} {lv : am_L} {st : List Value} : am_W G (am_M G d) 107 K 245 (some (.ref a) :: lv) st h nc ns = (am_W G (am_M G d) 107 K 246 (some (.ref a) :: lv) (.ref a :: st) h nc ns) := am_u e_107_245
theorem e_107_246 : pg_code 107 246 = some (.getfield 7, 3, 7, 4) := by decide +kernel
theorem u_107_246 {a : Nat} {lv : am_L} {st : List Value} : am_W G (am_M G d) 107 K 246 lv (.ref a :: st) h nc ns = (f_gf G d 107 K 249 lv st h nc ns (h a) 7 4) := am_u e_107_246
theorem e_107_249 : pg_code 107 249 = some (.iload_n 2, 1, 0, 0) := by decide +kernel
theorem u_107_249 {a : Int32} {z0 : Option Value} {z1 : Option Value} {lv : am_L} {st : List Value} : am_W G (am_M G d) 107 K 249 (z0 :: z1 :: some (.int a) :: lv) st h nc ns = (am_W G (am_M G d) 107 K 250 (z0 :: z1 :: some (.int a) :: lv) (.int a :: st) h nc ns) := am_u e_107_249
theorem e_107_250 : pg_code 107 250 = some (.iaload, 1, 0, 0) := by decide +kernel
theorem u_107_250 {a : Nat} {j : Int32} {lv : am_L} {st : List Value} : am_W G (am_M G d) 107 K 250 lv (.int j :: .ref a :: st) h nc ns = (f_ia G d 107 K 251 lv st h nc ns (h a) .int j) := am_u e_107_250
theorem e_107_251 : pg_code 107 251 = some (.iconst 4, 1, 0, 0) := by decide +kernel
theorem u_107_251 {lv : am_L} {st : List Value} : am_W G (am_M G d) 107 K 251 lv st h nc ns = (am_W G (am_M G d) 107 K 252 lv (.int 4 :: st) h nc ns) := am_u e_107_251
theorem e_107_252 : pg_code 107 252 = some (.if_icmp .ne 19, 3, 271, 0) := by decide +kernel
theorem u_107_252 {a b : Int32} {lv : am_L} {st : List Value} : am_W G (am_M G d) 107 K 252 lv (.int b :: .int a :: st) h nc ns = (am_br (¬ a = b) (am_W G (am_M G d) 107 K 271 lv st h nc ns) (am_W G (am_M G d) 107 K 255 lv st h nc ns)) := am_u e_107_252
theorem e_107_255 : pg_code 107 255 = some (.lload_n 3, 1, 0, 0) := by decide +kernel
theorem u_107_255 {a : Int64} {z0 : Option Value} {z1 : Option Value} {z2 : Option Value} {lv : am_L} {st : List Value} : am_W G (am_M G d) 107 K 255 (z0 :: z1 :: z2 :: some (.long a) :: lv) st h nc ns = (am_W G (am_M G d) 107 K 256 (z0 :: z1 :: z2 :: some (.long a) :: lv) (.long a :: st) h nc ns) := am_u e_107_255
theorem e_107_256 : pg_code 107 256 = some (.lload 5, 2, 0, 0) := by decide +kernel
theorem u_107_256 {a : Int64} {z0 : Option Value} {z1 : Option Value} {z2 : Option Value} {z3 : Option Value} {z4 : Option Value} {lv : am_L} {st : List Value} : am_W G (am_M G d) 107 K 256 (z0 :: z1 :: z2 :: z3 :: z4 :: some (.long a) :: lv) st h nc ns = (am_W G (am_M G d) 107 K 258 (z0 :: z1 :: z2 :: z3 :: z4 :: some (.long a) :: lv) (.long a :: st) h nc ns) := am_u e_107_256
theorem e_107_258 : pg_code 107 258 = some (.lcmp, 1, 0, 0) := by decide +kernel
theorem u_107_258 {a b : Int64} {lv : am_L} {st : List Value} : am_W G (am_M G d) 107 K 258 lv (.long b :: .long a :: st) h nc ns = (am_W G (am_M G d) 107 K 259 lv (.int (lg_cmp a b) :: st) h nc ns) := am_u e_107_258
theorem e_107_259 : pg_code 107 259 = some (.ifCond .le 7, 3, 266, 0) := by decide +kernel
theorem u_107_259 {a : Int32} {lv : am_L} {st : List Value} : am_W G (am_M G d) 107 K 259 lv (.int a :: st) h nc ns = (am_br (a ≤ 0) (am_W G (am_M G d) 107 K 266 lv st h nc ns) (am_W G (am_M G d) 107 K 262 lv st h nc ns)) := am_u e_107_259
theorem e_107_262 : pg_code 107 262 = some (.lload_n 3, 1, 0, 0) := by decide +kernel
theorem u_107_262 {a : Int64} {z0 : Option Value} {z1 : Option Value} {z2 : Option Value} {lv : am_L} {st : List Value} : am_W G (am_M G d) 107 K 262 (z0 :: z1 :: z2 :: some (.long a) :: lv) st h nc ns = (am_W G (am_M G d) 107 K 263 (z0 :: z1 :: z2 :: some (.long a) :: lv) (.long a :: st) h nc ns) := am_u e_107_262
theorem e_107_263 : pg_code 107 263 = some (.goto 20, 3, 283, 0) := by decide +kernel
theorem u_107_263 {lv : am_L} {st : List Value} : am_W G (am_M G d) 107 K 263 lv st h nc ns = (am_W G (am_M G d) 107 K 283 lv st h nc ns) := am_u e_107_263
theorem e_107_266 : pg_code 107 266 = some (.lload 5, 2, 0, 0) := by decide +kernel
theorem u_107_266 {a : Int64} {z0 : Option Value} {z1 : Option Value} {z2 : Option Value} {z3 : Option Value} {z4 : Option Value} {lv : am_L} {st : List Value} : am_W G (am_M G d) 107 K 266 (z0 :: z1 :: z2 :: z3 :: z4 :: some (.long a) :: lv) st h nc ns = (am_W G (am_M G d) 107 K 268 (z0 :: z1 :: z2 :: z3 :: z4 :: some (.long a) :: lv) (.long a :: st) h nc ns) := am_u e_107_266
theorem e_107_268 : pg_code 107 268 = some (.goto 15, 3, 283, 0) := by decide +kernel
theorem u_107_268 {lv : am_L} {st : List Value} : am_W G (am_M G d) 107 K 268 lv st h nc ns = (am_W G (am_M G d) 107 K 283 lv st h nc ns) := am_u e_107_268
theorem e_107_271 : pg_code 107 271 = some (.lload_n 3, 1, 0, 0) := by decide +kernel
theorem u_107_271 {a : Int64} {z0 : Option Value} {z1 : Option Value} {z2 : Option Value} {lv : am_L} {st : List Value} : am_W G (am_M G d) 107 K 271 (z0 :: z1 :: z2 :: some (.long a) :: lv) st h nc ns = (am_W G (am_M G d) 107 K 272 (z0 :: z1 :: z2 :: some (.long a) :: lv) (.long a :: st) h nc ns) := am_u e_107_271
theorem e_107_272 : pg_code 107 272 = some (.lconst 0, 1, 0, 0) := by decide +kernel
theorem u_107_272 {lv : am_L} {st : List Value} : am_W G (am_M G d) 107 K 272 lv st h nc ns = (am_W G (am_M G d) 107 K 273 lv (.long 0 :: st) h nc ns) := am_u e_107_272
theorem e_107_273 : pg_code 107 273 = some (.lcmp, 1, 0, 0) := by decide +kernel
theorem u_107_273 {a b : Int64} {lv : am_L} {st : List Value} : am_W G (am_M G d) 107 K 273 lv (.long b :: .long a :: st) h nc ns = (am_W G (am_M G d) 107 K 274 lv (.int (lg_cmp a b) :: st) h nc ns) := am_u e_107_273
theorem e_107_274 : pg_code 107 274 = some (.ifCond .eq 7, 3, 281, 0) := by decide +kernel
theorem u_107_274 {a : Int32} {lv : am_L} {st : List Value} : am_W G (am_M G d) 107 K 274 lv (.int a :: st) h nc ns = (am_br (a = 0) (am_W G (am_M G d) 107 K 281 lv st h nc ns) (am_W G (am_M G d) 107 K 277 lv st h nc ns)) := am_u e_107_274
theorem e_107_277 : pg_code 107 277 = some (.lload_n 3, 1, 0, 0) := by decide +kernel
theorem u_107_277 {a : Int64} {z0 : Option Value} {z1 : Option Value} {z2 : Option Value} {lv : am_L} {st : List Value} : am_W G (am_M G d) 107 K 277 (z0 :: z1 :: z2 :: some (.long a) :: lv) st h nc ns = (am_W G (am_M G d) 107 K 278 (z0 :: z1 :: z2 :: some (.long a) :: lv) (.long a :: st) h nc ns) := am_u e_107_277
theorem e_107_278 : pg_code 107 278 = some (.goto 5, 3, 283, 0) := by decide +kernel
theorem u_107_278 {lv : am_L} {st : List Value} : am_W G (am_M G d) 107 K 278 lv st h nc ns = (am_W G (am_M G d) 107 K 283 lv st h nc ns) := am_u e_107_278
theorem e_107_281 : pg_code 107 281 = some (.lload 5, 2, 0, 0) := by decide +kernel
theorem u_107_281 {a : Int64} {z0 : Option Value} {z1 : Option Value} {z2 : Option Value} {z3 : Option Value} {z4 : Option Value} {lv : am_L} {st : List Value} : am_W G (am_M G d) 107 K 281 (z0 :: z1 :: z2 :: z3 :: z4 :: some (.long a) :: lv) st h nc ns = (am_W G (am_M G d) 107 K 283 (z0 :: z1 :: z2 :: z3 :: z4 :: some (.long a) :: lv) (.long a :: st) h nc ns) := am_u e_107_281
theorem e_107_283 : pg_code 107 283 = some (.lastore, 1, 0, 0) := by decide +kernel
theorem u_107_283 {a : Nat} {j : Int32} {b : Int64} {lv : am_L} {st : List Value} : am_W G (am_M G d) 107 K 283 lv (.long b :: .int j :: .ref a :: st) h nc ns = (f_ls G d 107 K 284 lv st h nc ns (h a) a j b) := am_u e_107_283
theorem e_107_284 : pg_code 107 284 = some (.return_, 1, 0, 0) := by decide +kernel
theorem u_107_284 {lv : am_L} : am_W G (am_M G d) 107 K 284 lv [] h nc ns = (K (.inl none) h) := (am_u e_107_284).trans (f_t ⟨rfl, rfl⟩)
theorem e_108_0 : pg_code 108 0 = some (.aload_n 0, 1, 0, 0) := by decide +kernel
theorem u_108_0 {a : Nat} {lv : am_L} {st : List Value} : am_W G (am_M G d) 108 K 0 (some (.ref a) :: lv) st h nc ns = (am_W G (am_M G d) 108 K 1 (some (.ref a) :: lv) (.ref a :: st) h nc ns) := am_u e_108_0
theorem e_108_1 : pg_code 108 1 = some (.iload_n 1, 1, 0, 0) := by decide +kernel
theorem u_108_1 {a : Int32} {z0 : Option Value} {lv : am_L} {st : List Value} : am_W G (am_M G d) 108 K 1 (z0 :: some (.int a) :: lv) st h nc ns = (am_W G (am_M G d) 108 K 2 (z0 :: some (.int a) :: lv) (.int a :: st) h nc ns) := am_u e_108_1
theorem e_108_2 : pg_code 108 2 = some (.invokevirtual 172, 3, 109, 2) := by decide +kernel
theorem u_108_2 {a : Nat} {v0 : Value} {lv : am_L} {st : List Value} : am_W G (am_M G d) 108 K 2 lv (v0 :: .ref a :: st) h nc ns = ((am_words st ≤ 8 ∧ nc + 0 ≤ 0 ∧ ns + 0 ≤ 0 ∧ f_rc (h a) 7) ∧ am_M G d 109 [.ref a, v0] h (am_back 108 K (am_W G (am_M G d) 108 K) 109 2 lv st nc ns)) := (am_u e_108_2).trans (f_iv_eq (a := a) (G := G) (d := d) (k := 108) (K := K) (pc := 2) (lv := lv) (st := st) (h := h) (nc := nc) (ns := ns) (x := 109) (X := am_W G (am_M G d) 108 K) [v0] (by decide) rfl)
theorem e_108_5 : pg_code 108 5 = some (.ifCond .ne 5, 3, 10, 0) := by decide +kernel
theorem u_108_5 {a : Int32} {lv : am_L} {st : List Value} : am_W G (am_M G d) 108 K 5 lv (.int a :: st) h nc ns = (am_br (¬ a = 0) (am_W G (am_M G d) 108 K 10 lv st h nc ns) (am_W G (am_M G d) 108 K 8 lv st h nc ns)) := am_u e_108_5
theorem e_108_8 : pg_code 108 8 = some (.lconst 0, 1, 0, 0) := by decide +kernel
theorem u_108_8 {lv : am_L} {st : List Value} : am_W G (am_M G d) 108 K 8 lv st h nc ns = (am_W G (am_M G d) 108 K 9 lv (.long 0 :: st) h nc ns) := am_u e_108_8
theorem e_108_9 : pg_code 108 9 = some (.lreturn, 1, 0, 0) := by decide +kernel
theorem u_108_9 {a : Int64} {lv : am_L} : am_W G (am_M G d) 108 K 9 lv [.long a] h nc ns = (K (.inl (some (.long a))) h) := (am_u e_108_9).trans (f_t ⟨rfl, rfl⟩)
theorem e_108_10 : pg_code 108 10 = some (.aload_n 0, 1, 0, 0) := by decide +kernel
theorem u_108_10 {a : Nat} {lv : am_L} {st : List Value} : am_W G (am_M G d) 108 K 10 (some (.ref a) :: lv) st h nc ns = (am_W G (am_M G d) 108 K 11 (some (.ref a) :: lv) (.ref a :: st) h nc ns) := am_u e_108_10
theorem e_108_11 : pg_code 108 11 = some (.getfield 23, 3, 7, 8) := by decide +kernel
theorem u_108_11 {a : Nat} {lv : am_L} {st : List Value} : am_W G (am_M G d) 108 K 11 lv (.ref a :: st) h nc ns = (f_gf G d 108 K 14 lv st h nc ns (h a) 7 8) := am_u e_108_11
theorem e_108_14 : pg_code 108 14 = some (.iload_n 1, 1, 0, 0) := by decide +kernel
theorem u_108_14 {a : Int32} {z0 : Option Value} {lv : am_L} {st : List Value} : am_W G (am_M G d) 108 K 14 (z0 :: some (.int a) :: lv) st h nc ns = (am_W G (am_M G d) 108 K 15 (z0 :: some (.int a) :: lv) (.int a :: st) h nc ns) := am_u e_108_14
theorem e_108_15 : pg_code 108 15 = some (.invokestatic 116, 3, 91, 1) := by decide +kernel
theorem u_108_15 {v0 : Value} {lv : am_L} {st : List Value} : am_W G (am_M G d) 108 K 15 lv (v0 :: st) h nc ns = ((am_words st ≤ 8 ∧ nc + 0 ≤ 0 ∧ ns + 0 ≤ 0) ∧ am_M G d 91 [v0] h (am_back 108 K (am_W G (am_M G d) 108 K) 91 15 lv st nc ns)) := (am_u e_108_15).trans (f_st_eq (G := G) (d := d) (k := 108) (K := K) (pc := 15) (lv := lv) (st := st) (h := h) (nc := nc) (ns := ns) (x := 91) (X := am_W G (am_M G d) 108 K) [v0] (by decide) rfl)
theorem e_108_18 : pg_code 108 18 = some (.iaload, 1, 0, 0) := by decide +kernel
theorem u_108_18 {a : Nat} {j : Int32} {lv : am_L} {st : List Value} : am_W G (am_M G d) 108 K 18 lv (.int j :: .ref a :: st) h nc ns = (f_ia G d 108 K 19 lv st h nc ns (h a) .int j) := am_u e_108_18
theorem e_108_19 : pg_code 108 19 = some (.ifCond .ne 13, 3, 32, 0) := by decide +kernel
theorem u_108_19 {a : Int32} {lv : am_L} {st : List Value} : am_W G (am_M G d) 108 K 19 lv (.int a :: st) h nc ns = (am_br (¬ a = 0) (am_W G (am_M G d) 108 K 32 lv st h nc ns) (am_W G (am_M G d) 108 K 22 lv st h nc ns)) := am_u e_108_19
theorem e_108_22 : pg_code 108 22 = some (.aload_n 0, 1, 0, 0) := by decide +kernel
theorem u_108_22 {a : Nat} {lv : am_L} {st : List Value} : am_W G (am_M G d) 108 K 22 (some (.ref a) :: lv) st h nc ns = (am_W G (am_M G d) 108 K 23 (some (.ref a) :: lv) (.ref a :: st) h nc ns) := am_u e_108_22
theorem e_108_23 : pg_code 108 23 = some (.getfield 26, 3, 7, 9) := by decide +kernel
theorem u_108_23 {a : Nat} {lv : am_L} {st : List Value} : am_W G (am_M G d) 108 K 23 lv (.ref a :: st) h nc ns = (f_gf G d 108 K 26 lv st h nc ns (h a) 7 9) := am_u e_108_23
theorem e_108_26 : pg_code 108 26 = some (.iload_n 1, 1, 0, 0) := by decide +kernel
theorem u_108_26 {a : Int32} {z0 : Option Value} {lv : am_L} {st : List Value} : am_W G (am_M G d) 108 K 26 (z0 :: some (.int a) :: lv) st h nc ns = (am_W G (am_M G d) 108 K 27 (z0 :: some (.int a) :: lv) (.int a :: st) h nc ns) := am_u e_108_26
theorem e_108_27 : pg_code 108 27 = some (.invokestatic 116, 3, 91, 1) := by decide +kernel
theorem u_108_27 {v0 : Value} {lv : am_L} {st : List Value} : am_W G (am_M G d) 108 K 27 lv (v0 :: st) h nc ns = ((am_words st ≤ 8 ∧ nc + 0 ≤ 0 ∧ ns + 0 ≤ 0) ∧ am_M G d 91 [v0] h (am_back 108 K (am_W G (am_M G d) 108 K) 91 27 lv st nc ns)) := (am_u e_108_27).trans (f_st_eq (G := G) (d := d) (k := 108) (K := K) (pc := 27) (lv := lv) (st := st) (h := h) (nc := nc) (ns := ns) (x := 91) (X := am_W G (am_M G d) 108 K) [v0] (by decide) rfl)
theorem e_108_30 : pg_code 108 30 = some (.laload, 1, 0, 0) := by decide +kernel
theorem u_108_30 {a : Nat} {j : Int32} {lv : am_L} {st : List Value} : am_W G (am_M G d) 108 K 30 lv (.int j :: .ref a :: st) h nc ns = (f_la G d 108 K 31 lv st h nc ns (h a) j) := am_u e_108_30
theorem e_108_31 : pg_code 108 31 = some (.lreturn, 1, 0, 0) := by decide +kernel
theorem u_108_31 {a : Int64} {lv : am_L} : am_W G (am_M G d) 108 K 31 lv [.long a] h nc ns = (K (.inl (some (.long a))) h) := (am_u e_108_31).trans (f_t ⟨rfl, rfl⟩)
theorem e_108_32 : pg_code 108 32 = some (.aload_n 0, 1, 0, 0) := by decide +kernel
theorem u_108_32 {a : Nat} {lv : am_L} {st : List Value} : am_W G (am_M G d) 108 K 32 (some (.ref a) :: lv) st h nc ns = (am_W G (am_M G d) 108 K 33 (some (.ref a) :: lv) (.ref a :: st) h nc ns) := am_u e_108_32
theorem e_108_33 : pg_code 108 33 = some (.iconst 2, 1, 0, 0) := by decide +kernel
theorem u_108_33 {lv : am_L} {st : List Value} : am_W G (am_M G d) 108 K 33 lv st h nc ns = (am_W G (am_M G d) 108 K 34 lv (.int 2 :: st) h nc ns) := am_u e_108_33
theorem e_108_34 : pg_code 108 34 = some (.putfield 90, 3, 7, 0) := by decide +kernel
theorem u_108_34 {a : Nat} {b : Int32} {lv : am_L} {st : List Value} : am_W G (am_M G d) 108 K 34 lv (.int b :: .ref a :: st) h nc ns = (f_pf G d 108 K 37 lv st h nc ns (h a) 7 0 a (.int b)) := (am_u e_108_34).trans (f_pf_eq ⟨rfl, rfl⟩)
theorem e_108_37 : pg_code 108 37 = some (.lconst 0, 1, 0, 0) := by decide +kernel
theorem u_108_37 {lv : am_L} {st : List Value} : am_W G (am_M G d) 108 K 37 lv st h nc ns = (am_W G (am_M G d) 108 K 38 lv (.long 0 :: st) h nc ns) := am_u e_108_37
theorem e_108_38 : pg_code 108 38 = some (.lreturn, 1, 0, 0) := by decide +kernel
theorem u_108_38 {a : Int64} {lv : am_L} : am_W G (am_M G d) 108 K 38 lv [.long a] h nc ns = (K (.inl (some (.long a))) h) := (am_u e_108_38).trans (f_t ⟨rfl, rfl⟩)
theorem e_109_0 : pg_code 109 0 = some (.aload_n 0, 1, 0, 0) := by decide +kernel
theorem u_109_0 {a : Nat} {lv : am_L} {st : List Value} : am_W G (am_M G d) 109 K 0 (some (.ref a) :: lv) st h nc ns = (am_W G (am_M G d) 109 K 1 (some (.ref a) :: lv) (.ref a :: st) h nc ns) := am_u e_109_0
theorem e_109_1 : pg_code 109 1 = some (.iload_n 1, 1, 0, 0) := by decide +kernel
theorem u_109_1 {a : Int32} {z0 : Option Value} {lv : am_L} {st : List Value} : am_W G (am_M G d) 109 K 1 (z0 :: some (.int a) :: lv) st h nc ns = (am_W G (am_M G d) 109 K 2 (z0 :: some (.int a) :: lv) (.int a :: st) h nc ns) := am_u e_109_1
theorem e_109_2 : pg_code 109 2 = some (.iconst 0, 1, 0, 0) := by decide +kernel
theorem u_109_2 {lv : am_L} {st : List Value} : am_W G (am_M G d) 109 K 2 lv st h nc ns = (am_W G (am_M G d) 109 K 3 lv (.int 0 :: st) h nc ns) := am_u e_109_2
theorem e_109_3 : pg_code 109 3 = some (.aload_n 0, 1, 0, 0) := by decide +kernel
theorem u_109_3 {a : Nat} {lv : am_L} {st : List Value} : am_W G (am_M G d) 109 K 3 (some (.ref a) :: lv) st h nc ns = (am_W G (am_M G d) 109 K 4 (some (.ref a) :: lv) (.ref a :: st) h nc ns) := am_u e_109_3
theorem e_109_4 : pg_code 109 4 = some (.getfield 119, 3, 7, 2) := by decide +kernel
theorem u_109_4 {a : Nat} {lv : am_L} {st : List Value} : am_W G (am_M G d) 109 K 4 lv (.ref a :: st) h nc ns = (f_gf G d 109 K 7 lv st h nc ns (h a) 7 2) := am_u e_109_4
theorem e_109_7 : pg_code 109 7 = some (.iconst 1, 1, 0, 0) := by decide +kernel
theorem u_109_7 {lv : am_L} {st : List Value} : am_W G (am_M G d) 109 K 7 lv st h nc ns = (am_W G (am_M G d) 109 K 8 lv (.int 1 :: st) h nc ns) := am_u e_109_7
theorem e_109_8 : pg_code 109 8 = some (.isub, 1, 0, 0) := by decide +kernel
theorem u_109_8 {a b : Int32} {lv : am_L} {st : List Value} : am_W G (am_M G d) 109 K 8 lv (.int b :: .int a :: st) h nc ns = (am_W G (am_M G d) 109 K 9 lv (.int (a - b) :: st) h nc ns) := am_u e_109_8
theorem e_109_9 : pg_code 109 9 = some (.invokestatic 108, 3, 88, 3) := by decide +kernel
theorem u_109_9 {v0 v1 v2 : Value} {lv : am_L} {st : List Value} : am_W G (am_M G d) 109 K 9 lv (v2 :: v1 :: v0 :: st) h nc ns = ((am_words st ≤ 8 ∧ nc + 0 ≤ 0 ∧ ns + 0 ≤ 0) ∧ am_M G d 88 [v0, v1, v2] h (am_back 109 K (am_W G (am_M G d) 109 K) 88 9 lv st nc ns)) := (am_u e_109_9).trans (f_st_eq (G := G) (d := d) (k := 109) (K := K) (pc := 9) (lv := lv) (st := st) (h := h) (nc := nc) (ns := ns) (x := 88) (X := am_W G (am_M G d) 109 K) [v0, v1, v2] (by decide) rfl)
theorem e_109_12 : pg_code 109 12 = some (.ifCond .eq 7, 3, 19, 0) := by decide +kernel
theorem u_109_12 {a : Int32} {lv : am_L} {st : List Value} : am_W G (am_M G d) 109 K 12 lv (.int a :: st) h nc ns = (am_br (a = 0) (am_W G (am_M G d) 109 K 19 lv st h nc ns) (am_W G (am_M G d) 109 K 15 lv st h nc ns)) := am_u e_109_12
theorem e_109_15 : pg_code 109 15 = some (.iconst 0, 1, 0, 0) := by decide +kernel
theorem u_109_15 {lv : am_L} {st : List Value} : am_W G (am_M G d) 109 K 15 lv st h nc ns = (am_W G (am_M G d) 109 K 16 lv (.int 0 :: st) h nc ns) := am_u e_109_15
theorem e_109_16 : pg_code 109 16 = some (.goto 4, 3, 20, 0) := by decide +kernel
theorem u_109_16 {lv : am_L} {st : List Value} : am_W G (am_M G d) 109 K 16 lv st h nc ns = (am_W G (am_M G d) 109 K 20 lv st h nc ns) := am_u e_109_16
theorem e_109_19 : pg_code 109 19 = some (.iconst 1, 1, 0, 0) := by decide +kernel
theorem u_109_19 {lv : am_L} {st : List Value} : am_W G (am_M G d) 109 K 19 lv st h nc ns = (am_W G (am_M G d) 109 K 20 lv (.int 1 :: st) h nc ns) := am_u e_109_19
theorem e_109_20 : pg_code 109 20 = some (.putfield 90, 3, 7, 0) := by decide +kernel
theorem u_109_20 {a : Nat} {b : Int32} {lv : am_L} {st : List Value} : am_W G (am_M G d) 109 K 20 lv (.int b :: .ref a :: st) h nc ns = (f_pf G d 109 K 23 lv st h nc ns (h a) 7 0 a (.int b)) := (am_u e_109_20).trans (f_pf_eq ⟨rfl, rfl⟩)
theorem e_109_23 : pg_code 109 23 = some (.aload_n 0, 1, 0, 0) := by decide +kernel
theorem u_109_23 {a : Nat} {lv : am_L} {st : List Value} : am_W G (am_M G d) 109 K 23 (some (.ref a) :: lv) st h nc ns = (am_W G (am_M G d) 109 K 24 (some (.ref a) :: lv) (.ref a :: st) h nc ns) := am_u e_109_23
theorem e_109_24 : pg_code 109 24 = some (.getfield 90, 3, 7, 0) := by decide +kernel
theorem u_109_24 {a : Nat} {lv : am_L} {st : List Value} : am_W G (am_M G d) 109 K 24 lv (.ref a :: st) h nc ns = (f_gf G d 109 K 27 lv st h nc ns (h a) 7 0) := am_u e_109_24
theorem e_109_27 : pg_code 109 27 = some (.ifCond .ne 7, 3, 34, 0) := by decide +kernel
theorem u_109_27 {a : Int32} {lv : am_L} {st : List Value} : am_W G (am_M G d) 109 K 27 lv (.int a :: st) h nc ns = (am_br (¬ a = 0) (am_W G (am_M G d) 109 K 34 lv st h nc ns) (am_W G (am_M G d) 109 K 30 lv st h nc ns)) := am_u e_109_27
theorem e_109_30 : pg_code 109 30 = some (.iconst 1, 1, 0, 0) := by decide +kernel
theorem u_109_30 {lv : am_L} {st : List Value} : am_W G (am_M G d) 109 K 30 lv st h nc ns = (am_W G (am_M G d) 109 K 31 lv (.int 1 :: st) h nc ns) := am_u e_109_30
theorem e_109_31 : pg_code 109 31 = some (.goto 4, 3, 35, 0) := by decide +kernel
theorem u_109_31 {lv : am_L} {st : List Value} : am_W G (am_M G d) 109 K 31 lv st h nc ns = (am_W G (am_M G d) 109 K 35 lv st h nc ns) := am_u e_109_31
theorem e_109_34 : pg_code 109 34 = some (.iconst 0, 1, 0, 0) := by decide +kernel
theorem u_109_34 {lv : am_L} {st : List Value} : am_W G (am_M G d) 109 K 34 lv st h nc ns = (am_W G (am_M G d) 109 K 35 lv (.int 0 :: st) h nc ns) := am_u e_109_34
theorem e_109_35 : pg_code 109 35 = some (.ireturn, 1, 0, 0) := by decide +kernel
theorem u_109_35 {a : Int32} {lv : am_L} : am_W G (am_M G d) 109 K 35 lv [.int a] h nc ns = (narrow .boolean (.int a) = .int a ∧ K (.inl (some (.int a))) h) := (am_u e_109_35).trans (f_z_eq rfl)
theorem e_110_0 : pg_code 110 0 = some (.aload_n 0, 1, 0, 0) := by decide +kernel
theorem u_110_0 {a : Nat} {lv : am_L} {st : List Value} : am_W G (am_M G d) 110 K 0 (some (.ref a) :: lv) st h nc ns = (am_W G (am_M G d) 110 K 1 (some (.ref a) :: lv) (.ref a :: st) h nc ns) := am_u e_110_0
theorem e_110_1 : pg_code 110 1 = some (.iload_n 1, 1, 0, 0) := by decide +kernel
theorem u_110_1 {a : Int32} {z0 : Option Value} {lv : am_L} {st : List Value} : am_W G (am_M G d) 110 K 1 (z0 :: some (.int a) :: lv) st h nc ns = (am_W G (am_M G d) 110 K 2 (z0 :: some (.int a) :: lv) (.int a :: st) h nc ns) := am_u e_110_1
theorem e_110_2 : pg_code 110 2 = some (.invokevirtual 172, 3, 109, 2) := by decide +kernel
theorem u_110_2 {a : Nat} {v0 : Value} {lv : am_L} {st : List Value} : am_W G (am_M G d) 110 K 2 lv (v0 :: .ref a :: st) h nc ns = ((am_words st ≤ 8 ∧ nc + 0 ≤ 0 ∧ ns + 0 ≤ 0 ∧ f_rc (h a) 7) ∧ am_M G d 109 [.ref a, v0] h (am_back 110 K (am_W G (am_M G d) 110 K) 109 2 lv st nc ns)) := (am_u e_110_2).trans (f_iv_eq (a := a) (G := G) (d := d) (k := 110) (K := K) (pc := 2) (lv := lv) (st := st) (h := h) (nc := nc) (ns := ns) (x := 109) (X := am_W G (am_M G d) 110 K) [v0] (by decide) rfl)
theorem e_110_5 : pg_code 110 5 = some (.ifCond .eq 15, 3, 20, 0) := by decide +kernel
theorem u_110_5 {a : Int32} {lv : am_L} {st : List Value} : am_W G (am_M G d) 110 K 5 lv (.int a :: st) h nc ns = (am_br (a = 0) (am_W G (am_M G d) 110 K 20 lv st h nc ns) (am_W G (am_M G d) 110 K 8 lv st h nc ns)) := am_u e_110_5
theorem e_110_8 : pg_code 110 8 = some (.aload_n 0, 1, 0, 0) := by decide +kernel
theorem u_110_8 {a : Nat} {lv : am_L} {st : List Value} : am_W G (am_M G d) 110 K 8 (some (.ref a) :: lv) st h nc ns = (am_W G (am_M G d) 110 K 9 (some (.ref a) :: lv) (.ref a :: st) h nc ns) := am_u e_110_8
theorem e_110_9 : pg_code 110 9 = some (.getfield 23, 3, 7, 8) := by decide +kernel
theorem u_110_9 {a : Nat} {lv : am_L} {st : List Value} : am_W G (am_M G d) 110 K 9 lv (.ref a :: st) h nc ns = (f_gf G d 110 K 12 lv st h nc ns (h a) 7 8) := am_u e_110_9
theorem e_110_12 : pg_code 110 12 = some (.iload_n 1, 1, 0, 0) := by decide +kernel
theorem u_110_12 {a : Int32} {z0 : Option Value} {lv : am_L} {st : List Value} : am_W G (am_M G d) 110 K 12 (z0 :: some (.int a) :: lv) st h nc ns = (am_W G (am_M G d) 110 K 13 (z0 :: some (.int a) :: lv) (.int a :: st) h nc ns) := am_u e_110_12
theorem e_110_13 : pg_code 110 13 = some (.invokestatic 116, 3, 91, 1) := by decide +kernel
theorem u_110_13 {v0 : Value} {lv : am_L} {st : List Value} : am_W G (am_M G d) 110 K 13 lv (v0 :: st) h nc ns = ((am_words st ≤ 8 ∧ nc + 0 ≤ 0 ∧ ns + 0 ≤ 0) ∧ am_M G d 91 [v0] h (am_back 110 K (am_W G (am_M G d) 110 K) 91 13 lv st nc ns)) := (am_u e_110_13).trans (f_st_eq (G := G) (d := d) (k := 110) (K := K) (pc := 13) (lv := lv) (st := st) (h := h) (nc := nc) (ns := ns) (x := 91) (X := am_W G (am_M G d) 110 K) [v0] (by decide) rfl)
theorem e_110_16 : pg_code 110 16 = some (.iaload, 1, 0, 0) := by decide +kernel
theorem u_110_16 {a : Nat} {j : Int32} {lv : am_L} {st : List Value} : am_W G (am_M G d) 110 K 16 lv (.int j :: .ref a :: st) h nc ns = (f_ia G d 110 K 17 lv st h nc ns (h a) .int j) := am_u e_110_16
theorem e_110_17 : pg_code 110 17 = some (.goto 4, 3, 21, 0) := by decide +kernel
theorem u_110_17 {lv : am_L} {st : List Value} : am_W G (am_M G d) 110 K 17 lv st h nc ns = (am_W G (am_M G d) 110 K 21 lv st h nc ns) := am_u e_110_17
theorem e_110_20 : pg_code 110 20 = some (.iconst 0, 1, 0, 0) := by decide +kernel
theorem u_110_20 {lv : am_L} {st : List Value} : am_W G (am_M G d) 110 K 20 lv st h nc ns = (am_W G (am_M G d) 110 K 21 lv (.int 0 :: st) h nc ns) := am_u e_110_20
theorem e_110_21 : pg_code 110 21 = some (.ireturn, 1, 0, 0) := by decide +kernel
theorem u_110_21 {a : Int32} {lv : am_L} : am_W G (am_M G d) 110 K 21 lv [.int a] h nc ns = (K (.inl (some (.int a))) h) := (am_u e_110_21).trans (f_t ⟨rfl, .int, rfl, rfl⟩)
theorem e_111_0 : pg_code 111 0 = some (.aload_n 0, 1, 0, 0) := by decide +kernel
theorem u_111_0 {a : Nat} {lv : am_L} {st : List Value} : am_W G (am_M G d) 111 K 0 (some (.ref a) :: lv) st h nc ns = (am_W G (am_M G d) 111 K 1 (some (.ref a) :: lv) (.ref a :: st) h nc ns) := am_u e_111_0
theorem e_111_1 : pg_code 111 1 = some (.iconst 0, 1, 0, 0) := by decide +kernel
theorem u_111_1 {lv : am_L} {st : List Value} : am_W G (am_M G d) 111 K 1 lv st h nc ns = (am_W G (am_M G d) 111 K 2 lv (.int 0 :: st) h nc ns) := am_u e_111_1
theorem e_111_2 : pg_code 111 2 = some (.putfield 90, 3, 7, 0) := by decide +kernel
theorem u_111_2 {a : Nat} {b : Int32} {lv : am_L} {st : List Value} : am_W G (am_M G d) 111 K 2 lv (.int b :: .ref a :: st) h nc ns = (f_pf G d 111 K 5 lv st h nc ns (h a) 7 0 a (.int b)) := (am_u e_111_2).trans (f_pf_eq ⟨rfl, rfl⟩)
theorem e_111_5 : pg_code 111 5 = some (.iload_n 1, 1, 0, 0) := by decide +kernel
theorem u_111_5 {a : Int32} {z0 : Option Value} {lv : am_L} {st : List Value} : am_W G (am_M G d) 111 K 5 (z0 :: some (.int a) :: lv) st h nc ns = (am_W G (am_M G d) 111 K 6 (z0 :: some (.int a) :: lv) (.int a :: st) h nc ns) := am_u e_111_5
theorem e_111_6 : pg_code 111 6 = some (.iconst 0, 1, 0, 0) := by decide +kernel
theorem u_111_6 {lv : am_L} {st : List Value} : am_W G (am_M G d) 111 K 6 lv st h nc ns = (am_W G (am_M G d) 111 K 7 lv (.int 0 :: st) h nc ns) := am_u e_111_6
theorem e_111_7 : pg_code 111 7 = some (.aload_n 0, 1, 0, 0) := by decide +kernel
theorem u_111_7 {a : Nat} {lv : am_L} {st : List Value} : am_W G (am_M G d) 111 K 7 (some (.ref a) :: lv) st h nc ns = (am_W G (am_M G d) 111 K 8 (some (.ref a) :: lv) (.ref a :: st) h nc ns) := am_u e_111_7
theorem e_111_8 : pg_code 111 8 = some (.getfield 143, 3, 7, 26) := by decide +kernel
theorem u_111_8 {a : Nat} {lv : am_L} {st : List Value} : am_W G (am_M G d) 111 K 8 lv (.ref a :: st) h nc ns = (f_gf G d 111 K 11 lv st h nc ns (h a) 7 26) := am_u e_111_8
theorem e_111_11 : pg_code 111 11 = some (.iconst 1, 1, 0, 0) := by decide +kernel
theorem u_111_11 {lv : am_L} {st : List Value} : am_W G (am_M G d) 111 K 11 lv st h nc ns = (am_W G (am_M G d) 111 K 12 lv (.int 1 :: st) h nc ns) := am_u e_111_11
theorem e_111_12 : pg_code 111 12 = some (.isub, 1, 0, 0) := by decide +kernel
theorem u_111_12 {a b : Int32} {lv : am_L} {st : List Value} : am_W G (am_M G d) 111 K 12 lv (.int b :: .int a :: st) h nc ns = (am_W G (am_M G d) 111 K 13 lv (.int (a - b) :: st) h nc ns) := am_u e_111_12
theorem e_111_13 : pg_code 111 13 = some (.invokestatic 108, 3, 88, 3) := by decide +kernel
theorem u_111_13 {v0 v1 v2 : Value} {lv : am_L} {st : List Value} : am_W G (am_M G d) 111 K 13 lv (v2 :: v1 :: v0 :: st) h nc ns = ((am_words st ≤ 8 ∧ nc + 0 ≤ 0 ∧ ns + 0 ≤ 0) ∧ am_M G d 88 [v0, v1, v2] h (am_back 111 K (am_W G (am_M G d) 111 K) 88 13 lv st nc ns)) := (am_u e_111_13).trans (f_st_eq (G := G) (d := d) (k := 111) (K := K) (pc := 13) (lv := lv) (st := st) (h := h) (nc := nc) (ns := ns) (x := 88) (X := am_W G (am_M G d) 111 K) [v0, v1, v2] (by decide) rfl)
theorem e_111_16 : pg_code 111 16 = some (.ifCond .eq 12, 3, 28, 0) := by decide +kernel
theorem u_111_16 {a : Int32} {lv : am_L} {st : List Value} : am_W G (am_M G d) 111 K 16 lv (.int a :: st) h nc ns = (am_br (a = 0) (am_W G (am_M G d) 111 K 28 lv st h nc ns) (am_W G (am_M G d) 111 K 19 lv st h nc ns)) := am_u e_111_16
theorem e_111_19 : pg_code 111 19 = some (.aload_n 0, 1, 0, 0) := by decide +kernel
theorem u_111_19 {a : Nat} {lv : am_L} {st : List Value} : am_W G (am_M G d) 111 K 19 (some (.ref a) :: lv) st h nc ns = (am_W G (am_M G d) 111 K 20 (some (.ref a) :: lv) (.ref a :: st) h nc ns) := am_u e_111_19
theorem e_111_20 : pg_code 111 20 = some (.getfield 75, 3, 7, 28) := by decide +kernel
theorem u_111_20 {a : Nat} {lv : am_L} {st : List Value} : am_W G (am_M G d) 111 K 20 lv (.ref a :: st) h nc ns = (f_gf G d 111 K 23 lv st h nc ns (h a) 7 28) := am_u e_111_20
theorem e_111_23 : pg_code 111 23 = some (.iload_n 1, 1, 0, 0) := by decide +kernel
theorem u_111_23 {a : Int32} {z0 : Option Value} {lv : am_L} {st : List Value} : am_W G (am_M G d) 111 K 23 (z0 :: some (.int a) :: lv) st h nc ns = (am_W G (am_M G d) 111 K 24 (z0 :: some (.int a) :: lv) (.int a :: st) h nc ns) := am_u e_111_23
theorem e_111_24 : pg_code 111 24 = some (.iaload, 1, 0, 0) := by decide +kernel
theorem u_111_24 {a : Nat} {j : Int32} {lv : am_L} {st : List Value} : am_W G (am_M G d) 111 K 24 lv (.int j :: .ref a :: st) h nc ns = (f_ia G d 111 K 25 lv st h nc ns (h a) .int j) := am_u e_111_24
theorem e_111_25 : pg_code 111 25 = some (.goto 8, 3, 33, 0) := by decide +kernel
theorem u_111_25 {lv : am_L} {st : List Value} : am_W G (am_M G d) 111 K 25 lv st h nc ns = (am_W G (am_M G d) 111 K 33 lv st h nc ns) := am_u e_111_25
theorem e_111_28 : pg_code 111 28 = some (.aload_n 0, 1, 0, 0) := by decide +kernel
theorem u_111_28 {a : Nat} {lv : am_L} {st : List Value} : am_W G (am_M G d) 111 K 28 (some (.ref a) :: lv) st h nc ns = (am_W G (am_M G d) 111 K 29 (some (.ref a) :: lv) (.ref a :: st) h nc ns) := am_u e_111_28
theorem e_111_29 : pg_code 111 29 = some (.iconst 1, 1, 0, 0) := by decide +kernel
theorem u_111_29 {lv : am_L} {st : List Value} : am_W G (am_M G d) 111 K 29 lv st h nc ns = (am_W G (am_M G d) 111 K 30 lv (.int 1 :: st) h nc ns) := am_u e_111_29
theorem e_111_30 : pg_code 111 30 = some (.invokevirtual 104, 3, 85, 2) := by decide +kernel
theorem u_111_30 {a : Nat} {v0 : Value} {lv : am_L} {st : List Value} : am_W G (am_M G d) 111 K 30 lv (v0 :: .ref a :: st) h nc ns = ((am_words st ≤ 8 ∧ nc + 0 ≤ 0 ∧ ns + 0 ≤ 0 ∧ f_rc (h a) 7) ∧ am_M G d 85 [.ref a, v0] h (am_back 111 K (am_W G (am_M G d) 111 K) 85 30 lv st nc ns)) := (am_u e_111_30).trans (f_iv_eq (a := a) (G := G) (d := d) (k := 111) (K := K) (pc := 30) (lv := lv) (st := st) (h := h) (nc := nc) (ns := ns) (x := 85) (X := am_W G (am_M G d) 111 K) [v0] (by decide) rfl)
theorem e_111_33 : pg_code 111 33 = some (.ireturn, 1, 0, 0) := by decide +kernel
theorem u_111_33 {a : Int32} {lv : am_L} : am_W G (am_M G d) 111 K 33 lv [.int a] h nc ns = (K (.inl (some (.int a))) h) := (am_u e_111_33).trans (f_t ⟨rfl, .int, rfl, rfl⟩)
theorem e_112_0 : pg_code 112 0 = some (.aload_n 0, 1, 0, 0) := by decide +kernel
theorem u_112_0 {a : Nat} {lv : am_L} {st : List Value} : am_W G (am_M G d) 112 K 0 (some (.ref a) :: lv) st h nc ns = (am_W G (am_M G d) 112 K 1 (some (.ref a) :: lv) (.ref a :: st) h nc ns) := am_u e_112_0
theorem e_112_1 : pg_code 112 1 = some (.iload_n 1, 1, 0, 0) := by decide +kernel
theorem u_112_1 {a : Int32} {z0 : Option Value} {lv : am_L} {st : List Value} : am_W G (am_M G d) 112 K 1 (z0 :: some (.int a) :: lv) st h nc ns = (am_W G (am_M G d) 112 K 2 (z0 :: some (.int a) :: lv) (.int a :: st) h nc ns) := am_u e_112_1
theorem e_112_2 : pg_code 112 2 = some (.invokevirtual 172, 3, 109, 2) := by decide +kernel
theorem u_112_2 {a : Nat} {v0 : Value} {lv : am_L} {st : List Value} : am_W G (am_M G d) 112 K 2 lv (v0 :: .ref a :: st) h nc ns = ((am_words st ≤ 8 ∧ nc + 0 ≤ 0 ∧ ns + 0 ≤ 0 ∧ f_rc (h a) 7) ∧ am_M G d 109 [.ref a, v0] h (am_back 112 K (am_W G (am_M G d) 112 K) 109 2 lv st nc ns)) := (am_u e_112_2).trans (f_iv_eq (a := a) (G := G) (d := d) (k := 112) (K := K) (pc := 2) (lv := lv) (st := st) (h := h) (nc := nc) (ns := ns) (x := 109) (X := am_W G (am_M G d) 112 K) [v0] (by decide) rfl)
theorem e_112_5 : pg_code 112 5 = some (.ifCond .ne 5, 3, 10, 0) := by decide +kernel
theorem u_112_5 {a : Int32} {lv : am_L} {st : List Value} : am_W G (am_M G d) 112 K 5 lv (.int a :: st) h nc ns = (am_br (¬ a = 0) (am_W G (am_M G d) 112 K 10 lv st h nc ns) (am_W G (am_M G d) 112 K 8 lv st h nc ns)) := am_u e_112_5
theorem e_112_8 : pg_code 112 8 = some (.iconst 0, 1, 0, 0) := by decide +kernel
theorem u_112_8 {lv : am_L} {st : List Value} : am_W G (am_M G d) 112 K 8 lv st h nc ns = (am_W G (am_M G d) 112 K 9 lv (.int 0 :: st) h nc ns) := am_u e_112_8
theorem e_112_9 : pg_code 112 9 = some (.ireturn, 1, 0, 0) := by decide +kernel
theorem u_112_9 {a : Int32} {lv : am_L} : am_W G (am_M G d) 112 K 9 lv [.int a] h nc ns = (K (.inl (some (.int a))) h) := (am_u e_112_9).trans (f_t ⟨rfl, .int, rfl, rfl⟩)
theorem e_112_10 : pg_code 112 10 = some (.iload_n 2, 1, 0, 0) := by decide +kernel
theorem u_112_10 {a : Int32} {z0 : Option Value} {z1 : Option Value} {lv : am_L} {st : List Value} : am_W G (am_M G d) 112 K 10 (z0 :: z1 :: some (.int a) :: lv) st h nc ns = (am_W G (am_M G d) 112 K 11 (z0 :: z1 :: some (.int a) :: lv) (.int a :: st) h nc ns) := am_u e_112_10
theorem e_112_11 : pg_code 112 11 = some (.iconst 0, 1, 0, 0) := by decide +kernel
theorem u_112_11 {lv : am_L} {st : List Value} : am_W G (am_M G d) 112 K 11 lv st h nc ns = (am_W G (am_M G d) 112 K 12 lv (.int 0 :: st) h nc ns) := am_u e_112_11
theorem e_112_12 : pg_code 112 12 = some (.iconst 2, 1, 0, 0) := by decide +kernel
theorem u_112_12 {lv : am_L} {st : List Value} : am_W G (am_M G d) 112 K 12 lv st h nc ns = (am_W G (am_M G d) 112 K 13 lv (.int 2 :: st) h nc ns) := am_u e_112_12
theorem e_112_13 : pg_code 112 13 = some (.invokestatic 108, 3, 88, 3) := by decide +kernel
theorem u_112_13 {v0 v1 v2 : Value} {lv : am_L} {st : List Value} : am_W G (am_M G d) 112 K 13 lv (v2 :: v1 :: v0 :: st) h nc ns = ((am_words st ≤ 8 ∧ nc + 0 ≤ 0 ∧ ns + 0 ≤ 0) ∧ am_M G d 88 [v0, v1, v2] h (am_back 112 K (am_W G (am_M G d) 112 K) 88 13 lv st nc ns)) := (am_u e_112_13).trans (f_st_eq (G := G) (d := d) (k := 112) (K := K) (pc := 13) (lv := lv) (st := st) (h := h) (nc := nc) (ns := ns) (x := 88) (X := am_W G (am_M G d) 112 K) [v0, v1, v2] (by decide) rfl)
theorem e_112_16 : pg_code 112 16 = some (.ifCond .ne 9, 3, 25, 0) := by decide +kernel
theorem u_112_16 {a : Int32} {lv : am_L} {st : List Value} : am_W G (am_M G d) 112 K 16 lv (.int a :: st) h nc ns = (am_br (¬ a = 0) (am_W G (am_M G d) 112 K 25 lv st h nc ns) (am_W G (am_M G d) 112 K 19 lv st h nc ns)) := am_u e_112_16
theorem e_112_19 : pg_code 112 19 = some (.aload_n 0, 1, 0, 0) := by decide +kernel
theorem u_112_19 {a : Nat} {lv : am_L} {st : List Value} : am_W G (am_M G d) 112 K 19 (some (.ref a) :: lv) st h nc ns = (am_W G (am_M G d) 112 K 20 (some (.ref a) :: lv) (.ref a :: st) h nc ns) := am_u e_112_19
theorem e_112_20 : pg_code 112 20 = some (.iconst 1, 1, 0, 0) := by decide +kernel
theorem u_112_20 {lv : am_L} {st : List Value} : am_W G (am_M G d) 112 K 20 lv st h nc ns = (am_W G (am_M G d) 112 K 21 lv (.int 1 :: st) h nc ns) := am_u e_112_20
theorem e_112_21 : pg_code 112 21 = some (.invokevirtual 104, 3, 85, 2) := by decide +kernel
theorem u_112_21 {a : Nat} {v0 : Value} {lv : am_L} {st : List Value} : am_W G (am_M G d) 112 K 21 lv (v0 :: .ref a :: st) h nc ns = ((am_words st ≤ 8 ∧ nc + 0 ≤ 0 ∧ ns + 0 ≤ 0 ∧ f_rc (h a) 7) ∧ am_M G d 85 [.ref a, v0] h (am_back 112 K (am_W G (am_M G d) 112 K) 85 21 lv st nc ns)) := (am_u e_112_21).trans (f_iv_eq (a := a) (G := G) (d := d) (k := 112) (K := K) (pc := 21) (lv := lv) (st := st) (h := h) (nc := nc) (ns := ns) (x := 85) (X := am_W G (am_M G d) 112 K) [v0] (by decide) rfl)
theorem e_112_24 : pg_code 112 24 = some (.ireturn, 1, 0, 0) := by decide +kernel
theorem u_112_24 {a : Int32} {lv : am_L} : am_W G (am_M G d) 112 K 24 lv [.int a] h nc ns = (K (.inl (some (.int a))) h) := (am_u e_112_24).trans (f_t ⟨rfl, .int, rfl, rfl⟩)
theorem e_112_25 : pg_code 112 25 = some (.iload_n 2, 1, 0, 0) := by decide +kernel
theorem u_112_25 {a : Int32} {z0 : Option Value} {z1 : Option Value} {lv : am_L} {st : List Value} : am_W G (am_M G d) 112 K 25 (z0 :: z1 :: some (.int a) :: lv) st h nc ns = (am_W G (am_M G d) 112 K 26 (z0 :: z1 :: some (.int a) :: lv) (.int a :: st) h nc ns) := am_u e_112_25
theorem e_112_26 : pg_code 112 26 = some (.ifCond .ne 15, 3, 41, 0) := by decide +kernel
theorem u_112_26 {a : Int32} {lv : am_L} {st : List Value} : am_W G (am_M G d) 112 K 26 lv (.int a :: st) h nc ns = (am_br (¬ a = 0) (am_W G (am_M G d) 112 K 41 lv st h nc ns) (am_W G (am_M G d) 112 K 29 lv st h nc ns)) := am_u e_112_26
theorem e_112_29 : pg_code 112 29 = some (.aload_n 0, 1, 0, 0) := by decide +kernel
theorem u_112_29 {a : Nat} {lv : am_L} {st : List Value} : am_W G (am_M G d) 112 K 29 (some (.ref a) :: lv) st h nc ns = (am_W G (am_M G d) 112 K 30 (some (.ref a) :: lv) (.ref a :: st) h nc ns) := am_u e_112_29
theorem e_112_30 : pg_code 112 30 = some (.getfield 7, 3, 7, 4) := by decide +kernel
theorem u_112_30 {a : Nat} {lv : am_L} {st : List Value} : am_W G (am_M G d) 112 K 30 lv (.ref a :: st) h nc ns = (f_gf G d 112 K 33 lv st h nc ns (h a) 7 4) := am_u e_112_30
theorem e_112_33 : pg_code 112 33 = some (.iload_n 1, 1, 0, 0) := by decide +kernel
theorem u_112_33 {a : Int32} {z0 : Option Value} {lv : am_L} {st : List Value} : am_W G (am_M G d) 112 K 33 (z0 :: some (.int a) :: lv) st h nc ns = (am_W G (am_M G d) 112 K 34 (z0 :: some (.int a) :: lv) (.int a :: st) h nc ns) := am_u e_112_33
theorem e_112_34 : pg_code 112 34 = some (.invokestatic 116, 3, 91, 1) := by decide +kernel
theorem u_112_34 {v0 : Value} {lv : am_L} {st : List Value} : am_W G (am_M G d) 112 K 34 lv (v0 :: st) h nc ns = ((am_words st ≤ 8 ∧ nc + 0 ≤ 0 ∧ ns + 0 ≤ 0) ∧ am_M G d 91 [v0] h (am_back 112 K (am_W G (am_M G d) 112 K) 91 34 lv st nc ns)) := (am_u e_112_34).trans (f_st_eq (G := G) (d := d) (k := 112) (K := K) (pc := 34) (lv := lv) (st := st) (h := h) (nc := nc) (ns := ns) (x := 91) (X := am_W G (am_M G d) 112 K) [v0] (by decide) rfl)
theorem e_112_37 : pg_code 112 37 = some (.iaload, 1, 0, 0) := by decide +kernel
theorem u_112_37 {a : Nat} {j : Int32} {lv : am_L} {st : List Value} : am_W G (am_M G d) 112 K 37 lv (.int j :: .ref a :: st) h nc ns = (f_ia G d 112 K 38 lv st h nc ns (h a) .int j) := am_u e_112_37
theorem e_112_38 : pg_code 112 38 = some (.goto 29, 3, 67, 0) := by decide +kernel
theorem u_112_38 {lv : am_L} {st : List Value} : am_W G (am_M G d) 112 K 38 lv st h nc ns = (am_W G (am_M G d) 112 K 67 lv st h nc ns) := am_u e_112_38
theorem e_112_41 : pg_code 112 41 = some (.iload_n 2, 1, 0, 0) := by decide +kernel
theorem u_112_41 {a : Int32} {z0 : Option Value} {z1 : Option Value} {lv : am_L} {st : List Value} : am_W G (am_M G d) 112 K 41 (z0 :: z1 :: some (.int a) :: lv) st h nc ns = (am_W G (am_M G d) 112 K 42 (z0 :: z1 :: some (.int a) :: lv) (.int a :: st) h nc ns) := am_u e_112_41
theorem e_112_42 : pg_code 112 42 = some (.iconst 1, 1, 0, 0) := by decide +kernel
theorem u_112_42 {lv : am_L} {st : List Value} : am_W G (am_M G d) 112 K 42 lv st h nc ns = (am_W G (am_M G d) 112 K 43 lv (.int 1 :: st) h nc ns) := am_u e_112_42
theorem e_112_43 : pg_code 112 43 = some (.if_icmp .ne 15, 3, 58, 0) := by decide +kernel
theorem u_112_43 {a b : Int32} {lv : am_L} {st : List Value} : am_W G (am_M G d) 112 K 43 lv (.int b :: .int a :: st) h nc ns = (am_br (¬ a = b) (am_W G (am_M G d) 112 K 58 lv st h nc ns) (am_W G (am_M G d) 112 K 46 lv st h nc ns)) := am_u e_112_43
theorem e_112_46 : pg_code 112 46 = some (.aload_n 0, 1, 0, 0) := by decide +kernel
theorem u_112_46 {a : Nat} {lv : am_L} {st : List Value} : am_W G (am_M G d) 112 K 46 (some (.ref a) :: lv) st h nc ns = (am_W G (am_M G d) 112 K 47 (some (.ref a) :: lv) (.ref a :: st) h nc ns) := am_u e_112_46
theorem e_112_47 : pg_code 112 47 = some (.getfield 13, 3, 7, 5) := by decide +kernel
theorem u_112_47 {a : Nat} {lv : am_L} {st : List Value} : am_W G (am_M G d) 112 K 47 lv (.ref a :: st) h nc ns = (f_gf G d 112 K 50 lv st h nc ns (h a) 7 5) := am_u e_112_47
theorem e_112_50 : pg_code 112 50 = some (.iload_n 1, 1, 0, 0) := by decide +kernel
theorem u_112_50 {a : Int32} {z0 : Option Value} {lv : am_L} {st : List Value} : am_W G (am_M G d) 112 K 50 (z0 :: some (.int a) :: lv) st h nc ns = (am_W G (am_M G d) 112 K 51 (z0 :: some (.int a) :: lv) (.int a :: st) h nc ns) := am_u e_112_50
theorem e_112_51 : pg_code 112 51 = some (.invokestatic 116, 3, 91, 1) := by decide +kernel
theorem u_112_51 {v0 : Value} {lv : am_L} {st : List Value} : am_W G (am_M G d) 112 K 51 lv (v0 :: st) h nc ns = ((am_words st ≤ 8 ∧ nc + 0 ≤ 0 ∧ ns + 0 ≤ 0) ∧ am_M G d 91 [v0] h (am_back 112 K (am_W G (am_M G d) 112 K) 91 51 lv st nc ns)) := (am_u e_112_51).trans (f_st_eq (G := G) (d := d) (k := 112) (K := K) (pc := 51) (lv := lv) (st := st) (h := h) (nc := nc) (ns := ns) (x := 91) (X := am_W G (am_M G d) 112 K) [v0] (by decide) rfl)
theorem e_112_54 : pg_code 112 54 = some (.iaload, 1, 0, 0) := by decide +kernel
theorem u_112_54 {a : Nat} {j : Int32} {lv : am_L} {st : List Value} : am_W G (am_M G d) 112 K 54 lv (.int j :: .ref a :: st) h nc ns = (f_ia G d 112 K 55 lv st h nc ns (h a) .int j) := am_u e_112_54
theorem e_112_55 : pg_code 112 55 = some (.goto 12, 3, 67, 0) := by decide +kernel
theorem u_112_55 {lv : am_L} {st : List Value} : am_W G (am_M G d) 112 K 55 lv st h nc ns = (am_W G (am_M G d) 112 K 67 lv st h nc ns) := am_u e_112_55
theorem e_112_58 : pg_code 112 58 = some (.aload_n 0, 1, 0, 0) := by decide +kernel
theorem u_112_58 {a : Nat} {lv : am_L} {st : List Value} : am_W G (am_M G d) 112 K 58 (some (.ref a) :: lv) st h nc ns = (am_W G (am_M G d) 112 K 59 (some (.ref a) :: lv) (.ref a :: st) h nc ns) := am_u e_112_58
theorem e_112_59 : pg_code 112 59 = some (.getfield 16, 3, 7, 6) := by decide +kernel
theorem u_112_59 {a : Nat} {lv : am_L} {st : List Value} : am_W G (am_M G d) 112 K 59 lv (.ref a :: st) h nc ns = (f_gf G d 112 K 62 lv st h nc ns (h a) 7 6) := am_u e_112_59
theorem e_112_62 : pg_code 112 62 = some (.iload_n 1, 1, 0, 0) := by decide +kernel
theorem u_112_62 {a : Int32} {z0 : Option Value} {lv : am_L} {st : List Value} : am_W G (am_M G d) 112 K 62 (z0 :: some (.int a) :: lv) st h nc ns = (am_W G (am_M G d) 112 K 63 (z0 :: some (.int a) :: lv) (.int a :: st) h nc ns) := am_u e_112_62
theorem e_112_63 : pg_code 112 63 = some (.invokestatic 116, 3, 91, 1) := by decide +kernel
theorem u_112_63 {v0 : Value} {lv : am_L} {st : List Value} : am_W G (am_M G d) 112 K 63 lv (v0 :: st) h nc ns = ((am_words st ≤ 8 ∧ nc + 0 ≤ 0 ∧ ns + 0 ≤ 0) ∧ am_M G d 91 [v0] h (am_back 112 K (am_W G (am_M G d) 112 K) 91 63 lv st nc ns)) := (am_u e_112_63).trans (f_st_eq (G := G) (d := d) (k := 112) (K := K) (pc := 63) (lv := lv) (st := st) (h := h) (nc := nc) (ns := ns) (x := 91) (X := am_W G (am_M G d) 112 K) [v0] (by decide) rfl)
theorem e_112_66 : pg_code 112 66 = some (.iaload, 1, 0, 0) := by decide +kernel
theorem u_112_66 {a : Nat} {j : Int32} {lv : am_L} {st : List Value} : am_W G (am_M G d) 112 K 66 lv (.int j :: .ref a :: st) h nc ns = (f_ia G d 112 K 67 lv st h nc ns (h a) .int j) := am_u e_112_66
theorem e_112_67 : pg_code 112 67 = some (.ireturn, 1, 0, 0) := by decide +kernel
theorem u_112_67 {a : Int32} {lv : am_L} : am_W G (am_M G d) 112 K 67 lv [.int a] h nc ns = (K (.inl (some (.int a))) h) := (am_u e_112_67).trans (f_t ⟨rfl, .int, rfl, rfl⟩)
theorem e_113_0 : pg_code 113 0 = some (.aload_n 0, 1, 0, 0) := by decide +kernel
theorem u_113_0 {a : Nat} {lv : am_L} {st : List Value} : am_W G (am_M G d) 113 K 0 (some (.ref a) :: lv) st h nc ns = (am_W G (am_M G d) 113 K 1 (some (.ref a) :: lv) (.ref a :: st) h nc ns) := am_u e_113_0
theorem e_113_1 : pg_code 113 1 = some (.iconst 0, 1, 0, 0) := by decide +kernel
theorem u_113_1 {lv : am_L} {st : List Value} : am_W G (am_M G d) 113 K 1 lv st h nc ns = (am_W G (am_M G d) 113 K 2 lv (.int 0 :: st) h nc ns) := am_u e_113_1
theorem e_113_2 : pg_code 113 2 = some (.putfield 90, 3, 7, 0) := by decide +kernel
theorem u_113_2 {a : Nat} {b : Int32} {lv : am_L} {st : List Value} : am_W G (am_M G d) 113 K 2 lv (.int b :: .ref a :: st) h nc ns = (f_pf G d 113 K 5 lv st h nc ns (h a) 7 0 a (.int b)) := (am_u e_113_2).trans (f_pf_eq ⟨rfl, rfl⟩)
theorem e_113_5 : pg_code 113 5 = some (.aload_n 0, 1, 0, 0) := by decide +kernel
theorem u_113_5 {a : Nat} {lv : am_L} {st : List Value} : am_W G (am_M G d) 113 K 5 (some (.ref a) :: lv) st h nc ns = (am_W G (am_M G d) 113 K 6 (some (.ref a) :: lv) (.ref a :: st) h nc ns) := am_u e_113_5
theorem e_113_6 : pg_code 113 6 = some (.getfield 175, 3, 7, 3) := by decide +kernel
theorem u_113_6 {a : Nat} {lv : am_L} {st : List Value} : am_W G (am_M G d) 113 K 6 lv (.ref a :: st) h nc ns = (f_gf G d 113 K 9 lv st h nc ns (h a) 7 3) := am_u e_113_6
theorem e_113_9 : pg_code 113 9 = some (.iconst 4, 1, 0, 0) := by decide +kernel
theorem u_113_9 {lv : am_L} {st : List Value} : am_W G (am_M G d) 113 K 9 lv st h nc ns = (am_W G (am_M G d) 113 K 10 lv (.int 4 :: st) h nc ns) := am_u e_113_9
theorem e_113_10 : pg_code 113 10 = some (.if_icmp .ne 9, 3, 19, 0) := by decide +kernel
theorem u_113_10 {a b : Int32} {lv : am_L} {st : List Value} : am_W G (am_M G d) 113 K 10 lv (.int b :: .int a :: st) h nc ns = (am_br (¬ a = b) (am_W G (am_M G d) 113 K 19 lv st h nc ns) (am_W G (am_M G d) 113 K 13 lv st h nc ns)) := am_u e_113_10
theorem e_113_13 : pg_code 113 13 = some (.aload_n 0, 1, 0, 0) := by decide +kernel
theorem u_113_13 {a : Nat} {lv : am_L} {st : List Value} : am_W G (am_M G d) 113 K 13 (some (.ref a) :: lv) st h nc ns = (am_W G (am_M G d) 113 K 14 (some (.ref a) :: lv) (.ref a :: st) h nc ns) := am_u e_113_13
theorem e_113_14 : pg_code 113 14 = some (.iconst 1, 1, 0, 0) := by decide +kernel
theorem u_113_14 {lv : am_L} {st : List Value} : am_W G (am_M G d) 113 K 14 lv st h nc ns = (am_W G (am_M G d) 113 K 15 lv (.int 1 :: st) h nc ns) := am_u e_113_14
theorem e_113_15 : pg_code 113 15 = some (.invokevirtual 104, 3, 85, 2) := by decide +kernel
theorem u_113_15 {a : Nat} {v0 : Value} {lv : am_L} {st : List Value} : am_W G (am_M G d) 113 K 15 lv (v0 :: .ref a :: st) h nc ns = ((am_words st ≤ 8 ∧ nc + 0 ≤ 0 ∧ ns + 0 ≤ 0 ∧ f_rc (h a) 7) ∧ am_M G d 85 [.ref a, v0] h (am_back 113 K (am_W G (am_M G d) 113 K) 85 15 lv st nc ns)) := (am_u e_113_15).trans (f_iv_eq (a := a) (G := G) (d := d) (k := 113) (K := K) (pc := 15) (lv := lv) (st := st) (h := h) (nc := nc) (ns := ns) (x := 85) (X := am_W G (am_M G d) 113 K) [v0] (by decide) rfl)
theorem e_113_18 : pg_code 113 18 = some (.ireturn, 1, 0, 0) := by decide +kernel
theorem u_113_18 {a : Int32} {lv : am_L} : am_W G (am_M G d) 113 K 18 lv [.int a] h nc ns = (K (.inl (some (.int a))) h) := (am_u e_113_18).trans (f_t ⟨rfl, .int, rfl, rfl⟩)
theorem e_113_19 : pg_code 113 19 = some (.aload_n 0, 1, 0, 0) := by decide +kernel
theorem u_113_19 {a : Nat} {lv : am_L} {st : List Value} : am_W G (am_M G d) 113 K 19 (some (.ref a) :: lv) st h nc ns = (am_W G (am_M G d) 113 K 20 (some (.ref a) :: lv) (.ref a :: st) h nc ns) := am_u e_113_19
theorem e_113_20 : pg_code 113 20 = some (.aload_n 0, 1, 0, 0) := by decide +kernel
theorem u_113_20 {a : Nat} {lv : am_L} {st : List Value} : am_W G (am_M G d) 113 K 20 (some (.ref a) :: lv) st h nc ns = (am_W G (am_M G d) 113 K 21 (some (.ref a) :: lv) (.ref a :: st) h nc ns) := am_u e_113_20
theorem e_113_21 : pg_code 113 21 = some (.getfield 175, 3, 7, 3) := by decide +kernel
theorem u_113_21 {a : Nat} {lv : am_L} {st : List Value} : am_W G (am_M G d) 113 K 21 lv (.ref a :: st) h nc ns = (f_gf G d 113 K 24 lv st h nc ns (h a) 7 3) := am_u e_113_21
theorem e_113_24 : pg_code 113 24 = some (.invokevirtual 178, 3, 114, 2) := by decide +kernel
theorem u_113_24 {a : Nat} {v0 : Value} {lv : am_L} {st : List Value} : am_W G (am_M G d) 113 K 24 lv (v0 :: .ref a :: st) h nc ns = ((am_words st ≤ 8 ∧ nc + 0 ≤ 0 ∧ ns + 0 ≤ 0 ∧ f_rc (h a) 7) ∧ am_M G d 114 [.ref a, v0] h (am_back 113 K (am_W G (am_M G d) 113 K) 114 24 lv st nc ns)) := (am_u e_113_24).trans (f_iv_eq (a := a) (G := G) (d := d) (k := 113) (K := K) (pc := 24) (lv := lv) (st := st) (h := h) (nc := nc) (ns := ns) (x := 114) (X := am_W G (am_M G d) 113 K) [v0] (by decide) rfl)
theorem e_113_27 : pg_code 113 27 = some (.aload_n 0, 1, 0, 0) := by decide +kernel
theorem u_113_27 {a : Nat} {lv : am_L} {st : List Value} : am_W G (am_M G d) 113 K 27 (some (.ref a) :: lv) st h nc ns = (am_W G (am_M G d) 113 K 28 (some (.ref a) :: lv) (.ref a :: st) h nc ns) := am_u e_113_27
theorem e_113_28 : pg_code 113 28 = some (.dup, 1, 0, 0) := by decide +kernel
theorem u_113_28 {a : Nat} {lv : am_L} {st : List Value} : am_W G (am_M G d) 113 K 28 lv (.ref a :: st) h nc ns = (am_W G (am_M G d) 113 K 29 lv (.ref a :: .ref a :: st) h nc ns) := (am_u e_113_28).trans (f_t rfl)
theorem e_113_29 : pg_code 113 29 = some (.getfield 175, 3, 7, 3) := by decide +kernel
theorem u_113_29 {a : Nat} {lv : am_L} {st : List Value} : am_W G (am_M G d) 113 K 29 lv (.ref a :: st) h nc ns = (f_gf G d 113 K 32 lv st h nc ns (h a) 7 3) := am_u e_113_29
theorem e_113_32 : pg_code 113 32 = some (.iconst 1, 1, 0, 0) := by decide +kernel
theorem u_113_32 {lv : am_L} {st : List Value} : am_W G (am_M G d) 113 K 32 lv st h nc ns = (am_W G (am_M G d) 113 K 33 lv (.int 1 :: st) h nc ns) := am_u e_113_32
theorem e_113_33 : pg_code 113 33 = some (.iadd, 1, 0, 0) := by decide +kernel
theorem u_113_33 {a b : Int32} {lv : am_L} {st : List Value} : am_W G (am_M G d) 113 K 33 lv (.int b :: .int a :: st) h nc ns = (am_W G (am_M G d) 113 K 34 lv (.int (a + b) :: st) h nc ns) := am_u e_113_33
theorem e_113_34 : pg_code 113 34 = some (.putfield 175, 3, 7, 3) := by decide +kernel
theorem u_113_34 {a : Nat} {b : Int32} {lv : am_L} {st : List Value} : am_W G (am_M G d) 113 K 34 lv (.int b :: .ref a :: st) h nc ns = (f_pf G d 113 K 37 lv st h nc ns (h a) 7 3 a (.int b)) := (am_u e_113_34).trans (f_pf_eq ⟨rfl, rfl⟩)
theorem e_113_37 : pg_code 113 37 = some (.aload_n 0, 1, 0, 0) := by decide +kernel
theorem u_113_37 {a : Nat} {lv : am_L} {st : List Value} : am_W G (am_M G d) 113 K 37 (some (.ref a) :: lv) st h nc ns = (am_W G (am_M G d) 113 K 38 (some (.ref a) :: lv) (.ref a :: st) h nc ns) := am_u e_113_37
theorem e_113_38 : pg_code 113 38 = some (.iconst 0, 1, 0, 0) := by decide +kernel
theorem u_113_38 {lv : am_L} {st : List Value} : am_W G (am_M G d) 113 K 38 lv st h nc ns = (am_W G (am_M G d) 113 K 39 lv (.int 0 :: st) h nc ns) := am_u e_113_38
theorem e_113_39 : pg_code 113 39 = some (.putfield 94, 3, 7, 18) := by decide +kernel
theorem u_113_39 {a : Nat} {b : Int32} {lv : am_L} {st : List Value} : am_W G (am_M G d) 113 K 39 lv (.int b :: .ref a :: st) h nc ns = (f_pf G d 113 K 42 lv st h nc ns (h a) 7 18 a (.int b)) := (am_u e_113_39).trans (f_pf_eq ⟨rfl, rfl⟩)
theorem e_113_42 : pg_code 113 42 = some (.aload_n 0, 1, 0, 0) := by decide +kernel
theorem u_113_42 {a : Nat} {lv : am_L} {st : List Value} : am_W G (am_M G d) 113 K 42 (some (.ref a) :: lv) st h nc ns = (am_W G (am_M G d) 113 K 43 (some (.ref a) :: lv) (.ref a :: st) h nc ns) := am_u e_113_42
theorem e_113_43 : pg_code 113 43 = some (.getfield 175, 3, 7, 3) := by decide +kernel
theorem u_113_43 {a : Nat} {lv : am_L} {st : List Value} : am_W G (am_M G d) 113 K 43 lv (.ref a :: st) h nc ns = (f_gf G d 113 K 46 lv st h nc ns (h a) 7 3) := am_u e_113_43
theorem e_113_46 : pg_code 113 46 = some (.iconst 1, 1, 0, 0) := by decide +kernel
theorem u_113_46 {lv : am_L} {st : List Value} : am_W G (am_M G d) 113 K 46 lv st h nc ns = (am_W G (am_M G d) 113 K 47 lv (.int 1 :: st) h nc ns) := am_u e_113_46
theorem e_113_47 : pg_code 113 47 = some (.isub, 1, 0, 0) := by decide +kernel
theorem u_113_47 {a b : Int32} {lv : am_L} {st : List Value} : am_W G (am_M G d) 113 K 47 lv (.int b :: .int a :: st) h nc ns = (am_W G (am_M G d) 113 K 48 lv (.int (a - b) :: st) h nc ns) := am_u e_113_47
theorem e_113_48 : pg_code 113 48 = some (.ireturn, 1, 0, 0) := by decide +kernel
theorem u_113_48 {a : Int32} {lv : am_L} : am_W G (am_M G d) 113 K 48 lv [.int a] h nc ns = (K (.inl (some (.int a))) h) := (am_u e_113_48).trans (f_t ⟨rfl, .int, rfl, rfl⟩)
theorem e_114_0 : pg_code 114 0 = some (.aload_n 0, 1, 0, 0) := by decide +kernel
theorem u_114_0 {a : Nat} {lv : am_L} {st : List Value} : am_W G (am_M G d) 114 K 0 (some (.ref a) :: lv) st h nc ns = (am_W G (am_M G d) 114 K 1 (some (.ref a) :: lv) (.ref a :: st) h nc ns) := am_u e_114_0
theorem e_114_1 : pg_code 114 1 = some (.getfield 54, 3, 7, 19) := by decide +kernel
theorem u_114_1 {a : Nat} {lv : am_L} {st : List Value} : am_W G (am_M G d) 114 K 1 lv (.ref a :: st) h nc ns = (f_gf G d 114 K 4 lv st h nc ns (h a) 7 19) := am_u e_114_1
theorem e_114_4 : pg_code 114 4 = some (.iload_n 1, 1, 0, 0) := by decide +kernel
theorem u_114_4 {a : Int32} {z0 : Option Value} {lv : am_L} {st : List Value} : am_W G (am_M G d) 114 K 4 (z0 :: some (.int a) :: lv) st h nc ns = (am_W G (am_M G d) 114 K 5 (z0 :: some (.int a) :: lv) (.int a :: st) h nc ns) := am_u e_114_4
theorem e_114_5 : pg_code 114 5 = some (.aload_n 0, 1, 0, 0) := by decide +kernel
theorem u_114_5 {a : Nat} {lv : am_L} {st : List Value} : am_W G (am_M G d) 114 K 5 (some (.ref a) :: lv) st h nc ns = (am_W G (am_M G d) 114 K 6 (some (.ref a) :: lv) (.ref a :: st) h nc ns) := am_u e_114_5
theorem e_114_6 : pg_code 114 6 = some (.getfield 119, 3, 7, 2) := by decide +kernel
theorem u_114_6 {a : Nat} {lv : am_L} {st : List Value} : am_W G (am_M G d) 114 K 6 lv (.ref a :: st) h nc ns = (f_gf G d 114 K 9 lv st h nc ns (h a) 7 2) := am_u e_114_6
theorem e_114_9 : pg_code 114 9 = some (.iastore, 1, 0, 0) := by decide +kernel
theorem u_114_9 {a : Nat} {j b : Int32} {lv : am_L} {st : List Value} : am_W G (am_M G d) 114 K 9 lv (.int b :: .int j :: .ref a :: st) h nc ns = (f_is G d 114 K 10 lv st h nc ns (h a) .int a j b) := am_u e_114_9
theorem e_114_10 : pg_code 114 10 = some (.iconst 0, 1, 0, 0) := by decide +kernel
theorem u_114_10 {lv : am_L} {st : List Value} : am_W G (am_M G d) 114 K 10 lv st h nc ns = (am_W G (am_M G d) 114 K 11 lv (.int 0 :: st) h nc ns) := am_u e_114_10
theorem e_114_11 : pg_code 114 11 = some (.istore_n 2, 1, 0, 0) := by decide +kernel
theorem u_114_11 {a : Int32} {lv : am_L} {st : List Value} : am_W G (am_M G d) 114 K 11 lv (.int a :: st) h nc ns = (am_W G (am_M G d) 114 K 12 (am_st1 lv 2 (.int a)) st h nc ns) := (am_u e_114_11).trans (f_t (by decide +kernel))
theorem e_114_12 : pg_code 114 12 = some (.iload_n 2, 1, 0, 0) := by decide +kernel
theorem u_114_12 {a : Int32} {z0 : Option Value} {z1 : Option Value} {lv : am_L} {st : List Value} : am_W G (am_M G d) 114 K 12 (z0 :: z1 :: some (.int a) :: lv) st h nc ns = (am_W G (am_M G d) 114 K 13 (z0 :: z1 :: some (.int a) :: lv) (.int a :: st) h nc ns) := am_u e_114_12
theorem e_114_13 : pg_code 114 13 = some (.aload_n 0, 1, 0, 0) := by decide +kernel
theorem u_114_13 {a : Nat} {lv : am_L} {st : List Value} : am_W G (am_M G d) 114 K 13 (some (.ref a) :: lv) st h nc ns = (am_W G (am_M G d) 114 K 14 (some (.ref a) :: lv) (.ref a :: st) h nc ns) := am_u e_114_13
theorem e_114_14 : pg_code 114 14 = some (.getfield 119, 3, 7, 2) := by decide +kernel
theorem u_114_14 {a : Nat} {lv : am_L} {st : List Value} : am_W G (am_M G d) 114 K 14 lv (.ref a :: st) h nc ns = (f_gf G d 114 K 17 lv st h nc ns (h a) 7 2) := am_u e_114_14
theorem e_114_17 : pg_code 114 17 = some (.if_icmp .ge 98, 3, 115, 0) := by decide +kernel
theorem u_114_17 {a b : Int32} {lv : am_L} {st : List Value} : am_W G (am_M G d) 114 K 17 lv (.int b :: .int a :: st) h nc ns = (am_br (b ≤ a) (am_W G (am_M G d) 114 K 115 lv st h nc ns) (am_W G (am_M G d) 114 K 20 lv st h nc ns)) := am_u e_114_17
theorem e_114_20 : pg_code 114 20 = some (.sipush 150, 3, 0, 0) := by decide +kernel
theorem u_114_20 {lv : am_L} {st : List Value} : am_W G (am_M G d) 114 K 20 lv st h nc ns = (am_W G (am_M G d) 114 K 23 lv (.int 150 :: st) h nc ns) := am_u e_114_20
theorem e_114_23 : pg_code 114 23 = some (.iload_n 1, 1, 0, 0) := by decide +kernel
theorem u_114_23 {a : Int32} {z0 : Option Value} {lv : am_L} {st : List Value} : am_W G (am_M G d) 114 K 23 (z0 :: some (.int a) :: lv) st h nc ns = (am_W G (am_M G d) 114 K 24 (z0 :: some (.int a) :: lv) (.int a :: st) h nc ns) := am_u e_114_23
theorem e_114_24 : pg_code 114 24 = some (.imul, 1, 0, 0) := by decide +kernel
theorem u_114_24 {a b : Int32} {lv : am_L} {st : List Value} : am_W G (am_M G d) 114 K 24 lv (.int b :: .int a :: st) h nc ns = (am_W G (am_M G d) 114 K 25 lv (.int (a * b) :: st) h nc ns) := am_u e_114_24
theorem e_114_25 : pg_code 114 25 = some (.iload_n 2, 1, 0, 0) := by decide +kernel
theorem u_114_25 {a : Int32} {z0 : Option Value} {z1 : Option Value} {lv : am_L} {st : List Value} : am_W G (am_M G d) 114 K 25 (z0 :: z1 :: some (.int a) :: lv) st h nc ns = (am_W G (am_M G d) 114 K 26 (z0 :: z1 :: some (.int a) :: lv) (.int a :: st) h nc ns) := am_u e_114_25
theorem e_114_26 : pg_code 114 26 = some (.iadd, 1, 0, 0) := by decide +kernel
theorem u_114_26 {a b : Int32} {lv : am_L} {st : List Value} : am_W G (am_M G d) 114 K 26 lv (.int b :: .int a :: st) h nc ns = (am_W G (am_M G d) 114 K 27 lv (.int (a + b) :: st) h nc ns) := am_u e_114_26
theorem e_114_27 : pg_code 114 27 = some (.istore_n 3, 1, 0, 0) := by decide +kernel
theorem u_114_27 {a : Int32} {lv : am_L} {st : List Value} : am_W G (am_M G d) 114 K 27 lv (.int a :: st) h nc ns = (am_W G (am_M G d) 114 K 28 (am_st1 lv 3 (.int a)) st h nc ns) := (am_u e_114_27).trans (f_t (by decide +kernel))
theorem e_114_28 : pg_code 114 28 = some (.aload_n 0, 1, 0, 0) := by decide +kernel
theorem u_114_28 {a : Nat} {lv : am_L} {st : List Value} : am_W G (am_M G d) 114 K 28 (some (.ref a) :: lv) st h nc ns = (am_W G (am_M G d) 114 K 29 (some (.ref a) :: lv) (.ref a :: st) h nc ns) := am_u e_114_28
theorem e_114_29 : pg_code 114 29 = some (.getfield 57, 3, 7, 20) := by decide +kernel
theorem u_114_29 {a : Nat} {lv : am_L} {st : List Value} : am_W G (am_M G d) 114 K 29 lv (.ref a :: st) h nc ns = (f_gf G d 114 K 32 lv st h nc ns (h a) 7 20) := am_u e_114_29
theorem e_114_32 : pg_code 114 32 = some (.iload_n 3, 1, 0, 0) := by decide +kernel
theorem u_114_32 {a : Int32} {z0 : Option Value} {z1 : Option Value} {z2 : Option Value} {lv : am_L} {st : List Value} : am_W G (am_M G d) 114 K 32 (z0 :: z1 :: z2 :: some (.int a) :: lv) st h nc ns = (am_W G (am_M G d) 114 K 33 (z0 :: z1 :: z2 :: some (.int a) :: lv) (.int a :: st) h nc ns) := am_u e_114_32
theorem e_114_33 : pg_code 114 33 = some (.aload_n 0, 1, 0, 0) := by decide +kernel
theorem u_114_33 {a : Nat} {lv : am_L} {st : List Value} : am_W G (am_M G d) 114 K 33 (some (.ref a) :: lv) st h nc ns = (am_W G (am_M G d) 114 K 34 (some (.ref a) :: lv) (.ref a :: st) h nc ns) := am_u e_114_33
theorem e_114_34 : pg_code 114 34 = some (.getfield 7, 3, 7, 4) := by decide +kernel
theorem u_114_34 {a : Nat} {lv : am_L} {st : List Value} : am_W G (am_M G d) 114 K 34 lv (.ref a :: st) h nc ns = (f_gf G d 114 K 37 lv st h nc ns (h a) 7 4) := am_u e_114_34
theorem e_114_37 : pg_code 114 37 = some (.iload_n 2, 1, 0, 0) := by decide +kernel
theorem u_114_37 {a : Int32} {z0 : Option Value} {z1 : Option Value} {lv : am_L} {st : List Value} : am_W G (am_M G d) 114 K 37 (z0 :: z1 :: some (.int a) :: lv) st h nc ns = (am_W G (am_M G d) 114 K 38 (z0 :: z1 :: some (.int a) :: lv) (.int a :: st) h nc ns) := am_u e_114_37
theorem e_114_38 : pg_code 114 38 = some (.invokestatic 116, 3, 91, 1) := by decide +kernel
theorem u_114_38 {v0 : Value} {lv : am_L} {st : List Value} : am_W G (am_M G d) 114 K 38 lv (v0 :: st) h nc ns = ((am_words st ≤ 8 ∧ nc + 0 ≤ 0 ∧ ns + 0 ≤ 0) ∧ am_M G d 91 [v0] h (am_back 114 K (am_W G (am_M G d) 114 K) 91 38 lv st nc ns)) := (am_u e_114_38).trans (f_st_eq (G := G) (d := d) (k := 114) (K := K) (pc := 38) (lv := lv) (st := st) (h := h) (nc := nc) (ns := ns) (x := 91) (X := am_W G (am_M G d) 114 K) [v0] (by decide) rfl)
theorem e_114_41 : pg_code 114 41 = some (.iaload, 1, 0, 0) := by decide +kernel
theorem u_114_41 {a : Nat} {j : Int32} {lv : am_L} {st : List Value} : am_W G (am_M G d) 114 K 41 lv (.int j :: .ref a :: st) h nc ns = (f_ia G d 114 K 42 lv st h nc ns (h a) .int j) := am_u e_114_41
theorem e_114_42 : pg_code 114 42 = some (.iastore, 1, 0, 0) := by decide +kernel
theorem u_114_42 {a : Nat} {j b : Int32} {lv : am_L} {st : List Value} : am_W G (am_M G d) 114 K 42 lv (.int b :: .int j :: .ref a :: st) h nc ns = (f_is G d 114 K 43 lv st h nc ns (h a) .int a j b) := am_u e_114_42
theorem e_114_43 : pg_code 114 43 = some (.aload_n 0, 1, 0, 0) := by decide +kernel
theorem u_114_43 {a : Nat} {lv : am_L} {st : List Value} : am_W G (am_M G d) 114 K 43 (some (.ref a) :: lv) st h nc ns = (am_W G (am_M G d) 114 K 44 (some (.ref a) :: lv) (.ref a :: st) h nc ns) := am_u e_114_43
theorem e_114_44 : pg_code 114 44 = some (.getfield 60, 3, 7, 21) := by decide +kernel
theorem u_114_44 {a : Nat} {lv : am_L} {st : List Value} : am_W G (am_M G d) 114 K 44 lv (.ref a :: st) h nc ns = (f_gf G d 114 K 47 lv st h nc ns (h a) 7 21) := am_u e_114_44
theorem e_114_47 : pg_code 114 47 = some (.iload_n 3, 1, 0, 0) := by decide +kernel
theorem u_114_47 {a : Int32} {z0 : Option Value} {z1 : Option Value} {z2 : Option Value} {lv : am_L} {st : List Value} : am_W G (am_M G d) 114 K 47 (z0 :: z1 :: z2 :: some (.int a) :: lv) st h nc ns = (am_W G (am_M G d) 114 K 48 (z0 :: z1 :: z2 :: some (.int a) :: lv) (.int a :: st) h nc ns) := am_u e_114_47
theorem e_114_48 : pg_code 114 48 = some (.aload_n 0, 1, 0, 0) := by decide +kernel
theorem u_114_48 {a : Nat} {lv : am_L} {st : List Value} : am_W G (am_M G d) 114 K 48 (some (.ref a) :: lv) st h nc ns = (am_W G (am_M G d) 114 K 49 (some (.ref a) :: lv) (.ref a :: st) h nc ns) := am_u e_114_48
theorem e_114_49 : pg_code 114 49 = some (.getfield 13, 3, 7, 5) := by decide +kernel
theorem u_114_49 {a : Nat} {lv : am_L} {st : List Value} : am_W G (am_M G d) 114 K 49 lv (.ref a :: st) h nc ns = (f_gf G d 114 K 52 lv st h nc ns (h a) 7 5) := am_u e_114_49
theorem e_114_52 : pg_code 114 52 = some (.iload_n 2, 1, 0, 0) := by decide +kernel
theorem u_114_52 {a : Int32} {z0 : Option Value} {z1 : Option Value} {lv : am_L} {st : List Value} : am_W G (am_M G d) 114 K 52 (z0 :: z1 :: some (.int a) :: lv) st h nc ns = (am_W G (am_M G d) 114 K 53 (z0 :: z1 :: some (.int a) :: lv) (.int a :: st) h nc ns) := am_u e_114_52
theorem e_114_53 : pg_code 114 53 = some (.invokestatic 116, 3, 91, 1) := by decide +kernel
theorem u_114_53 {v0 : Value} {lv : am_L} {st : List Value} : am_W G (am_M G d) 114 K 53 lv (v0 :: st) h nc ns = ((am_words st ≤ 8 ∧ nc + 0 ≤ 0 ∧ ns + 0 ≤ 0) ∧ am_M G d 91 [v0] h (am_back 114 K (am_W G (am_M G d) 114 K) 91 53 lv st nc ns)) := (am_u e_114_53).trans (f_st_eq (G := G) (d := d) (k := 114) (K := K) (pc := 53) (lv := lv) (st := st) (h := h) (nc := nc) (ns := ns) (x := 91) (X := am_W G (am_M G d) 114 K) [v0] (by decide) rfl)
theorem e_114_56 : pg_code 114 56 = some (.iaload, 1, 0, 0) := by decide +kernel
theorem u_114_56 {a : Nat} {j : Int32} {lv : am_L} {st : List Value} : am_W G (am_M G d) 114 K 56 lv (.int j :: .ref a :: st) h nc ns = (f_ia G d 114 K 57 lv st h nc ns (h a) .int j) := am_u e_114_56
theorem e_114_57 : pg_code 114 57 = some (.iastore, 1, 0, 0) := by decide +kernel
theorem u_114_57 {a : Nat} {j b : Int32} {lv : am_L} {st : List Value} : am_W G (am_M G d) 114 K 57 lv (.int b :: .int j :: .ref a :: st) h nc ns = (f_is G d 114 K 58 lv st h nc ns (h a) .int a j b) := am_u e_114_57
theorem e_114_58 : pg_code 114 58 = some (.aload_n 0, 1, 0, 0) := by decide +kernel
theorem u_114_58 {a : Nat} {lv : am_L} {st : List Value} : am_W G (am_M G d) 114 K 58 (some (.ref a) :: lv) st h nc ns = (am_W G (am_M G d) 114 K 59 (some (.ref a) :: lv) (.ref a :: st) h nc ns) := am_u e_114_58
theorem e_114_59 : pg_code 114 59 = some (.getfield 63, 3, 7, 22) := by decide +kernel
theorem u_114_59 {a : Nat} {lv : am_L} {st : List Value} : am_W G (am_M G d) 114 K 59 lv (.ref a :: st) h nc ns = (f_gf G d 114 K 62 lv st h nc ns (h a) 7 22) := am_u e_114_59
theorem e_114_62 : pg_code 114 62 = some (.iload_n 3, 1, 0, 0) := by decide +kernel
theorem u_114_62 {a : Int32} {z0 : Option Value} {z1 : Option Value} {z2 : Option Value} {lv : am_L} {st : List Value} : am_W G (am_M G d) 114 K 62 (z0 :: z1 :: z2 :: some (.int a) :: lv) st h nc ns = (am_W G (am_M G d) 114 K 63 (z0 :: z1 :: z2 :: some (.int a) :: lv) (.int a :: st) h nc ns) := am_u e_114_62
theorem e_114_63 : pg_code 114 63 = some (.aload_n 0, 1, 0, 0) := by decide +kernel
theorem u_114_63 {a : Nat} {lv : am_L} {st : List Value} : am_W G (am_M G d) 114 K 63 (some (.ref a) :: lv) st h nc ns = (am_W G (am_M G d) 114 K 64 (some (.ref a) :: lv) (.ref a :: st) h nc ns) := am_u e_114_63
theorem e_114_64 : pg_code 114 64 = some (.getfield 16, 3, 7, 6) := by decide +kernel
theorem u_114_64 {a : Nat} {lv : am_L} {st : List Value} : am_W G (am_M G d) 114 K 64 lv (.ref a :: st) h nc ns = (f_gf G d 114 K 67 lv st h nc ns (h a) 7 6) := am_u e_114_64
theorem e_114_67 : pg_code 114 67 = some (.iload_n 2, 1, 0, 0) := by decide +kernel
theorem u_114_67 {a : Int32} {z0 : Option Value} {z1 : Option Value} {lv : am_L} {st : List Value} : am_W G (am_M G d) 114 K 67 (z0 :: z1 :: some (.int a) :: lv) st h nc ns = (am_W G (am_M G d) 114 K 68 (z0 :: z1 :: some (.int a) :: lv) (.int a :: st) h nc ns) := am_u e_114_67
theorem e_114_68 : pg_code 114 68 = some (.invokestatic 116, 3, 91, 1) := by decide +kernel
theorem u_114_68 {v0 : Value} {lv : am_L} {st : List Value} : am_W G (am_M G d) 114 K 68 lv (v0 :: st) h nc ns = ((am_words st ≤ 8 ∧ nc + 0 ≤ 0 ∧ ns + 0 ≤ 0) ∧ am_M G d 91 [v0] h (am_back 114 K (am_W G (am_M G d) 114 K) 91 68 lv st nc ns)) := (am_u e_114_68).trans (f_st_eq (G := G) (d := d) (k := 114) (K := K) (pc := 68) (lv := lv) (st := st) (h := h) (nc := nc) (ns := ns) (x := 91) (X := am_W G (am_M G d) 114 K) [v0] (by decide) rfl)
theorem e_114_71 : pg_code 114 71 = some (.iaload, 1, 0, 0) := by decide +kernel
theorem u_114_71 {a : Nat} {j : Int32} {lv : am_L} {st : List Value} : am_W G (am_M G d) 114 K 71 lv (.int j :: .ref a :: st) h nc ns = (f_ia G d 114 K 72 lv st h nc ns (h a) .int j) := am_u e_114_71
theorem e_114_72 : pg_code 114 72 = some (.iastore, 1, 0, 0) := by decide +kernel
theorem u_114_72 {a : Nat} {j b : Int32} {lv : am_L} {st : List Value} : am_W G (am_M G d) 114 K 72 lv (.int b :: .int j :: .ref a :: st) h nc ns = (f_is G d 114 K 73 lv st h nc ns (h a) .int a j b) := am_u e_114_72
theorem e_114_73 : pg_code 114 73 = some (.aload_n 0, 1, 0, 0) := by decide +kernel
theorem u_114_73 {a : Nat} {lv : am_L} {st : List Value} : am_W G (am_M G d) 114 K 73 (some (.ref a) :: lv) st h nc ns = (am_W G (am_M G d) 114 K 74 (some (.ref a) :: lv) (.ref a :: st) h nc ns) := am_u e_114_73
theorem e_114_74 : pg_code 114 74 = some (.getfield 66, 3, 7, 23) := by decide +kernel
theorem u_114_74 {a : Nat} {lv : am_L} {st : List Value} : am_W G (am_M G d) 114 K 74 lv (.ref a :: st) h nc ns = (f_gf G d 114 K 77 lv st h nc ns (h a) 7 23) := am_u e_114_74
theorem e_114_77 : pg_code 114 77 = some (.iload_n 3, 1, 0, 0) := by decide +kernel
theorem u_114_77 {a : Int32} {z0 : Option Value} {z1 : Option Value} {z2 : Option Value} {lv : am_L} {st : List Value} : am_W G (am_M G d) 114 K 77 (z0 :: z1 :: z2 :: some (.int a) :: lv) st h nc ns = (am_W G (am_M G d) 114 K 78 (z0 :: z1 :: z2 :: some (.int a) :: lv) (.int a :: st) h nc ns) := am_u e_114_77
theorem e_114_78 : pg_code 114 78 = some (.aload_n 0, 1, 0, 0) := by decide +kernel
theorem u_114_78 {a : Nat} {lv : am_L} {st : List Value} : am_W G (am_M G d) 114 K 78 (some (.ref a) :: lv) st h nc ns = (am_W G (am_M G d) 114 K 79 (some (.ref a) :: lv) (.ref a :: st) h nc ns) := am_u e_114_78
theorem e_114_79 : pg_code 114 79 = some (.getfield 57, 3, 7, 20) := by decide +kernel
theorem u_114_79 {a : Nat} {lv : am_L} {st : List Value} : am_W G (am_M G d) 114 K 79 lv (.ref a :: st) h nc ns = (f_gf G d 114 K 82 lv st h nc ns (h a) 7 20) := am_u e_114_79
theorem e_114_82 : pg_code 114 82 = some (.iload_n 3, 1, 0, 0) := by decide +kernel
theorem u_114_82 {a : Int32} {z0 : Option Value} {z1 : Option Value} {z2 : Option Value} {lv : am_L} {st : List Value} : am_W G (am_M G d) 114 K 82 (z0 :: z1 :: z2 :: some (.int a) :: lv) st h nc ns = (am_W G (am_M G d) 114 K 83 (z0 :: z1 :: z2 :: some (.int a) :: lv) (.int a :: st) h nc ns) := am_u e_114_82
theorem e_114_83 : pg_code 114 83 = some (.iaload, 1, 0, 0) := by decide +kernel
theorem u_114_83 {a : Nat} {j : Int32} {lv : am_L} {st : List Value} : am_W G (am_M G d) 114 K 83 lv (.int j :: .ref a :: st) h nc ns = (f_ia G d 114 K 84 lv st h nc ns (h a) .int j) := am_u e_114_83
theorem e_114_84 : pg_code 114 84 = some (.iastore, 1, 0, 0) := by decide +kernel
theorem u_114_84 {a : Nat} {j b : Int32} {lv : am_L} {st : List Value} : am_W G (am_M G d) 114 K 84 lv (.int b :: .int j :: .ref a :: st) h nc ns = (f_is G d 114 K 85 lv st h nc ns (h a) .int a j b) := am_u e_114_84
theorem e_114_85 : pg_code 114 85 = some (.aload_n 0, 1, 0, 0) := by decide +kernel
theorem u_114_85 {a : Nat} {lv : am_L} {st : List Value} : am_W G (am_M G d) 114 K 85 (some (.ref a) :: lv) st h nc ns = (am_W G (am_M G d) 114 K 86 (some (.ref a) :: lv) (.ref a :: st) h nc ns) := am_u e_114_85
theorem e_114_86 : pg_code 114 86 = some (.getfield 69, 3, 7, 24) := by decide +kernel
theorem u_114_86 {a : Nat} {lv : am_L} {st : List Value} : am_W G (am_M G d) 114 K 86 lv (.ref a :: st) h nc ns = (f_gf G d 114 K 89 lv st h nc ns (h a) 7 24) := am_u e_114_86
theorem e_114_89 : pg_code 114 89 = some (.iload_n 3, 1, 0, 0) := by decide +kernel
theorem u_114_89 {a : Int32} {z0 : Option Value} {z1 : Option Value} {z2 : Option Value} {lv : am_L} {st : List Value} : am_W G (am_M G d) 114 K 89 (z0 :: z1 :: z2 :: some (.int a) :: lv) st h nc ns = (am_W G (am_M G d) 114 K 90 (z0 :: z1 :: z2 :: some (.int a) :: lv) (.int a :: st) h nc ns) := am_u e_114_89
theorem e_114_90 : pg_code 114 90 = some (.aload_n 0, 1, 0, 0) := by decide +kernel
theorem u_114_90 {a : Nat} {lv : am_L} {st : List Value} : am_W G (am_M G d) 114 K 90 (some (.ref a) :: lv) st h nc ns = (am_W G (am_M G d) 114 K 91 (some (.ref a) :: lv) (.ref a :: st) h nc ns) := am_u e_114_90
theorem e_114_91 : pg_code 114 91 = some (.getfield 60, 3, 7, 21) := by decide +kernel
theorem u_114_91 {a : Nat} {lv : am_L} {st : List Value} : am_W G (am_M G d) 114 K 91 lv (.ref a :: st) h nc ns = (f_gf G d 114 K 94 lv st h nc ns (h a) 7 21) := am_u e_114_91
theorem e_114_94 : pg_code 114 94 = some (.iload_n 3, 1, 0, 0) := by decide +kernel
theorem u_114_94 {a : Int32} {z0 : Option Value} {z1 : Option Value} {z2 : Option Value} {lv : am_L} {st : List Value} : am_W G (am_M G d) 114 K 94 (z0 :: z1 :: z2 :: some (.int a) :: lv) st h nc ns = (am_W G (am_M G d) 114 K 95 (z0 :: z1 :: z2 :: some (.int a) :: lv) (.int a :: st) h nc ns) := am_u e_114_94
theorem e_114_95 : pg_code 114 95 = some (.iaload, 1, 0, 0) := by decide +kernel
theorem u_114_95 {a : Nat} {j : Int32} {lv : am_L} {st : List Value} : am_W G (am_M G d) 114 K 95 lv (.int j :: .ref a :: st) h nc ns = (f_ia G d 114 K 96 lv st h nc ns (h a) .int j) := am_u e_114_95
theorem e_114_96 : pg_code 114 96 = some (.iastore, 1, 0, 0) := by decide +kernel
theorem u_114_96 {a : Nat} {j b : Int32} {lv : am_L} {st : List Value} : am_W G (am_M G d) 114 K 96 lv (.int b :: .int j :: .ref a :: st) h nc ns = (f_is G d 114 K 97 lv st h nc ns (h a) .int a j b) := am_u e_114_96
theorem e_114_97 : pg_code 114 97 = some (.aload_n 0, 1, 0, 0) := by decide +kernel
theorem u_114_97 {a : Nat} {lv : am_L} {st : List Value} : am_W G (am_M G d) 114 K 97 (some (.ref a) :: lv) st h nc ns = (am_W G (am_M G d) 114 K 98 (some (.ref a) :: lv) (.ref a :: st) h nc ns) := am_u e_114_97
theorem e_114_98 : pg_code 114 98 = some (.getfield 72, 3, 7, 25) := by decide +kernel
theorem u_114_98 {a : Nat} {lv : am_L} {st : List Value} : am_W G (am_M G d) 114 K 98 lv (.ref a :: st) h nc ns = (f_gf G d 114 K 101 lv st h nc ns (h a) 7 25) := am_u e_114_98
theorem e_114_101 : pg_code 114 101 = some (.iload_n 3, 1, 0, 0) := by decide +kernel
theorem u_114_101 {a : Int32} {z0 : Option Value} {z1 : Option Value} {z2 : Option Value} {lv : am_L} {st : List Value} : am_W G (am_M G d) 114 K 101 (z0 :: z1 :: z2 :: some (.int a) :: lv) st h nc ns = (am_W G (am_M G d) 114 K 102 (z0 :: z1 :: z2 :: some (.int a) :: lv) (.int a :: st) h nc ns) := am_u e_114_101
theorem e_114_102 : pg_code 114 102 = some (.aload_n 0, 1, 0, 0) := by decide +kernel
theorem u_114_102 {a : Nat} {lv : am_L} {st : List Value} : am_W G (am_M G d) 114 K 102 (some (.ref a) :: lv) st h nc ns = (am_W G (am_M G d) 114 K 103 (some (.ref a) :: lv) (.ref a :: st) h nc ns) := am_u e_114_102
theorem e_114_103 : pg_code 114 103 = some (.getfield 63, 3, 7, 22) := by decide +kernel
theorem u_114_103 {a : Nat} {lv : am_L} {st : List Value} : am_W G (am_M G d) 114 K 103 lv (.ref a :: st) h nc ns = (f_gf G d 114 K 106 lv st h nc ns (h a) 7 22) := am_u e_114_103
theorem e_114_106 : pg_code 114 106 = some (.iload_n 3, 1, 0, 0) := by decide +kernel
theorem u_114_106 {a : Int32} {z0 : Option Value} {z1 : Option Value} {z2 : Option Value} {lv : am_L} {st : List Value} : am_W G (am_M G d) 114 K 106 (z0 :: z1 :: z2 :: some (.int a) :: lv) st h nc ns = (am_W G (am_M G d) 114 K 107 (z0 :: z1 :: z2 :: some (.int a) :: lv) (.int a :: st) h nc ns) := am_u e_114_106
theorem e_114_107 : pg_code 114 107 = some (.iaload, 1, 0, 0) := by decide +kernel
theorem u_114_107 {a : Nat} {j : Int32} {lv : am_L} {st : List Value} : am_W G (am_M G d) 114 K 107 lv (.int j :: .ref a :: st) h nc ns = (f_ia G d 114 K 108 lv st h nc ns (h a) .int j) := am_u e_114_107
theorem e_114_108 : pg_code 114 108 = some (.iastore, 1, 0, 0) := by decide +kernel
theorem u_114_108 {a : Nat} {j b : Int32} {lv : am_L} {st : List Value} : am_W G (am_M G d) 114 K 108 lv (.int b :: .int j :: .ref a :: st) h nc ns = (f_is G d 114 K 109 lv st h nc ns (h a) .int a j b) := am_u e_114_108
theorem e_114_109 : pg_code 114 109 = some (.iinc 2 1, 3, 0, 0) := by decide +kernel
theorem u_114_109 {a : Int32} {z0 : Option Value} {z1 : Option Value} {lv : am_L} {st : List Value} : am_W G (am_M G d) 114 K 109 (z0 :: z1 :: some (.int a) :: lv) st h nc ns = (am_W G (am_M G d) 114 K 112 (am_st1 (z0 :: z1 :: some (.int a) :: lv) 2 (.int (a + Int32.ofInt 1))) st h nc ns) := (am_u e_114_109).trans (f_t (by decide +kernel))
theorem e_114_112 : pg_code 114 112 = some (.goto (-100), 3, 12, 0) := by decide +kernel
theorem u_114_112 {lv : am_L} {st : List Value} : am_W G (am_M G d) 114 K 112 lv st h nc ns = (am_W G (am_M G d) 114 K 12 lv st h nc ns) := am_u e_114_112
theorem e_114_115 : pg_code 114 115 = some (.return_, 1, 0, 0) := by decide +kernel
theorem u_114_115 {lv : am_L} : am_W G (am_M G d) 114 K 115 lv [] h nc ns = (K (.inl none) h) := (am_u e_114_115).trans (f_t ⟨rfl, rfl⟩)
theorem e_115_0 : pg_code 115 0 = some (.aload_n 0, 1, 0, 0) := by decide +kernel
theorem u_115_0 {a : Nat} {lv : am_L} {st : List Value} : am_W G (am_M G d) 115 K 0 (some (.ref a) :: lv) st h nc ns = (am_W G (am_M G d) 115 K 1 (some (.ref a) :: lv) (.ref a :: st) h nc ns) := am_u e_115_0
theorem e_115_1 : pg_code 115 1 = some (.iconst 0, 1, 0, 0) := by decide +kernel
theorem u_115_1 {lv : am_L} {st : List Value} : am_W G (am_M G d) 115 K 1 lv st h nc ns = (am_W G (am_M G d) 115 K 2 lv (.int 0 :: st) h nc ns) := am_u e_115_1
theorem e_115_2 : pg_code 115 2 = some (.putfield 90, 3, 7, 0) := by decide +kernel
theorem u_115_2 {a : Nat} {b : Int32} {lv : am_L} {st : List Value} : am_W G (am_M G d) 115 K 2 lv (.int b :: .ref a :: st) h nc ns = (f_pf G d 115 K 5 lv st h nc ns (h a) 7 0 a (.int b)) := (am_u e_115_2).trans (f_pf_eq ⟨rfl, rfl⟩)
theorem e_115_5 : pg_code 115 5 = some (.iload_n 1, 1, 0, 0) := by decide +kernel
theorem u_115_5 {a : Int32} {z0 : Option Value} {lv : am_L} {st : List Value} : am_W G (am_M G d) 115 K 5 (z0 :: some (.int a) :: lv) st h nc ns = (am_W G (am_M G d) 115 K 6 (z0 :: some (.int a) :: lv) (.int a :: st) h nc ns) := am_u e_115_5
theorem e_115_6 : pg_code 115 6 = some (.iconst 0, 1, 0, 0) := by decide +kernel
theorem u_115_6 {lv : am_L} {st : List Value} : am_W G (am_M G d) 115 K 6 lv st h nc ns = (am_W G (am_M G d) 115 K 7 lv (.int 0 :: st) h nc ns) := am_u e_115_6
theorem e_115_7 : pg_code 115 7 = some (.aload_n 0, 1, 0, 0) := by decide +kernel
theorem u_115_7 {a : Nat} {lv : am_L} {st : List Value} : am_W G (am_M G d) 115 K 7 (some (.ref a) :: lv) st h nc ns = (am_W G (am_M G d) 115 K 8 (some (.ref a) :: lv) (.ref a :: st) h nc ns) := am_u e_115_7
theorem e_115_8 : pg_code 115 8 = some (.getfield 175, 3, 7, 3) := by decide +kernel
theorem u_115_8 {a : Nat} {lv : am_L} {st : List Value} : am_W G (am_M G d) 115 K 8 lv (.ref a :: st) h nc ns = (f_gf G d 115 K 11 lv st h nc ns (h a) 7 3) := am_u e_115_8
theorem e_115_11 : pg_code 115 11 = some (.iconst 1, 1, 0, 0) := by decide +kernel
theorem u_115_11 {lv : am_L} {st : List Value} : am_W G (am_M G d) 115 K 11 lv st h nc ns = (am_W G (am_M G d) 115 K 12 lv (.int 1 :: st) h nc ns) := am_u e_115_11
theorem e_115_12 : pg_code 115 12 = some (.isub, 1, 0, 0) := by decide +kernel
theorem u_115_12 {a b : Int32} {lv : am_L} {st : List Value} : am_W G (am_M G d) 115 K 12 lv (.int b :: .int a :: st) h nc ns = (am_W G (am_M G d) 115 K 13 lv (.int (a - b) :: st) h nc ns) := am_u e_115_12
theorem e_115_13 : pg_code 115 13 = some (.invokestatic 108, 3, 88, 3) := by decide +kernel
theorem u_115_13 {v0 v1 v2 : Value} {lv : am_L} {st : List Value} : am_W G (am_M G d) 115 K 13 lv (v2 :: v1 :: v0 :: st) h nc ns = ((am_words st ≤ 8 ∧ nc + 0 ≤ 0 ∧ ns + 0 ≤ 0) ∧ am_M G d 88 [v0, v1, v2] h (am_back 115 K (am_W G (am_M G d) 115 K) 88 13 lv st nc ns)) := (am_u e_115_13).trans (f_st_eq (G := G) (d := d) (k := 115) (K := K) (pc := 13) (lv := lv) (st := st) (h := h) (nc := nc) (ns := ns) (x := 88) (X := am_W G (am_M G d) 115 K) [v0, v1, v2] (by decide) rfl)
theorem e_115_16 : pg_code 115 16 = some (.ifCond .eq 19, 3, 35, 0) := by decide +kernel
theorem u_115_16 {a : Int32} {lv : am_L} {st : List Value} : am_W G (am_M G d) 115 K 16 lv (.int a :: st) h nc ns = (am_br (a = 0) (am_W G (am_M G d) 115 K 35 lv st h nc ns) (am_W G (am_M G d) 115 K 19 lv st h nc ns)) := am_u e_115_16
theorem e_115_19 : pg_code 115 19 = some (.iload_n 2, 1, 0, 0) := by decide +kernel
theorem u_115_19 {a : Int32} {z0 : Option Value} {z1 : Option Value} {lv : am_L} {st : List Value} : am_W G (am_M G d) 115 K 19 (z0 :: z1 :: some (.int a) :: lv) st h nc ns = (am_W G (am_M G d) 115 K 20 (z0 :: z1 :: some (.int a) :: lv) (.int a :: st) h nc ns) := am_u e_115_19
theorem e_115_20 : pg_code 115 20 = some (.iconst 0, 1, 0, 0) := by decide +kernel
theorem u_115_20 {lv : am_L} {st : List Value} : am_W G (am_M G d) 115 K 20 lv st h nc ns = (am_W G (am_M G d) 115 K 21 lv (.int 0 :: st) h nc ns) := am_u e_115_20
theorem e_115_21 : pg_code 115 21 = some (.aload_n 0, 1, 0, 0) := by decide +kernel
theorem u_115_21 {a : Nat} {lv : am_L} {st : List Value} : am_W G (am_M G d) 115 K 21 (some (.ref a) :: lv) st h nc ns = (am_W G (am_M G d) 115 K 22 (some (.ref a) :: lv) (.ref a :: st) h nc ns) := am_u e_115_21
theorem e_115_22 : pg_code 115 22 = some (.getfield 54, 3, 7, 19) := by decide +kernel
theorem u_115_22 {a : Nat} {lv : am_L} {st : List Value} : am_W G (am_M G d) 115 K 22 lv (.ref a :: st) h nc ns = (f_gf G d 115 K 25 lv st h nc ns (h a) 7 19) := am_u e_115_22
theorem e_115_25 : pg_code 115 25 = some (.iload_n 1, 1, 0, 0) := by decide +kernel
theorem u_115_25 {a : Int32} {z0 : Option Value} {lv : am_L} {st : List Value} : am_W G (am_M G d) 115 K 25 (z0 :: some (.int a) :: lv) st h nc ns = (am_W G (am_M G d) 115 K 26 (z0 :: some (.int a) :: lv) (.int a :: st) h nc ns) := am_u e_115_25
theorem e_115_26 : pg_code 115 26 = some (.iaload, 1, 0, 0) := by decide +kernel
theorem u_115_26 {a : Nat} {j : Int32} {lv : am_L} {st : List Value} : am_W G (am_M G d) 115 K 26 lv (.int j :: .ref a :: st) h nc ns = (f_ia G d 115 K 27 lv st h nc ns (h a) .int j) := am_u e_115_26
theorem e_115_27 : pg_code 115 27 = some (.iconst 1, 1, 0, 0) := by decide +kernel
theorem u_115_27 {lv : am_L} {st : List Value} : am_W G (am_M G d) 115 K 27 lv st h nc ns = (am_W G (am_M G d) 115 K 28 lv (.int 1 :: st) h nc ns) := am_u e_115_27
theorem e_115_28 : pg_code 115 28 = some (.isub, 1, 0, 0) := by decide +kernel
theorem u_115_28 {a b : Int32} {lv : am_L} {st : List Value} : am_W G (am_M G d) 115 K 28 lv (.int b :: .int a :: st) h nc ns = (am_W G (am_M G d) 115 K 29 lv (.int (a - b) :: st) h nc ns) := am_u e_115_28
theorem e_115_29 : pg_code 115 29 = some (.invokestatic 108, 3, 88, 3) := by decide +kernel
theorem u_115_29 {v0 v1 v2 : Value} {lv : am_L} {st : List Value} : am_W G (am_M G d) 115 K 29 lv (v2 :: v1 :: v0 :: st) h nc ns = ((am_words st ≤ 8 ∧ nc + 0 ≤ 0 ∧ ns + 0 ≤ 0) ∧ am_M G d 88 [v0, v1, v2] h (am_back 115 K (am_W G (am_M G d) 115 K) 88 29 lv st nc ns)) := (am_u e_115_29).trans (f_st_eq (G := G) (d := d) (k := 115) (K := K) (pc := 29) (lv := lv) (st := st) (h := h) (nc := nc) (ns := ns) (x := 88) (X := am_W G (am_M G d) 115 K) [v0, v1, v2] (by decide) rfl)
theorem e_115_32 : pg_code 115 32 = some (.ifCond .ne 11, 3, 43, 0) := by decide +kernel
theorem u_115_32 {a : Int32} {lv : am_L} {st : List Value} : am_W G (am_M G d) 115 K 32 lv (.int a :: st) h nc ns = (am_br (¬ a = 0) (am_W G (am_M G d) 115 K 43 lv st h nc ns) (am_W G (am_M G d) 115 K 35 lv st h nc ns)) := am_u e_115_32
theorem e_115_35 : pg_code 115 35 = some (.aload_n 0, 1, 0, 0) := by decide +kernel
theorem u_115_35 {a : Nat} {lv : am_L} {st : List Value} : am_W G (am_M G d) 115 K 35 (some (.ref a) :: lv) st h nc ns = (am_W G (am_M G d) 115 K 36 (some (.ref a) :: lv) (.ref a :: st) h nc ns) := am_u e_115_35
theorem e_115_36 : pg_code 115 36 = some (.iconst 1, 1, 0, 0) := by decide +kernel
theorem u_115_36 {lv : am_L} {st : List Value} : am_W G (am_M G d) 115 K 36 lv st h nc ns = (am_W G (am_M G d) 115 K 37 lv (.int 1 :: st) h nc ns) := am_u e_115_36
theorem e_115_37 : pg_code 115 37 = some (.putfield 90, 3, 7, 0) := by decide +kernel
theorem u_115_37 {a : Nat} {b : Int32} {lv : am_L} {st : List Value} : am_W G (am_M G d) 115 K 37 lv (.int b :: .ref a :: st) h nc ns = (f_pf G d 115 K 40 lv st h nc ns (h a) 7 0 a (.int b)) := (am_u e_115_37).trans (f_pf_eq ⟨rfl, rfl⟩)
theorem e_115_40 : pg_code 115 40 = some (.goto 26, 3, 66, 0) := by decide +kernel
theorem u_115_40 {lv : am_L} {st : List Value} : am_W G (am_M G d) 115 K 40 lv st h nc ns = (am_W G (am_M G d) 115 K 66 lv st h nc ns) := am_u e_115_40
theorem e_115_43 : pg_code 115 43 = some (.aload_n 0, 1, 0, 0) := by decide +kernel
theorem u_115_43 {a : Nat} {lv : am_L} {st : List Value} : am_W G (am_M G d) 115 K 43 (some (.ref a) :: lv) st h nc ns = (am_W G (am_M G d) 115 K 44 (some (.ref a) :: lv) (.ref a :: st) h nc ns) := am_u e_115_43
theorem e_115_44 : pg_code 115 44 = some (.iload_n 3, 1, 0, 0) := by decide +kernel
theorem u_115_44 {a : Int32} {z0 : Option Value} {z1 : Option Value} {z2 : Option Value} {lv : am_L} {st : List Value} : am_W G (am_M G d) 115 K 44 (z0 :: z1 :: z2 :: some (.int a) :: lv) st h nc ns = (am_W G (am_M G d) 115 K 45 (z0 :: z1 :: z2 :: some (.int a) :: lv) (.int a :: st) h nc ns) := am_u e_115_44
theorem e_115_45 : pg_code 115 45 = some (.iload 4, 2, 0, 0) := by decide +kernel
theorem u_115_45 {a : Int32} {z0 : Option Value} {z1 : Option Value} {z2 : Option Value} {z3 : Option Value} {lv : am_L} {st : List Value} : am_W G (am_M G d) 115 K 45 (z0 :: z1 :: z2 :: z3 :: some (.int a) :: lv) st h nc ns = (am_W G (am_M G d) 115 K 47 (z0 :: z1 :: z2 :: z3 :: some (.int a) :: lv) (.int a :: st) h nc ns) := am_u e_115_45
theorem e_115_47 : pg_code 115 47 = some (.iload 5, 2, 0, 0) := by decide +kernel
theorem u_115_47 {a : Int32} {z0 : Option Value} {z1 : Option Value} {z2 : Option Value} {z3 : Option Value} {z4 : Option Value} {lv : am_L} {st : List Value} : am_W G (am_M G d) 115 K 47 (z0 :: z1 :: z2 :: z3 :: z4 :: some (.int a) :: lv) st h nc ns = (am_W G (am_M G d) 115 K 49 (z0 :: z1 :: z2 :: z3 :: z4 :: some (.int a) :: lv) (.int a :: st) h nc ns) := am_u e_115_47
theorem e_115_49 : pg_code 115 49 = some (.aload_n 0, 1, 0, 0) := by decide +kernel
theorem u_115_49 {a : Nat} {lv : am_L} {st : List Value} : am_W G (am_M G d) 115 K 49 (some (.ref a) :: lv) st h nc ns = (am_W G (am_M G d) 115 K 50 (some (.ref a) :: lv) (.ref a :: st) h nc ns) := am_u e_115_49
theorem e_115_50 : pg_code 115 50 = some (.getfield 54, 3, 7, 19) := by decide +kernel
theorem u_115_50 {a : Nat} {lv : am_L} {st : List Value} : am_W G (am_M G d) 115 K 50 lv (.ref a :: st) h nc ns = (f_gf G d 115 K 53 lv st h nc ns (h a) 7 19) := am_u e_115_50
theorem e_115_53 : pg_code 115 53 = some (.iload_n 1, 1, 0, 0) := by decide +kernel
theorem u_115_53 {a : Int32} {z0 : Option Value} {lv : am_L} {st : List Value} : am_W G (am_M G d) 115 K 53 (z0 :: some (.int a) :: lv) st h nc ns = (am_W G (am_M G d) 115 K 54 (z0 :: some (.int a) :: lv) (.int a :: st) h nc ns) := am_u e_115_53
theorem e_115_54 : pg_code 115 54 = some (.iaload, 1, 0, 0) := by decide +kernel
theorem u_115_54 {a : Nat} {j : Int32} {lv : am_L} {st : List Value} : am_W G (am_M G d) 115 K 54 lv (.int j :: .ref a :: st) h nc ns = (f_ia G d 115 K 55 lv st h nc ns (h a) .int j) := am_u e_115_54
theorem e_115_55 : pg_code 115 55 = some (.invokevirtual 122, 3, 87, 5) := by decide +kernel
theorem u_115_55 {a : Nat} {v0 v1 v2 v3 : Value} {lv : am_L} {st : List Value} : am_W G (am_M G d) 115 K 55 lv (v3 :: v2 :: v1 :: v0 :: .ref a :: st) h nc ns = ((am_words st ≤ 8 ∧ nc + 0 ≤ 0 ∧ ns + 0 ≤ 0 ∧ f_rc (h a) 7) ∧ am_M G d 87 [.ref a, v0, v1, v2, v3] h (am_back 115 K (am_W G (am_M G d) 115 K) 87 55 lv st nc ns)) := (am_u e_115_55).trans (f_iv_eq (a := a) (G := G) (d := d) (k := 115) (K := K) (pc := 55) (lv := lv) (st := st) (h := h) (nc := nc) (ns := ns) (x := 87) (X := am_W G (am_M G d) 115 K) [v0, v1, v2, v3] (by decide) rfl)
theorem e_115_58 : pg_code 115 58 = some (.ifCond .ne 8, 3, 66, 0) := by decide +kernel
theorem u_115_58 {a : Int32} {lv : am_L} {st : List Value} : am_W G (am_M G d) 115 K 58 lv (.int a :: st) h nc ns = (am_br (¬ a = 0) (am_W G (am_M G d) 115 K 66 lv st h nc ns) (am_W G (am_M G d) 115 K 61 lv st h nc ns)) := am_u e_115_58
theorem e_115_61 : pg_code 115 61 = some (.aload_n 0, 1, 0, 0) := by decide +kernel
theorem u_115_61 {a : Nat} {lv : am_L} {st : List Value} : am_W G (am_M G d) 115 K 61 (some (.ref a) :: lv) st h nc ns = (am_W G (am_M G d) 115 K 62 (some (.ref a) :: lv) (.ref a :: st) h nc ns) := am_u e_115_61
theorem e_115_62 : pg_code 115 62 = some (.iconst 2, 1, 0, 0) := by decide +kernel
theorem u_115_62 {lv : am_L} {st : List Value} : am_W G (am_M G d) 115 K 62 lv st h nc ns = (am_W G (am_M G d) 115 K 63 lv (.int 2 :: st) h nc ns) := am_u e_115_62
theorem e_115_63 : pg_code 115 63 = some (.putfield 90, 3, 7, 0) := by decide +kernel
theorem u_115_63 {a : Nat} {b : Int32} {lv : am_L} {st : List Value} : am_W G (am_M G d) 115 K 63 lv (.int b :: .ref a :: st) h nc ns = (f_pf G d 115 K 66 lv st h nc ns (h a) 7 0 a (.int b)) := (am_u e_115_63).trans (f_pf_eq ⟨rfl, rfl⟩)
theorem e_115_66 : pg_code 115 66 = some (.aload_n 0, 1, 0, 0) := by decide +kernel
theorem u_115_66 {a : Nat} {lv : am_L} {st : List Value} : am_W G (am_M G d) 115 K 66 (some (.ref a) :: lv) st h nc ns = (am_W G (am_M G d) 115 K 67 (some (.ref a) :: lv) (.ref a :: st) h nc ns) := am_u e_115_66
theorem e_115_67 : pg_code 115 67 = some (.getfield 90, 3, 7, 0) := by decide +kernel
theorem u_115_67 {a : Nat} {lv : am_L} {st : List Value} : am_W G (am_M G d) 115 K 67 lv (.ref a :: st) h nc ns = (f_gf G d 115 K 70 lv st h nc ns (h a) 7 0) := am_u e_115_67
theorem e_115_70 : pg_code 115 70 = some (.ifCond .le 5, 3, 75, 0) := by decide +kernel
theorem u_115_70 {a : Int32} {lv : am_L} {st : List Value} : am_W G (am_M G d) 115 K 70 lv (.int a :: st) h nc ns = (am_br (a ≤ 0) (am_W G (am_M G d) 115 K 75 lv st h nc ns) (am_W G (am_M G d) 115 K 73 lv st h nc ns)) := am_u e_115_70
theorem e_115_73 : pg_code 115 73 = some (.iconst 0, 1, 0, 0) := by decide +kernel
theorem u_115_73 {lv : am_L} {st : List Value} : am_W G (am_M G d) 115 K 73 lv st h nc ns = (am_W G (am_M G d) 115 K 74 lv (.int 0 :: st) h nc ns) := am_u e_115_73
theorem e_115_74 : pg_code 115 74 = some (.ireturn, 1, 0, 0) := by decide +kernel
theorem u_115_74 {a : Int32} {lv : am_L} : am_W G (am_M G d) 115 K 74 lv [.int a] h nc ns = (narrow .boolean (.int a) = .int a ∧ K (.inl (some (.int a))) h) := (am_u e_115_74).trans (f_z_eq rfl)
theorem e_115_75 : pg_code 115 75 = some (.sipush 150, 3, 0, 0) := by decide +kernel
theorem u_115_75 {lv : am_L} {st : List Value} : am_W G (am_M G d) 115 K 75 lv st h nc ns = (am_W G (am_M G d) 115 K 78 lv (.int 150 :: st) h nc ns) := am_u e_115_75
theorem e_115_78 : pg_code 115 78 = some (.iload_n 1, 1, 0, 0) := by decide +kernel
theorem u_115_78 {a : Int32} {z0 : Option Value} {lv : am_L} {st : List Value} : am_W G (am_M G d) 115 K 78 (z0 :: some (.int a) :: lv) st h nc ns = (am_W G (am_M G d) 115 K 79 (z0 :: some (.int a) :: lv) (.int a :: st) h nc ns) := am_u e_115_78
theorem e_115_79 : pg_code 115 79 = some (.imul, 1, 0, 0) := by decide +kernel
theorem u_115_79 {a b : Int32} {lv : am_L} {st : List Value} : am_W G (am_M G d) 115 K 79 lv (.int b :: .int a :: st) h nc ns = (am_W G (am_M G d) 115 K 80 lv (.int (a * b) :: st) h nc ns) := am_u e_115_79
theorem e_115_80 : pg_code 115 80 = some (.iload_n 2, 1, 0, 0) := by decide +kernel
theorem u_115_80 {a : Int32} {z0 : Option Value} {z1 : Option Value} {lv : am_L} {st : List Value} : am_W G (am_M G d) 115 K 80 (z0 :: z1 :: some (.int a) :: lv) st h nc ns = (am_W G (am_M G d) 115 K 81 (z0 :: z1 :: some (.int a) :: lv) (.int a :: st) h nc ns) := am_u e_115_80
theorem e_115_81 : pg_code 115 81 = some (.iadd, 1, 0, 0) := by decide +kernel
theorem u_115_81 {a b : Int32} {lv : am_L} {st : List Value} : am_W G (am_M G d) 115 K 81 lv (.int b :: .int a :: st) h nc ns = (am_W G (am_M G d) 115 K 82 lv (.int (a + b) :: st) h nc ns) := am_u e_115_81
theorem e_115_82 : pg_code 115 82 = some (.istore 6, 2, 0, 0) := by decide +kernel
theorem u_115_82 {a : Int32} {lv : am_L} {st : List Value} : am_W G (am_M G d) 115 K 82 lv (.int a :: st) h nc ns = (am_W G (am_M G d) 115 K 84 (am_st1 lv 6 (.int a)) st h nc ns) := (am_u e_115_82).trans (f_t (by decide +kernel))
theorem e_115_84 : pg_code 115 84 = some (.aload_n 0, 1, 0, 0) := by decide +kernel
theorem u_115_84 {a : Nat} {lv : am_L} {st : List Value} : am_W G (am_M G d) 115 K 84 (some (.ref a) :: lv) st h nc ns = (am_W G (am_M G d) 115 K 85 (some (.ref a) :: lv) (.ref a :: st) h nc ns) := am_u e_115_84
theorem e_115_85 : pg_code 115 85 = some (.getfield 57, 3, 7, 20) := by decide +kernel
theorem u_115_85 {a : Nat} {lv : am_L} {st : List Value} : am_W G (am_M G d) 115 K 85 lv (.ref a :: st) h nc ns = (f_gf G d 115 K 88 lv st h nc ns (h a) 7 20) := am_u e_115_85
theorem e_115_88 : pg_code 115 88 = some (.iload 6, 2, 0, 0) := by decide +kernel
theorem u_115_88 {a : Int32} {z0 : Option Value} {z1 : Option Value} {z2 : Option Value} {z3 : Option Value} {z4 : Option Value} {z5 : Option Value} {lv : am_L} {st : List Value} : am_W G (am_M G d) 115 K 88 (z0 :: z1 :: z2 :: z3 :: z4 :: z5 :: some (.int a) :: lv) st h nc ns = (am_W G (am_M G d) 115 K 90 (z0 :: z1 :: z2 :: z3 :: z4 :: z5 :: some (.int a) :: lv) (.int a :: st) h nc ns) := am_u e_115_88
theorem e_115_90 : pg_code 115 90 = some (.iaload, 1, 0, 0) := by decide +kernel
theorem u_115_90 {a : Nat} {j : Int32} {lv : am_L} {st : List Value} : am_W G (am_M G d) 115 K 90 lv (.int j :: .ref a :: st) h nc ns = (f_ia G d 115 K 91 lv st h nc ns (h a) .int j) := am_u e_115_90
theorem e_115_91 : pg_code 115 91 = some (.iload_n 3, 1, 0, 0) := by decide +kernel
theorem u_115_91 {a : Int32} {z0 : Option Value} {z1 : Option Value} {z2 : Option Value} {lv : am_L} {st : List Value} : am_W G (am_M G d) 115 K 91 (z0 :: z1 :: z2 :: some (.int a) :: lv) st h nc ns = (am_W G (am_M G d) 115 K 92 (z0 :: z1 :: z2 :: some (.int a) :: lv) (.int a :: st) h nc ns) := am_u e_115_91
theorem e_115_92 : pg_code 115 92 = some (.if_icmp .ne 27, 3, 119, 0) := by decide +kernel
theorem u_115_92 {a b : Int32} {lv : am_L} {st : List Value} : am_W G (am_M G d) 115 K 92 lv (.int b :: .int a :: st) h nc ns = (am_br (¬ a = b) (am_W G (am_M G d) 115 K 119 lv st h nc ns) (am_W G (am_M G d) 115 K 95 lv st h nc ns)) := am_u e_115_92
theorem e_115_95 : pg_code 115 95 = some (.aload_n 0, 1, 0, 0) := by decide +kernel
theorem u_115_95 {a : Nat} {lv : am_L} {st : List Value} : am_W G (am_M G d) 115 K 95 (some (.ref a) :: lv) st h nc ns = (am_W G (am_M G d) 115 K 96 (some (.ref a) :: lv) (.ref a :: st) h nc ns) := am_u e_115_95
theorem e_115_96 : pg_code 115 96 = some (.getfield 60, 3, 7, 21) := by decide +kernel
theorem u_115_96 {a : Nat} {lv : am_L} {st : List Value} : am_W G (am_M G d) 115 K 96 lv (.ref a :: st) h nc ns = (f_gf G d 115 K 99 lv st h nc ns (h a) 7 21) := am_u e_115_96
theorem e_115_99 : pg_code 115 99 = some (.iload 6, 2, 0, 0) := by decide +kernel
theorem u_115_99 {a : Int32} {z0 : Option Value} {z1 : Option Value} {z2 : Option Value} {z3 : Option Value} {z4 : Option Value} {z5 : Option Value} {lv : am_L} {st : List Value} : am_W G (am_M G d) 115 K 99 (z0 :: z1 :: z2 :: z3 :: z4 :: z5 :: some (.int a) :: lv) st h nc ns = (am_W G (am_M G d) 115 K 101 (z0 :: z1 :: z2 :: z3 :: z4 :: z5 :: some (.int a) :: lv) (.int a :: st) h nc ns) := am_u e_115_99
theorem e_115_101 : pg_code 115 101 = some (.iaload, 1, 0, 0) := by decide +kernel
theorem u_115_101 {a : Nat} {j : Int32} {lv : am_L} {st : List Value} : am_W G (am_M G d) 115 K 101 lv (.int j :: .ref a :: st) h nc ns = (f_ia G d 115 K 102 lv st h nc ns (h a) .int j) := am_u e_115_101
theorem e_115_102 : pg_code 115 102 = some (.iload 4, 2, 0, 0) := by decide +kernel
theorem u_115_102 {a : Int32} {z0 : Option Value} {z1 : Option Value} {z2 : Option Value} {z3 : Option Value} {lv : am_L} {st : List Value} : am_W G (am_M G d) 115 K 102 (z0 :: z1 :: z2 :: z3 :: some (.int a) :: lv) st h nc ns = (am_W G (am_M G d) 115 K 104 (z0 :: z1 :: z2 :: z3 :: some (.int a) :: lv) (.int a :: st) h nc ns) := am_u e_115_102
theorem e_115_104 : pg_code 115 104 = some (.if_icmp .ne 15, 3, 119, 0) := by decide +kernel
theorem u_115_104 {a b : Int32} {lv : am_L} {st : List Value} : am_W G (am_M G d) 115 K 104 lv (.int b :: .int a :: st) h nc ns = (am_br (¬ a = b) (am_W G (am_M G d) 115 K 119 lv st h nc ns) (am_W G (am_M G d) 115 K 107 lv st h nc ns)) := am_u e_115_104
theorem e_115_107 : pg_code 115 107 = some (.aload_n 0, 1, 0, 0) := by decide +kernel
theorem u_115_107 {a : Nat} {lv : am_L} {st : List Value} : am_W G (am_M G d) 115 K 107 (some (.ref a) :: lv) st h nc ns = (am_W G (am_M G d) 115 K 108 (some (.ref a) :: lv) (.ref a :: st) h nc ns) := am_u e_115_107
theorem e_115_108 : pg_code 115 108 = some (.getfield 63, 3, 7, 22) := by decide +kernel
theorem u_115_108 {a : Nat} {lv : am_L} {st : List Value} : am_W G (am_M G d) 115 K 108 lv (.ref a :: st) h nc ns = (f_gf G d 115 K 111 lv st h nc ns (h a) 7 22) := am_u e_115_108
theorem e_115_111 : pg_code 115 111 = some (.iload 6, 2, 0, 0) := by decide +kernel
theorem u_115_111 {a : Int32} {z0 : Option Value} {z1 : Option Value} {z2 : Option Value} {z3 : Option Value} {z4 : Option Value} {z5 : Option Value} {lv : am_L} {st : List Value} : am_W G (am_M G d) 115 K 111 (z0 :: z1 :: z2 :: z3 :: z4 :: z5 :: some (.int a) :: lv) st h nc ns = (am_W G (am_M G d) 115 K 113 (z0 :: z1 :: z2 :: z3 :: z4 :: z5 :: some (.int a) :: lv) (.int a :: st) h nc ns) := am_u e_115_111
theorem e_115_113 : pg_code 115 113 = some (.iaload, 1, 0, 0) := by decide +kernel
theorem u_115_113 {a : Nat} {j : Int32} {lv : am_L} {st : List Value} : am_W G (am_M G d) 115 K 113 lv (.int j :: .ref a :: st) h nc ns = (f_ia G d 115 K 114 lv st h nc ns (h a) .int j) := am_u e_115_113
theorem e_115_114 : pg_code 115 114 = some (.iload 5, 2, 0, 0) := by decide +kernel
theorem u_115_114 {a : Int32} {z0 : Option Value} {z1 : Option Value} {z2 : Option Value} {z3 : Option Value} {z4 : Option Value} {lv : am_L} {st : List Value} : am_W G (am_M G d) 115 K 114 (z0 :: z1 :: z2 :: z3 :: z4 :: some (.int a) :: lv) st h nc ns = (am_W G (am_M G d) 115 K 116 (z0 :: z1 :: z2 :: z3 :: z4 :: some (.int a) :: lv) (.int a :: st) h nc ns) := am_u e_115_114
theorem e_115_116 : pg_code 115 116 = some (.if_icmp .eq 7, 3, 123, 0) := by decide +kernel
theorem u_115_116 {a b : Int32} {lv : am_L} {st : List Value} : am_W G (am_M G d) 115 K 116 lv (.int b :: .int a :: st) h nc ns = (am_br (a = b) (am_W G (am_M G d) 115 K 123 lv st h nc ns) (am_W G (am_M G d) 115 K 119 lv st h nc ns)) := am_u e_115_116
theorem e_115_119 : pg_code 115 119 = some (.iconst 1, 1, 0, 0) := by decide +kernel
theorem u_115_119 {lv : am_L} {st : List Value} : am_W G (am_M G d) 115 K 119 lv st h nc ns = (am_W G (am_M G d) 115 K 120 lv (.int 1 :: st) h nc ns) := am_u e_115_119
theorem e_115_120 : pg_code 115 120 = some (.goto 4, 3, 124, 0) := by decide +kernel
theorem u_115_120 {lv : am_L} {st : List Value} : am_W G (am_M G d) 115 K 120 lv st h nc ns = (am_W G (am_M G d) 115 K 124 lv st h nc ns) := am_u e_115_120
theorem e_115_123 : pg_code 115 123 = some (.iconst 0, 1, 0, 0) := by decide +kernel
theorem u_115_123 {lv : am_L} {st : List Value} : am_W G (am_M G d) 115 K 123 lv st h nc ns = (am_W G (am_M G d) 115 K 124 lv (.int 0 :: st) h nc ns) := am_u e_115_123
theorem e_115_124 : pg_code 115 124 = some (.istore 7, 2, 0, 0) := by decide +kernel
theorem u_115_124 {a : Int32} {lv : am_L} {st : List Value} : am_W G (am_M G d) 115 K 124 lv (.int a :: st) h nc ns = (am_W G (am_M G d) 115 K 126 (am_st1 lv 7 (.int a)) st h nc ns) := (am_u e_115_124).trans (f_t (by decide +kernel))
theorem e_115_126 : pg_code 115 126 = some (.aload_n 0, 1, 0, 0) := by decide +kernel
theorem u_115_126 {a : Nat} {lv : am_L} {st : List Value} : am_W G (am_M G d) 115 K 126 (some (.ref a) :: lv) st h nc ns = (am_W G (am_M G d) 115 K 127 (some (.ref a) :: lv) (.ref a :: st) h nc ns) := am_u e_115_126
theorem e_115_127 : pg_code 115 127 = some (.getfield 57, 3, 7, 20) := by decide +kernel
theorem u_115_127 {a : Nat} {lv : am_L} {st : List Value} : am_W G (am_M G d) 115 K 127 lv (.ref a :: st) h nc ns = (f_gf G d 115 K 130 lv st h nc ns (h a) 7 20) := am_u e_115_127
theorem e_115_130 : pg_code 115 130 = some (.iload 6, 2, 0, 0) := by decide +kernel
theorem u_115_130 {a : Int32} {z0 : Option Value} {z1 : Option Value} {z2 : Option Value} {z3 : Option Value} {z4 : Option Value} {z5 : Option Value} {lv : am_L} {st : List Value} : am_W G (am_M G d) 115 K 130 (z0 :: z1 :: z2 :: z3 :: z4 :: z5 :: some (.int a) :: lv) st h nc ns = (am_W G (am_M G d) 115 K 132 (z0 :: z1 :: z2 :: z3 :: z4 :: z5 :: some (.int a) :: lv) (.int a :: st) h nc ns) := am_u e_115_130
theorem e_115_132 : pg_code 115 132 = some (.iload_n 3, 1, 0, 0) := by decide +kernel
theorem u_115_132 {a : Int32} {z0 : Option Value} {z1 : Option Value} {z2 : Option Value} {lv : am_L} {st : List Value} : am_W G (am_M G d) 115 K 132 (z0 :: z1 :: z2 :: some (.int a) :: lv) st h nc ns = (am_W G (am_M G d) 115 K 133 (z0 :: z1 :: z2 :: some (.int a) :: lv) (.int a :: st) h nc ns) := am_u e_115_132
theorem e_115_133 : pg_code 115 133 = some (.iastore, 1, 0, 0) := by decide +kernel
theorem u_115_133 {a : Nat} {j b : Int32} {lv : am_L} {st : List Value} : am_W G (am_M G d) 115 K 133 lv (.int b :: .int j :: .ref a :: st) h nc ns = (f_is G d 115 K 134 lv st h nc ns (h a) .int a j b) := am_u e_115_133
theorem e_115_134 : pg_code 115 134 = some (.aload_n 0, 1, 0, 0) := by decide +kernel
theorem u_115_134 {a : Nat} {lv : am_L} {st : List Value} : am_W G (am_M G d) 115 K 134 (some (.ref a) :: lv) st h nc ns = (am_W G (am_M G d) 115 K 135 (some (.ref a) :: lv) (.ref a :: st) h nc ns) := am_u e_115_134
theorem e_115_135 : pg_code 115 135 = some (.getfield 60, 3, 7, 21) := by decide +kernel
theorem u_115_135 {a : Nat} {lv : am_L} {st : List Value} : am_W G (am_M G d) 115 K 135 lv (.ref a :: st) h nc ns = (f_gf G d 115 K 138 lv st h nc ns (h a) 7 21) := am_u e_115_135
theorem e_115_138 : pg_code 115 138 = some (.iload 6, 2, 0, 0) := by decide +kernel
theorem u_115_138 {a : Int32} {z0 : Option Value} {z1 : Option Value} {z2 : Option Value} {z3 : Option Value} {z4 : Option Value} {z5 : Option Value} {lv : am_L} {st : List Value} : am_W G (am_M G d) 115 K 138 (z0 :: z1 :: z2 :: z3 :: z4 :: z5 :: some (.int a) :: lv) st h nc ns = (am_W G (am_M G d) 115 K 140 (z0 :: z1 :: z2 :: z3 :: z4 :: z5 :: some (.int a) :: lv) (.int a :: st) h nc ns) := am_u e_115_138
theorem e_115_140 : pg_code 115 140 = some (.iload 4, 2, 0, 0) := by decide +kernel
theorem u_115_140 {a : Int32} {z0 : Option Value} {z1 : Option Value} {z2 : Option Value} {z3 : Option Value} {lv : am_L} {st : List Value} : am_W G (am_M G d) 115 K 140 (z0 :: z1 :: z2 :: z3 :: some (.int a) :: lv) st h nc ns = (am_W G (am_M G d) 115 K 142 (z0 :: z1 :: z2 :: z3 :: some (.int a) :: lv) (.int a :: st) h nc ns) := am_u e_115_140
theorem e_115_142 : pg_code 115 142 = some (.iastore, 1, 0, 0) := by decide +kernel
theorem u_115_142 {a : Nat} {j b : Int32} {lv : am_L} {st : List Value} : am_W G (am_M G d) 115 K 142 lv (.int b :: .int j :: .ref a :: st) h nc ns = (f_is G d 115 K 143 lv st h nc ns (h a) .int a j b) := am_u e_115_142
theorem e_115_143 : pg_code 115 143 = some (.aload_n 0, 1, 0, 0) := by decide +kernel
theorem u_115_143 {a : Nat} {lv : am_L} {st : List Value} : am_W G (am_M G d) 115 K 143 (some (.ref a) :: lv) st h nc ns = (am_W G (am_M G d) 115 K 144 (some (.ref a) :: lv) (.ref a :: st) h nc ns) := am_u e_115_143
theorem e_115_144 : pg_code 115 144 = some (.getfield 63, 3, 7, 22) := by decide +kernel
theorem u_115_144 {a : Nat} {lv : am_L} {st : List Value} : am_W G (am_M G d) 115 K 144 lv (.ref a :: st) h nc ns = (f_gf G d 115 K 147 lv st h nc ns (h a) 7 22) := am_u e_115_144
theorem e_115_147 : pg_code 115 147 = some (.iload 6, 2, 0, 0) := by decide +kernel
theorem u_115_147 {a : Int32} {z0 : Option Value} {z1 : Option Value} {z2 : Option Value} {z3 : Option Value} {z4 : Option Value} {z5 : Option Value} {lv : am_L} {st : List Value} : am_W G (am_M G d) 115 K 147 (z0 :: z1 :: z2 :: z3 :: z4 :: z5 :: some (.int a) :: lv) st h nc ns = (am_W G (am_M G d) 115 K 149 (z0 :: z1 :: z2 :: z3 :: z4 :: z5 :: some (.int a) :: lv) (.int a :: st) h nc ns) := am_u e_115_147
theorem e_115_149 : pg_code 115 149 = some (.iload 5, 2, 0, 0) := by decide +kernel
theorem u_115_149 {a : Int32} {z0 : Option Value} {z1 : Option Value} {z2 : Option Value} {z3 : Option Value} {z4 : Option Value} {lv : am_L} {st : List Value} : am_W G (am_M G d) 115 K 149 (z0 :: z1 :: z2 :: z3 :: z4 :: some (.int a) :: lv) st h nc ns = (am_W G (am_M G d) 115 K 151 (z0 :: z1 :: z2 :: z3 :: z4 :: some (.int a) :: lv) (.int a :: st) h nc ns) := am_u e_115_149
theorem e_115_151 : pg_code 115 151 = some (.iastore, 1, 0, 0) := by decide +kernel
theorem u_115_151 {a : Nat} {j b : Int32} {lv : am_L} {st : List Value} : am_W G (am_M G d) 115 K 151 lv (.int b :: .int j :: .ref a :: st) h nc ns = (f_is G d 115 K 152 lv st h nc ns (h a) .int a j b) := am_u e_115_151
theorem e_115_152 : pg_code 115 152 = some (.iload 7, 2, 0, 0) := by decide +kernel
theorem u_115_152 {a : Int32} {z0 : Option Value} {z1 : Option Value} {z2 : Option Value} {z3 : Option Value} {z4 : Option Value} {z5 : Option Value} {z6 : Option Value} {lv : am_L} {st : List Value} : am_W G (am_M G d) 115 K 152 (z0 :: z1 :: z2 :: z3 :: z4 :: z5 :: z6 :: some (.int a) :: lv) st h nc ns = (am_W G (am_M G d) 115 K 154 (z0 :: z1 :: z2 :: z3 :: z4 :: z5 :: z6 :: some (.int a) :: lv) (.int a :: st) h nc ns) := am_u e_115_152
theorem e_115_154 : pg_code 115 154 = some (.ireturn, 1, 0, 0) := by decide +kernel
theorem u_115_154 {a : Int32} {lv : am_L} : am_W G (am_M G d) 115 K 154 lv [.int a] h nc ns = (narrow .boolean (.int a) = .int a ∧ K (.inl (some (.int a))) h) := (am_u e_115_154).trans (f_z_eq rfl)
theorem e_116_0 : pg_code 116 0 = some (.aload_n 0, 1, 0, 0) := by decide +kernel
theorem u_116_0 {a : Nat} {lv : am_L} {st : List Value} : am_W G (am_M G d) 116 K 0 (some (.ref a) :: lv) st h nc ns = (am_W G (am_M G d) 116 K 1 (some (.ref a) :: lv) (.ref a :: st) h nc ns) := am_u e_116_0
theorem e_116_1 : pg_code 116 1 = some (.iload_n 1, 1, 0, 0) := by decide +kernel
theorem u_116_1 {a : Int32} {z0 : Option Value} {lv : am_L} {st : List Value} : am_W G (am_M G d) 116 K 1 (z0 :: some (.int a) :: lv) st h nc ns = (am_W G (am_M G d) 116 K 2 (z0 :: some (.int a) :: lv) (.int a :: st) h nc ns) := am_u e_116_1
theorem e_116_2 : pg_code 116 2 = some (.invokevirtual 184, 3, 117, 2) := by decide +kernel
theorem u_116_2 {a : Nat} {v0 : Value} {lv : am_L} {st : List Value} : am_W G (am_M G d) 116 K 2 lv (v0 :: .ref a :: st) h nc ns = ((am_words st ≤ 8 ∧ nc + 0 ≤ 0 ∧ ns + 0 ≤ 0 ∧ f_rc (h a) 7) ∧ am_M G d 117 [.ref a, v0] h (am_back 116 K (am_W G (am_M G d) 116 K) 117 2 lv st nc ns)) := (am_u e_116_2).trans (f_iv_eq (a := a) (G := G) (d := d) (k := 116) (K := K) (pc := 2) (lv := lv) (st := st) (h := h) (nc := nc) (ns := ns) (x := 117) (X := am_W G (am_M G d) 116 K) [v0] (by decide) rfl)
theorem e_116_5 : pg_code 116 5 = some (.ifCond .ne 5, 3, 10, 0) := by decide +kernel
theorem u_116_5 {a : Int32} {lv : am_L} {st : List Value} : am_W G (am_M G d) 116 K 5 lv (.int a :: st) h nc ns = (am_br (¬ a = 0) (am_W G (am_M G d) 116 K 10 lv st h nc ns) (am_W G (am_M G d) 116 K 8 lv st h nc ns)) := am_u e_116_5
theorem e_116_8 : pg_code 116 8 = some (.iconst 0, 1, 0, 0) := by decide +kernel
theorem u_116_8 {lv : am_L} {st : List Value} : am_W G (am_M G d) 116 K 8 lv st h nc ns = (am_W G (am_M G d) 116 K 9 lv (.int 0 :: st) h nc ns) := am_u e_116_8
theorem e_116_9 : pg_code 116 9 = some (.ireturn, 1, 0, 0) := by decide +kernel
theorem u_116_9 {a : Int32} {lv : am_L} : am_W G (am_M G d) 116 K 9 lv [.int a] h nc ns = (K (.inl (some (.int a))) h) := (am_u e_116_9).trans (f_t ⟨rfl, .int, rfl, rfl⟩)
theorem e_116_10 : pg_code 116 10 = some (.iconst 0, 1, 0, 0) := by decide +kernel
theorem u_116_10 {lv : am_L} {st : List Value} : am_W G (am_M G d) 116 K 10 lv st h nc ns = (am_W G (am_M G d) 116 K 11 lv (.int 0 :: st) h nc ns) := am_u e_116_10
theorem e_116_11 : pg_code 116 11 = some (.istore_n 2, 1, 0, 0) := by decide +kernel
theorem u_116_11 {a : Int32} {lv : am_L} {st : List Value} : am_W G (am_M G d) 116 K 11 lv (.int a :: st) h nc ns = (am_W G (am_M G d) 116 K 12 (am_st1 lv 2 (.int a)) st h nc ns) := (am_u e_116_11).trans (f_t (by decide +kernel))
theorem e_116_12 : pg_code 116 12 = some (.iconst 0, 1, 0, 0) := by decide +kernel
theorem u_116_12 {lv : am_L} {st : List Value} : am_W G (am_M G d) 116 K 12 lv st h nc ns = (am_W G (am_M G d) 116 K 13 lv (.int 0 :: st) h nc ns) := am_u e_116_12
theorem e_116_13 : pg_code 116 13 = some (.istore_n 3, 1, 0, 0) := by decide +kernel
theorem u_116_13 {a : Int32} {lv : am_L} {st : List Value} : am_W G (am_M G d) 116 K 13 lv (.int a :: st) h nc ns = (am_W G (am_M G d) 116 K 14 (am_st1 lv 3 (.int a)) st h nc ns) := (am_u e_116_13).trans (f_t (by decide +kernel))
theorem e_116_14 : pg_code 116 14 = some (.iload_n 3, 1, 0, 0) := by decide +kernel
theorem u_116_14 {a : Int32} {z0 : Option Value} {z1 : Option Value} {z2 : Option Value} {lv : am_L} {st : List Value} : am_W G (am_M G d) 116 K 14 (z0 :: z1 :: z2 :: some (.int a) :: lv) st h nc ns = (am_W G (am_M G d) 116 K 15 (z0 :: z1 :: z2 :: some (.int a) :: lv) (.int a :: st) h nc ns) := am_u e_116_14
theorem e_116_15 : pg_code 116 15 = some (.aload_n 0, 1, 0, 0) := by decide +kernel
theorem u_116_15 {a : Nat} {lv : am_L} {st : List Value} : am_W G (am_M G d) 116 K 15 (some (.ref a) :: lv) st h nc ns = (am_W G (am_M G d) 116 K 16 (some (.ref a) :: lv) (.ref a :: st) h nc ns) := am_u e_116_15
theorem e_116_16 : pg_code 116 16 = some (.getfield 54, 3, 7, 19) := by decide +kernel
theorem u_116_16 {a : Nat} {lv : am_L} {st : List Value} : am_W G (am_M G d) 116 K 16 lv (.ref a :: st) h nc ns = (f_gf G d 116 K 19 lv st h nc ns (h a) 7 19) := am_u e_116_16
theorem e_116_19 : pg_code 116 19 = some (.iload_n 1, 1, 0, 0) := by decide +kernel
theorem u_116_19 {a : Int32} {z0 : Option Value} {lv : am_L} {st : List Value} : am_W G (am_M G d) 116 K 19 (z0 :: some (.int a) :: lv) st h nc ns = (am_W G (am_M G d) 116 K 20 (z0 :: some (.int a) :: lv) (.int a :: st) h nc ns) := am_u e_116_19
theorem e_116_20 : pg_code 116 20 = some (.iaload, 1, 0, 0) := by decide +kernel
theorem u_116_20 {a : Nat} {j : Int32} {lv : am_L} {st : List Value} : am_W G (am_M G d) 116 K 20 lv (.int j :: .ref a :: st) h nc ns = (f_ia G d 116 K 21 lv st h nc ns (h a) .int j) := am_u e_116_20
theorem e_116_21 : pg_code 116 21 = some (.if_icmp .ge 32, 3, 53, 0) := by decide +kernel
theorem u_116_21 {a b : Int32} {lv : am_L} {st : List Value} : am_W G (am_M G d) 116 K 21 lv (.int b :: .int a :: st) h nc ns = (am_br (b ≤ a) (am_W G (am_M G d) 116 K 53 lv st h nc ns) (am_W G (am_M G d) 116 K 24 lv st h nc ns)) := am_u e_116_21
theorem e_116_24 : pg_code 116 24 = some (.iload_n 2, 1, 0, 0) := by decide +kernel
theorem u_116_24 {a : Int32} {z0 : Option Value} {z1 : Option Value} {lv : am_L} {st : List Value} : am_W G (am_M G d) 116 K 24 (z0 :: z1 :: some (.int a) :: lv) st h nc ns = (am_W G (am_M G d) 116 K 25 (z0 :: z1 :: some (.int a) :: lv) (.int a :: st) h nc ns) := am_u e_116_24
theorem e_116_25 : pg_code 116 25 = some (.aload_n 0, 1, 0, 0) := by decide +kernel
theorem u_116_25 {a : Nat} {lv : am_L} {st : List Value} : am_W G (am_M G d) 116 K 25 (some (.ref a) :: lv) st h nc ns = (am_W G (am_M G d) 116 K 26 (some (.ref a) :: lv) (.ref a :: st) h nc ns) := am_u e_116_25
theorem e_116_26 : pg_code 116 26 = some (.sipush 150, 3, 0, 0) := by decide +kernel
theorem u_116_26 {lv : am_L} {st : List Value} : am_W G (am_M G d) 116 K 26 lv st h nc ns = (am_W G (am_M G d) 116 K 29 lv (.int 150 :: st) h nc ns) := am_u e_116_26
theorem e_116_29 : pg_code 116 29 = some (.iload_n 1, 1, 0, 0) := by decide +kernel
theorem u_116_29 {a : Int32} {z0 : Option Value} {lv : am_L} {st : List Value} : am_W G (am_M G d) 116 K 29 (z0 :: some (.int a) :: lv) st h nc ns = (am_W G (am_M G d) 116 K 30 (z0 :: some (.int a) :: lv) (.int a :: st) h nc ns) := am_u e_116_29
theorem e_116_30 : pg_code 116 30 = some (.imul, 1, 0, 0) := by decide +kernel
theorem u_116_30 {a b : Int32} {lv : am_L} {st : List Value} : am_W G (am_M G d) 116 K 30 lv (.int b :: .int a :: st) h nc ns = (am_W G (am_M G d) 116 K 31 lv (.int (a * b) :: st) h nc ns) := am_u e_116_30
theorem e_116_31 : pg_code 116 31 = some (.iload_n 3, 1, 0, 0) := by decide +kernel
theorem u_116_31 {a : Int32} {z0 : Option Value} {z1 : Option Value} {z2 : Option Value} {lv : am_L} {st : List Value} : am_W G (am_M G d) 116 K 31 (z0 :: z1 :: z2 :: some (.int a) :: lv) st h nc ns = (am_W G (am_M G d) 116 K 32 (z0 :: z1 :: z2 :: some (.int a) :: lv) (.int a :: st) h nc ns) := am_u e_116_31
theorem e_116_32 : pg_code 116 32 = some (.iadd, 1, 0, 0) := by decide +kernel
theorem u_116_32 {a b : Int32} {lv : am_L} {st : List Value} : am_W G (am_M G d) 116 K 32 lv (.int b :: .int a :: st) h nc ns = (am_W G (am_M G d) 116 K 33 lv (.int (a + b) :: st) h nc ns) := am_u e_116_32
theorem e_116_33 : pg_code 116 33 = some (.iload_n 3, 1, 0, 0) := by decide +kernel
theorem u_116_33 {a : Int32} {z0 : Option Value} {z1 : Option Value} {z2 : Option Value} {lv : am_L} {st : List Value} : am_W G (am_M G d) 116 K 33 (z0 :: z1 :: z2 :: some (.int a) :: lv) st h nc ns = (am_W G (am_M G d) 116 K 34 (z0 :: z1 :: z2 :: some (.int a) :: lv) (.int a :: st) h nc ns) := am_u e_116_33
theorem e_116_34 : pg_code 116 34 = some (.invokevirtual 187, 3, 118, 3) := by decide +kernel
theorem u_116_34 {a : Nat} {v0 v1 : Value} {lv : am_L} {st : List Value} : am_W G (am_M G d) 116 K 34 lv (v1 :: v0 :: .ref a :: st) h nc ns = ((am_words st ≤ 8 ∧ nc + 0 ≤ 0 ∧ ns + 0 ≤ 0 ∧ f_rc (h a) 7) ∧ am_M G d 118 [.ref a, v0, v1] h (am_back 116 K (am_W G (am_M G d) 116 K) 118 34 lv st nc ns)) := (am_u e_116_34).trans (f_iv_eq (a := a) (G := G) (d := d) (k := 116) (K := K) (pc := 34) (lv := lv) (st := st) (h := h) (nc := nc) (ns := ns) (x := 118) (X := am_W G (am_M G d) 116 K) [v0, v1] (by decide) rfl)
theorem e_116_37 : pg_code 116 37 = some (.ifCond .eq 7, 3, 44, 0) := by decide +kernel
theorem u_116_37 {a : Int32} {lv : am_L} {st : List Value} : am_W G (am_M G d) 116 K 37 lv (.int a :: st) h nc ns = (am_br (a = 0) (am_W G (am_M G d) 116 K 44 lv st h nc ns) (am_W G (am_M G d) 116 K 40 lv st h nc ns)) := am_u e_116_37
theorem e_116_40 : pg_code 116 40 = some (.iconst 1, 1, 0, 0) := by decide +kernel
theorem u_116_40 {lv : am_L} {st : List Value} : am_W G (am_M G d) 116 K 40 lv st h nc ns = (am_W G (am_M G d) 116 K 41 lv (.int 1 :: st) h nc ns) := am_u e_116_40
theorem e_116_41 : pg_code 116 41 = some (.goto 4, 3, 45, 0) := by decide +kernel
theorem u_116_41 {lv : am_L} {st : List Value} : am_W G (am_M G d) 116 K 41 lv st h nc ns = (am_W G (am_M G d) 116 K 45 lv st h nc ns) := am_u e_116_41
theorem e_116_44 : pg_code 116 44 = some (.iconst 0, 1, 0, 0) := by decide +kernel
theorem u_116_44 {lv : am_L} {st : List Value} : am_W G (am_M G d) 116 K 44 lv st h nc ns = (am_W G (am_M G d) 116 K 45 lv (.int 0 :: st) h nc ns) := am_u e_116_44
theorem e_116_45 : pg_code 116 45 = some (.iadd, 1, 0, 0) := by decide +kernel
theorem u_116_45 {a b : Int32} {lv : am_L} {st : List Value} : am_W G (am_M G d) 116 K 45 lv (.int b :: .int a :: st) h nc ns = (am_W G (am_M G d) 116 K 46 lv (.int (a + b) :: st) h nc ns) := am_u e_116_45
theorem e_116_46 : pg_code 116 46 = some (.istore_n 2, 1, 0, 0) := by decide +kernel
theorem u_116_46 {a : Int32} {lv : am_L} {st : List Value} : am_W G (am_M G d) 116 K 46 lv (.int a :: st) h nc ns = (am_W G (am_M G d) 116 K 47 (am_st1 lv 2 (.int a)) st h nc ns) := (am_u e_116_46).trans (f_t (by decide +kernel))
theorem e_116_47 : pg_code 116 47 = some (.iinc 3 1, 3, 0, 0) := by decide +kernel
theorem u_116_47 {a : Int32} {z0 : Option Value} {z1 : Option Value} {z2 : Option Value} {lv : am_L} {st : List Value} : am_W G (am_M G d) 116 K 47 (z0 :: z1 :: z2 :: some (.int a) :: lv) st h nc ns = (am_W G (am_M G d) 116 K 50 (am_st1 (z0 :: z1 :: z2 :: some (.int a) :: lv) 3 (.int (a + Int32.ofInt 1))) st h nc ns) := (am_u e_116_47).trans (f_t (by decide +kernel))
theorem e_116_50 : pg_code 116 50 = some (.goto (-36), 3, 14, 0) := by decide +kernel
theorem u_116_50 {lv : am_L} {st : List Value} : am_W G (am_M G d) 116 K 50 lv st h nc ns = (am_W G (am_M G d) 116 K 14 lv st h nc ns) := am_u e_116_50
theorem e_116_53 : pg_code 116 53 = some (.iload_n 2, 1, 0, 0) := by decide +kernel
theorem u_116_53 {a : Int32} {z0 : Option Value} {z1 : Option Value} {lv : am_L} {st : List Value} : am_W G (am_M G d) 116 K 53 (z0 :: z1 :: some (.int a) :: lv) st h nc ns = (am_W G (am_M G d) 116 K 54 (z0 :: z1 :: some (.int a) :: lv) (.int a :: st) h nc ns) := am_u e_116_53
theorem e_116_54 : pg_code 116 54 = some (.ifCond .le 5, 3, 59, 0) := by decide +kernel
theorem u_116_54 {a : Int32} {lv : am_L} {st : List Value} : am_W G (am_M G d) 116 K 54 lv (.int a :: st) h nc ns = (am_br (a ≤ 0) (am_W G (am_M G d) 116 K 59 lv st h nc ns) (am_W G (am_M G d) 116 K 57 lv st h nc ns)) := am_u e_116_54
theorem e_116_57 : pg_code 116 57 = some (.iload_n 2, 1, 0, 0) := by decide +kernel
theorem u_116_57 {a : Int32} {z0 : Option Value} {z1 : Option Value} {lv : am_L} {st : List Value} : am_W G (am_M G d) 116 K 57 (z0 :: z1 :: some (.int a) :: lv) st h nc ns = (am_W G (am_M G d) 116 K 58 (z0 :: z1 :: some (.int a) :: lv) (.int a :: st) h nc ns) := am_u e_116_57
theorem e_116_58 : pg_code 116 58 = some (.ireturn, 1, 0, 0) := by decide +kernel
theorem u_116_58 {a : Int32} {lv : am_L} : am_W G (am_M G d) 116 K 58 lv [.int a] h nc ns = (K (.inl (some (.int a))) h) := (am_u e_116_58).trans (f_t ⟨rfl, .int, rfl, rfl⟩)
theorem e_116_59 : pg_code 116 59 = some (.aload_n 0, 1, 0, 0) := by decide +kernel
theorem u_116_59 {a : Nat} {lv : am_L} {st : List Value} : am_W G (am_M G d) 116 K 59 (some (.ref a) :: lv) st h nc ns = (am_W G (am_M G d) 116 K 60 (some (.ref a) :: lv) (.ref a :: st) h nc ns) := am_u e_116_59
theorem e_116_60 : pg_code 116 60 = some (.invokevirtual 129, 3, 93, 1) := by decide +kernel
theorem u_116_60 {a : Nat} {lv : am_L} {st : List Value} : am_W G (am_M G d) 116 K 60 lv (.ref a :: st) h nc ns = ((am_words st ≤ 8 ∧ nc + 0 ≤ 0 ∧ ns + 0 ≤ 0 ∧ f_rc (h a) 7) ∧ am_M G d 93 [.ref a] h (am_back 116 K (am_W G (am_M G d) 116 K) 93 60 lv st nc ns)) := (am_u e_116_60).trans (f_iv_eq (a := a) (G := G) (d := d) (k := 116) (K := K) (pc := 60) (lv := lv) (st := st) (h := h) (nc := nc) (ns := ns) (x := 93) (X := am_W G (am_M G d) 116 K) [] (by decide) rfl)
theorem e_116_63 : pg_code 116 63 = some (.iconst 0, 1, 0, 0) := by decide +kernel
theorem u_116_63 {lv : am_L} {st : List Value} : am_W G (am_M G d) 116 K 63 lv st h nc ns = (am_W G (am_M G d) 116 K 64 lv (.int 0 :: st) h nc ns) := am_u e_116_63
theorem e_116_64 : pg_code 116 64 = some (.istore_n 3, 1, 0, 0) := by decide +kernel
theorem u_116_64 {a : Int32} {lv : am_L} {st : List Value} : am_W G (am_M G d) 116 K 64 lv (.int a :: st) h nc ns = (am_W G (am_M G d) 116 K 65 (am_st1 lv 3 (.int a)) st h nc ns) := (am_u e_116_64).trans (f_t (by decide +kernel))
theorem e_116_65 : pg_code 116 65 = some (.iload_n 3, 1, 0, 0) := by decide +kernel
theorem u_116_65 {a : Int32} {z0 : Option Value} {z1 : Option Value} {z2 : Option Value} {lv : am_L} {st : List Value} : am_W G (am_M G d) 116 K 65 (z0 :: z1 :: z2 :: some (.int a) :: lv) st h nc ns = (am_W G (am_M G d) 116 K 66 (z0 :: z1 :: z2 :: some (.int a) :: lv) (.int a :: st) h nc ns) := am_u e_116_65
theorem e_116_66 : pg_code 116 66 = some (.aload_n 0, 1, 0, 0) := by decide +kernel
theorem u_116_66 {a : Nat} {lv : am_L} {st : List Value} : am_W G (am_M G d) 116 K 66 (some (.ref a) :: lv) st h nc ns = (am_W G (am_M G d) 116 K 67 (some (.ref a) :: lv) (.ref a :: st) h nc ns) := am_u e_116_66
theorem e_116_67 : pg_code 116 67 = some (.getfield 54, 3, 7, 19) := by decide +kernel
theorem u_116_67 {a : Nat} {lv : am_L} {st : List Value} : am_W G (am_M G d) 116 K 67 lv (.ref a :: st) h nc ns = (f_gf G d 116 K 70 lv st h nc ns (h a) 7 19) := am_u e_116_67
theorem e_116_70 : pg_code 116 70 = some (.iload_n 1, 1, 0, 0) := by decide +kernel
theorem u_116_70 {a : Int32} {z0 : Option Value} {lv : am_L} {st : List Value} : am_W G (am_M G d) 116 K 70 (z0 :: some (.int a) :: lv) st h nc ns = (am_W G (am_M G d) 116 K 71 (z0 :: some (.int a) :: lv) (.int a :: st) h nc ns) := am_u e_116_70
theorem e_116_71 : pg_code 116 71 = some (.iaload, 1, 0, 0) := by decide +kernel
theorem u_116_71 {a : Nat} {j : Int32} {lv : am_L} {st : List Value} : am_W G (am_M G d) 116 K 71 lv (.int j :: .ref a :: st) h nc ns = (f_ia G d 116 K 72 lv st h nc ns (h a) .int j) := am_u e_116_71
theorem e_116_72 : pg_code 116 72 = some (.if_icmp .ge 54, 3, 126, 0) := by decide +kernel
theorem u_116_72 {a b : Int32} {lv : am_L} {st : List Value} : am_W G (am_M G d) 116 K 72 lv (.int b :: .int a :: st) h nc ns = (am_br (b ≤ a) (am_W G (am_M G d) 116 K 126 lv st h nc ns) (am_W G (am_M G d) 116 K 75 lv st h nc ns)) := am_u e_116_72
theorem e_116_75 : pg_code 116 75 = some (.sipush 150, 3, 0, 0) := by decide +kernel
theorem u_116_75 {lv : am_L} {st : List Value} : am_W G (am_M G d) 116 K 75 lv st h nc ns = (am_W G (am_M G d) 116 K 78 lv (.int 150 :: st) h nc ns) := am_u e_116_75
theorem e_116_78 : pg_code 116 78 = some (.iload_n 1, 1, 0, 0) := by decide +kernel
theorem u_116_78 {a : Int32} {z0 : Option Value} {lv : am_L} {st : List Value} : am_W G (am_M G d) 116 K 78 (z0 :: some (.int a) :: lv) st h nc ns = (am_W G (am_M G d) 116 K 79 (z0 :: some (.int a) :: lv) (.int a :: st) h nc ns) := am_u e_116_78
theorem e_116_79 : pg_code 116 79 = some (.imul, 1, 0, 0) := by decide +kernel
theorem u_116_79 {a b : Int32} {lv : am_L} {st : List Value} : am_W G (am_M G d) 116 K 79 lv (.int b :: .int a :: st) h nc ns = (am_W G (am_M G d) 116 K 80 lv (.int (a * b) :: st) h nc ns) := am_u e_116_79
theorem e_116_80 : pg_code 116 80 = some (.iload_n 3, 1, 0, 0) := by decide +kernel
theorem u_116_80 {a : Int32} {z0 : Option Value} {z1 : Option Value} {z2 : Option Value} {lv : am_L} {st : List Value} : am_W G (am_M G d) 116 K 80 (z0 :: z1 :: z2 :: some (.int a) :: lv) st h nc ns = (am_W G (am_M G d) 116 K 81 (z0 :: z1 :: z2 :: some (.int a) :: lv) (.int a :: st) h nc ns) := am_u e_116_80
theorem e_116_81 : pg_code 116 81 = some (.iadd, 1, 0, 0) := by decide +kernel
theorem u_116_81 {a b : Int32} {lv : am_L} {st : List Value} : am_W G (am_M G d) 116 K 81 lv (.int b :: .int a :: st) h nc ns = (am_W G (am_M G d) 116 K 82 lv (.int (a + b) :: st) h nc ns) := am_u e_116_81
theorem e_116_82 : pg_code 116 82 = some (.istore 4, 2, 0, 0) := by decide +kernel
theorem u_116_82 {a : Int32} {lv : am_L} {st : List Value} : am_W G (am_M G d) 116 K 82 lv (.int a :: st) h nc ns = (am_W G (am_M G d) 116 K 84 (am_st1 lv 4 (.int a)) st h nc ns) := (am_u e_116_82).trans (f_t (by decide +kernel))
theorem e_116_84 : pg_code 116 84 = some (.aload_n 0, 1, 0, 0) := by decide +kernel
theorem u_116_84 {a : Nat} {lv : am_L} {st : List Value} : am_W G (am_M G d) 116 K 84 (some (.ref a) :: lv) st h nc ns = (am_W G (am_M G d) 116 K 85 (some (.ref a) :: lv) (.ref a :: st) h nc ns) := am_u e_116_84
theorem e_116_85 : pg_code 116 85 = some (.iload 4, 2, 0, 0) := by decide +kernel
theorem u_116_85 {a : Int32} {z0 : Option Value} {z1 : Option Value} {z2 : Option Value} {z3 : Option Value} {lv : am_L} {st : List Value} : am_W G (am_M G d) 116 K 85 (z0 :: z1 :: z2 :: z3 :: some (.int a) :: lv) st h nc ns = (am_W G (am_M G d) 116 K 87 (z0 :: z1 :: z2 :: z3 :: some (.int a) :: lv) (.int a :: st) h nc ns) := am_u e_116_85
theorem e_116_87 : pg_code 116 87 = some (.invokevirtual 181, 3, 119, 2) := by decide +kernel
theorem u_116_87 {a : Nat} {v0 : Value} {lv : am_L} {st : List Value} : am_W G (am_M G d) 116 K 87 lv (v0 :: .ref a :: st) h nc ns = ((am_words st ≤ 8 ∧ nc + 0 ≤ 0 ∧ ns + 0 ≤ 0 ∧ f_rc (h a) 7) ∧ am_M G d 119 [.ref a, v0] h (am_back 116 K (am_W G (am_M G d) 116 K) 119 87 lv st nc ns)) := (am_u e_116_87).trans (f_iv_eq (a := a) (G := G) (d := d) (k := 116) (K := K) (pc := 87) (lv := lv) (st := st) (h := h) (nc := nc) (ns := ns) (x := 119) (X := am_W G (am_M G d) 116 K) [v0] (by decide) rfl)
theorem e_116_90 : pg_code 116 90 = some (.ifCond .eq 30, 3, 120, 0) := by decide +kernel
theorem u_116_90 {a : Int32} {lv : am_L} {st : List Value} : am_W G (am_M G d) 116 K 90 lv (.int a :: st) h nc ns = (am_br (a = 0) (am_W G (am_M G d) 116 K 120 lv st h nc ns) (am_W G (am_M G d) 116 K 93 lv st h nc ns)) := am_u e_116_90
theorem e_116_93 : pg_code 116 93 = some (.aload_n 0, 1, 0, 0) := by decide +kernel
theorem u_116_93 {a : Nat} {lv : am_L} {st : List Value} : am_W G (am_M G d) 116 K 93 (some (.ref a) :: lv) st h nc ns = (am_W G (am_M G d) 116 K 94 (some (.ref a) :: lv) (.ref a :: st) h nc ns) := am_u e_116_93
theorem e_116_94 : pg_code 116 94 = some (.iload_n 3, 1, 0, 0) := by decide +kernel
theorem u_116_94 {a : Int32} {z0 : Option Value} {z1 : Option Value} {z2 : Option Value} {lv : am_L} {st : List Value} : am_W G (am_M G d) 116 K 94 (z0 :: z1 :: z2 :: some (.int a) :: lv) st h nc ns = (am_W G (am_M G d) 116 K 95 (z0 :: z1 :: z2 :: some (.int a) :: lv) (.int a :: st) h nc ns) := am_u e_116_94
theorem e_116_95 : pg_code 116 95 = some (.aload_n 0, 1, 0, 0) := by decide +kernel
theorem u_116_95 {a : Nat} {lv : am_L} {st : List Value} : am_W G (am_M G d) 116 K 95 (some (.ref a) :: lv) st h nc ns = (am_W G (am_M G d) 116 K 96 (some (.ref a) :: lv) (.ref a :: st) h nc ns) := am_u e_116_95
theorem e_116_96 : pg_code 116 96 = some (.getfield 57, 3, 7, 20) := by decide +kernel
theorem u_116_96 {a : Nat} {lv : am_L} {st : List Value} : am_W G (am_M G d) 116 K 96 lv (.ref a :: st) h nc ns = (f_gf G d 116 K 99 lv st h nc ns (h a) 7 20) := am_u e_116_96
theorem e_116_99 : pg_code 116 99 = some (.iload 4, 2, 0, 0) := by decide +kernel
theorem u_116_99 {a : Int32} {z0 : Option Value} {z1 : Option Value} {z2 : Option Value} {z3 : Option Value} {lv : am_L} {st : List Value} : am_W G (am_M G d) 116 K 99 (z0 :: z1 :: z2 :: z3 :: some (.int a) :: lv) st h nc ns = (am_W G (am_M G d) 116 K 101 (z0 :: z1 :: z2 :: z3 :: some (.int a) :: lv) (.int a :: st) h nc ns) := am_u e_116_99
theorem e_116_101 : pg_code 116 101 = some (.iaload, 1, 0, 0) := by decide +kernel
theorem u_116_101 {a : Nat} {j : Int32} {lv : am_L} {st : List Value} : am_W G (am_M G d) 116 K 101 lv (.int j :: .ref a :: st) h nc ns = (f_ia G d 116 K 102 lv st h nc ns (h a) .int j) := am_u e_116_101
theorem e_116_102 : pg_code 116 102 = some (.aload_n 0, 1, 0, 0) := by decide +kernel
theorem u_116_102 {a : Nat} {lv : am_L} {st : List Value} : am_W G (am_M G d) 116 K 102 (some (.ref a) :: lv) st h nc ns = (am_W G (am_M G d) 116 K 103 (some (.ref a) :: lv) (.ref a :: st) h nc ns) := am_u e_116_102
theorem e_116_103 : pg_code 116 103 = some (.getfield 60, 3, 7, 21) := by decide +kernel
theorem u_116_103 {a : Nat} {lv : am_L} {st : List Value} : am_W G (am_M G d) 116 K 103 lv (.ref a :: st) h nc ns = (f_gf G d 116 K 106 lv st h nc ns (h a) 7 21) := am_u e_116_103
theorem e_116_106 : pg_code 116 106 = some (.iload 4, 2, 0, 0) := by decide +kernel
theorem u_116_106 {a : Int32} {z0 : Option Value} {z1 : Option Value} {z2 : Option Value} {z3 : Option Value} {lv : am_L} {st : List Value} : am_W G (am_M G d) 116 K 106 (z0 :: z1 :: z2 :: z3 :: some (.int a) :: lv) st h nc ns = (am_W G (am_M G d) 116 K 108 (z0 :: z1 :: z2 :: z3 :: some (.int a) :: lv) (.int a :: st) h nc ns) := am_u e_116_106
theorem e_116_108 : pg_code 116 108 = some (.iaload, 1, 0, 0) := by decide +kernel
theorem u_116_108 {a : Nat} {j : Int32} {lv : am_L} {st : List Value} : am_W G (am_M G d) 116 K 108 lv (.int j :: .ref a :: st) h nc ns = (f_ia G d 116 K 109 lv st h nc ns (h a) .int j) := am_u e_116_108
theorem e_116_109 : pg_code 116 109 = some (.aload_n 0, 1, 0, 0) := by decide +kernel
theorem u_116_109 {a : Nat} {lv : am_L} {st : List Value} : am_W G (am_M G d) 116 K 109 (some (.ref a) :: lv) st h nc ns = (am_W G (am_M G d) 116 K 110 (some (.ref a) :: lv) (.ref a :: st) h nc ns) := am_u e_116_109
theorem e_116_110 : pg_code 116 110 = some (.getfield 63, 3, 7, 22) := by decide +kernel
theorem u_116_110 {a : Nat} {lv : am_L} {st : List Value} : am_W G (am_M G d) 116 K 110 lv (.ref a :: st) h nc ns = (f_gf G d 116 K 113 lv st h nc ns (h a) 7 22) := am_u e_116_110
theorem e_116_113 : pg_code 116 113 = some (.iload 4, 2, 0, 0) := by decide +kernel
theorem u_116_113 {a : Int32} {z0 : Option Value} {z1 : Option Value} {z2 : Option Value} {z3 : Option Value} {lv : am_L} {st : List Value} : am_W G (am_M G d) 116 K 113 (z0 :: z1 :: z2 :: z3 :: some (.int a) :: lv) st h nc ns = (am_W G (am_M G d) 116 K 115 (z0 :: z1 :: z2 :: z3 :: some (.int a) :: lv) (.int a :: st) h nc ns) := am_u e_116_113
theorem e_116_115 : pg_code 116 115 = some (.iaload, 1, 0, 0) := by decide +kernel
theorem u_116_115 {a : Nat} {j : Int32} {lv : am_L} {st : List Value} : am_W G (am_M G d) 116 K 115 lv (.int j :: .ref a :: st) h nc ns = (f_ia G d 116 K 116 lv st h nc ns (h a) .int j) := am_u e_116_115
theorem e_116_116 : pg_code 116 116 = some (.invokevirtual 126, 3, 90, 5) := by decide +kernel
theorem u_116_116 {a : Nat} {v0 v1 v2 v3 : Value} {lv : am_L} {st : List Value} : am_W G (am_M G d) 116 K 116 lv (v3 :: v2 :: v1 :: v0 :: .ref a :: st) h nc ns = ((am_words st ≤ 8 ∧ nc + 0 ≤ 0 ∧ ns + 0 ≤ 0 ∧ f_rc (h a) 7) ∧ am_M G d 90 [.ref a, v0, v1, v2, v3] h (am_back 116 K (am_W G (am_M G d) 116 K) 90 116 lv st nc ns)) := (am_u e_116_116).trans (f_iv_eq (a := a) (G := G) (d := d) (k := 116) (K := K) (pc := 116) (lv := lv) (st := st) (h := h) (nc := nc) (ns := ns) (x := 90) (X := am_W G (am_M G d) 116 K) [v0, v1, v2, v3] (by decide) rfl)
theorem e_116_119 : pg_code 116 119 = some (.pop, 1, 0, 0) := by decide +kernel
theorem u_116_119 {a : Int32} {lv : am_L} {st : List Value} : am_W G (am_M G d) 116 K 119 lv (.int a :: st) h nc ns = (am_W G (am_M G d) 116 K 120 lv st h nc ns) := (am_u e_116_119).trans (f_t rfl)
theorem e_116_120 : pg_code 116 120 = some (.iinc 3 1, 3, 0, 0) := by decide +kernel
theorem u_116_120 {a : Int32} {z0 : Option Value} {z1 : Option Value} {z2 : Option Value} {lv : am_L} {st : List Value} : am_W G (am_M G d) 116 K 120 (z0 :: z1 :: z2 :: some (.int a) :: lv) st h nc ns = (am_W G (am_M G d) 116 K 123 (am_st1 (z0 :: z1 :: z2 :: some (.int a) :: lv) 3 (.int (a + Int32.ofInt 1))) st h nc ns) := (am_u e_116_120).trans (f_t (by decide +kernel))
theorem e_116_123 : pg_code 116 123 = some (.goto (-58), 3, 65, 0) := by decide +kernel
theorem u_116_123 {lv : am_L} {st : List Value} : am_W G (am_M G d) 116 K 123 lv st h nc ns = (am_W G (am_M G d) 116 K 65 lv st h nc ns) := am_u e_116_123
theorem e_116_126 : pg_code 116 126 = some (.aload_n 0, 1, 0, 0) := by decide +kernel
theorem u_116_126 {a : Nat} {lv : am_L} {st : List Value} : am_W G (am_M G d) 116 K 126 (some (.ref a) :: lv) st h nc ns = (am_W G (am_M G d) 116 K 127 (some (.ref a) :: lv) (.ref a :: st) h nc ns) := am_u e_116_126
theorem e_116_127 : pg_code 116 127 = some (.iload_n 1, 1, 0, 0) := by decide +kernel
theorem u_116_127 {a : Int32} {z0 : Option Value} {lv : am_L} {st : List Value} : am_W G (am_M G d) 116 K 127 (z0 :: some (.int a) :: lv) st h nc ns = (am_W G (am_M G d) 116 K 128 (z0 :: some (.int a) :: lv) (.int a :: st) h nc ns) := am_u e_116_127
theorem e_116_128 : pg_code 116 128 = some (.invokevirtual 178, 3, 114, 2) := by decide +kernel
theorem u_116_128 {a : Nat} {v0 : Value} {lv : am_L} {st : List Value} : am_W G (am_M G d) 116 K 128 lv (v0 :: .ref a :: st) h nc ns = ((am_words st ≤ 8 ∧ nc + 0 ≤ 0 ∧ ns + 0 ≤ 0 ∧ f_rc (h a) 7) ∧ am_M G d 114 [.ref a, v0] h (am_back 116 K (am_W G (am_M G d) 116 K) 114 128 lv st nc ns)) := (am_u e_116_128).trans (f_iv_eq (a := a) (G := G) (d := d) (k := 116) (K := K) (pc := 128) (lv := lv) (st := st) (h := h) (nc := nc) (ns := ns) (x := 114) (X := am_W G (am_M G d) 116 K) [v0] (by decide) rfl)
theorem e_116_131 : pg_code 116 131 = some (.iconst 0, 1, 0, 0) := by decide +kernel
theorem u_116_131 {lv : am_L} {st : List Value} : am_W G (am_M G d) 116 K 131 lv st h nc ns = (am_W G (am_M G d) 116 K 132 lv (.int 0 :: st) h nc ns) := am_u e_116_131
theorem e_116_132 : pg_code 116 132 = some (.ireturn, 1, 0, 0) := by decide +kernel
theorem u_116_132 {a : Int32} {lv : am_L} : am_W G (am_M G d) 116 K 132 lv [.int a] h nc ns = (K (.inl (some (.int a))) h) := (am_u e_116_132).trans (f_t ⟨rfl, .int, rfl, rfl⟩)
theorem e_117_0 : pg_code 117 0 = some (.aload_n 0, 1, 0, 0) := by decide +kernel
theorem u_117_0 {a : Nat} {lv : am_L} {st : List Value} : am_W G (am_M G d) 117 K 0 (some (.ref a) :: lv) st h nc ns = (am_W G (am_M G d) 117 K 1 (some (.ref a) :: lv) (.ref a :: st) h nc ns) := am_u e_117_0
theorem e_117_1 : pg_code 117 1 = some (.iload_n 1, 1, 0, 0) := by decide +kernel
theorem u_117_1 {a : Int32} {z0 : Option Value} {lv : am_L} {st : List Value} : am_W G (am_M G d) 117 K 1 (z0 :: some (.int a) :: lv) st h nc ns = (am_W G (am_M G d) 117 K 2 (z0 :: some (.int a) :: lv) (.int a :: st) h nc ns) := am_u e_117_1
theorem e_117_2 : pg_code 117 2 = some (.iconst 0, 1, 0, 0) := by decide +kernel
theorem u_117_2 {lv : am_L} {st : List Value} : am_W G (am_M G d) 117 K 2 lv st h nc ns = (am_W G (am_M G d) 117 K 3 lv (.int 0 :: st) h nc ns) := am_u e_117_2
theorem e_117_3 : pg_code 117 3 = some (.aload_n 0, 1, 0, 0) := by decide +kernel
theorem u_117_3 {a : Nat} {lv : am_L} {st : List Value} : am_W G (am_M G d) 117 K 3 (some (.ref a) :: lv) st h nc ns = (am_W G (am_M G d) 117 K 4 (some (.ref a) :: lv) (.ref a :: st) h nc ns) := am_u e_117_3
theorem e_117_4 : pg_code 117 4 = some (.getfield 175, 3, 7, 3) := by decide +kernel
theorem u_117_4 {a : Nat} {lv : am_L} {st : List Value} : am_W G (am_M G d) 117 K 4 lv (.ref a :: st) h nc ns = (f_gf G d 117 K 7 lv st h nc ns (h a) 7 3) := am_u e_117_4
theorem e_117_7 : pg_code 117 7 = some (.iconst 1, 1, 0, 0) := by decide +kernel
theorem u_117_7 {lv : am_L} {st : List Value} : am_W G (am_M G d) 117 K 7 lv st h nc ns = (am_W G (am_M G d) 117 K 8 lv (.int 1 :: st) h nc ns) := am_u e_117_7
theorem e_117_8 : pg_code 117 8 = some (.isub, 1, 0, 0) := by decide +kernel
theorem u_117_8 {a b : Int32} {lv : am_L} {st : List Value} : am_W G (am_M G d) 117 K 8 lv (.int b :: .int a :: st) h nc ns = (am_W G (am_M G d) 117 K 9 lv (.int (a - b) :: st) h nc ns) := am_u e_117_8
theorem e_117_9 : pg_code 117 9 = some (.invokestatic 108, 3, 88, 3) := by decide +kernel
theorem u_117_9 {v0 v1 v2 : Value} {lv : am_L} {st : List Value} : am_W G (am_M G d) 117 K 9 lv (v2 :: v1 :: v0 :: st) h nc ns = ((am_words st ≤ 8 ∧ nc + 0 ≤ 0 ∧ ns + 0 ≤ 0) ∧ am_M G d 88 [v0, v1, v2] h (am_back 117 K (am_W G (am_M G d) 117 K) 88 9 lv st nc ns)) := (am_u e_117_9).trans (f_st_eq (G := G) (d := d) (k := 117) (K := K) (pc := 9) (lv := lv) (st := st) (h := h) (nc := nc) (ns := ns) (x := 88) (X := am_W G (am_M G d) 117 K) [v0, v1, v2] (by decide) rfl)
theorem e_117_12 : pg_code 117 12 = some (.ifCond .eq 7, 3, 19, 0) := by decide +kernel
theorem u_117_12 {a : Int32} {lv : am_L} {st : List Value} : am_W G (am_M G d) 117 K 12 lv (.int a :: st) h nc ns = (am_br (a = 0) (am_W G (am_M G d) 117 K 19 lv st h nc ns) (am_W G (am_M G d) 117 K 15 lv st h nc ns)) := am_u e_117_12
theorem e_117_15 : pg_code 117 15 = some (.iconst 0, 1, 0, 0) := by decide +kernel
theorem u_117_15 {lv : am_L} {st : List Value} : am_W G (am_M G d) 117 K 15 lv st h nc ns = (am_W G (am_M G d) 117 K 16 lv (.int 0 :: st) h nc ns) := am_u e_117_15
theorem e_117_16 : pg_code 117 16 = some (.goto 4, 3, 20, 0) := by decide +kernel
theorem u_117_16 {lv : am_L} {st : List Value} : am_W G (am_M G d) 117 K 16 lv st h nc ns = (am_W G (am_M G d) 117 K 20 lv st h nc ns) := am_u e_117_16
theorem e_117_19 : pg_code 117 19 = some (.iconst 1, 1, 0, 0) := by decide +kernel
theorem u_117_19 {lv : am_L} {st : List Value} : am_W G (am_M G d) 117 K 19 lv st h nc ns = (am_W G (am_M G d) 117 K 20 lv (.int 1 :: st) h nc ns) := am_u e_117_19
theorem e_117_20 : pg_code 117 20 = some (.putfield 90, 3, 7, 0) := by decide +kernel
theorem u_117_20 {a : Nat} {b : Int32} {lv : am_L} {st : List Value} : am_W G (am_M G d) 117 K 20 lv (.int b :: .ref a :: st) h nc ns = (f_pf G d 117 K 23 lv st h nc ns (h a) 7 0 a (.int b)) := (am_u e_117_20).trans (f_pf_eq ⟨rfl, rfl⟩)
theorem e_117_23 : pg_code 117 23 = some (.aload_n 0, 1, 0, 0) := by decide +kernel
theorem u_117_23 {a : Nat} {lv : am_L} {st : List Value} : am_W G (am_M G d) 117 K 23 (some (.ref a) :: lv) st h nc ns = (am_W G (am_M G d) 117 K 24 (some (.ref a) :: lv) (.ref a :: st) h nc ns) := am_u e_117_23
theorem e_117_24 : pg_code 117 24 = some (.getfield 90, 3, 7, 0) := by decide +kernel
theorem u_117_24 {a : Nat} {lv : am_L} {st : List Value} : am_W G (am_M G d) 117 K 24 lv (.ref a :: st) h nc ns = (f_gf G d 117 K 27 lv st h nc ns (h a) 7 0) := am_u e_117_24
theorem e_117_27 : pg_code 117 27 = some (.ifCond .ne 7, 3, 34, 0) := by decide +kernel
theorem u_117_27 {a : Int32} {lv : am_L} {st : List Value} : am_W G (am_M G d) 117 K 27 lv (.int a :: st) h nc ns = (am_br (¬ a = 0) (am_W G (am_M G d) 117 K 34 lv st h nc ns) (am_W G (am_M G d) 117 K 30 lv st h nc ns)) := am_u e_117_27
theorem e_117_30 : pg_code 117 30 = some (.iconst 1, 1, 0, 0) := by decide +kernel
theorem u_117_30 {lv : am_L} {st : List Value} : am_W G (am_M G d) 117 K 30 lv st h nc ns = (am_W G (am_M G d) 117 K 31 lv (.int 1 :: st) h nc ns) := am_u e_117_30
theorem e_117_31 : pg_code 117 31 = some (.goto 4, 3, 35, 0) := by decide +kernel
theorem u_117_31 {lv : am_L} {st : List Value} : am_W G (am_M G d) 117 K 31 lv st h nc ns = (am_W G (am_M G d) 117 K 35 lv st h nc ns) := am_u e_117_31
theorem e_117_34 : pg_code 117 34 = some (.iconst 0, 1, 0, 0) := by decide +kernel
theorem u_117_34 {lv : am_L} {st : List Value} : am_W G (am_M G d) 117 K 34 lv st h nc ns = (am_W G (am_M G d) 117 K 35 lv (.int 0 :: st) h nc ns) := am_u e_117_34
theorem e_117_35 : pg_code 117 35 = some (.ireturn, 1, 0, 0) := by decide +kernel
theorem u_117_35 {a : Int32} {lv : am_L} : am_W G (am_M G d) 117 K 35 lv [.int a] h nc ns = (narrow .boolean (.int a) = .int a ∧ K (.inl (some (.int a))) h) := (am_u e_117_35).trans (f_z_eq rfl)
theorem e_118_0 : pg_code 118 0 = some (.iload_n 2, 1, 0, 0) := by decide +kernel
theorem u_118_0 {a : Int32} {z0 : Option Value} {z1 : Option Value} {lv : am_L} {st : List Value} : am_W G (am_M G d) 118 K 0 (z0 :: z1 :: some (.int a) :: lv) st h nc ns = (am_W G (am_M G d) 118 K 1 (z0 :: z1 :: some (.int a) :: lv) (.int a :: st) h nc ns) := am_u e_118_0
theorem e_118_1 : pg_code 118 1 = some (.invokestatic 116, 3, 91, 1) := by decide +kernel
theorem u_118_1 {v0 : Value} {lv : am_L} {st : List Value} : am_W G (am_M G d) 118 K 1 lv (v0 :: st) h nc ns = ((am_words st ≤ 8 ∧ nc + 0 ≤ 0 ∧ ns + 0 ≤ 0) ∧ am_M G d 91 [v0] h (am_back 118 K (am_W G (am_M G d) 118 K) 91 1 lv st nc ns)) := (am_u e_118_1).trans (f_st_eq (G := G) (d := d) (k := 118) (K := K) (pc := 1) (lv := lv) (st := st) (h := h) (nc := nc) (ns := ns) (x := 91) (X := am_W G (am_M G d) 118 K) [v0] (by decide) rfl)
theorem e_118_4 : pg_code 118 4 = some (.istore_n 3, 1, 0, 0) := by decide +kernel
theorem u_118_4 {a : Int32} {lv : am_L} {st : List Value} : am_W G (am_M G d) 118 K 4 lv (.int a :: st) h nc ns = (am_W G (am_M G d) 118 K 5 (am_st1 lv 3 (.int a)) st h nc ns) := (am_u e_118_4).trans (f_t (by decide +kernel))
theorem e_118_5 : pg_code 118 5 = some (.aload_n 0, 1, 0, 0) := by decide +kernel
theorem u_118_5 {a : Nat} {lv : am_L} {st : List Value} : am_W G (am_M G d) 118 K 5 (some (.ref a) :: lv) st h nc ns = (am_W G (am_M G d) 118 K 6 (some (.ref a) :: lv) (.ref a :: st) h nc ns) := am_u e_118_5
theorem e_118_6 : pg_code 118 6 = some (.getfield 7, 3, 7, 4) := by decide +kernel
theorem u_118_6 {a : Nat} {lv : am_L} {st : List Value} : am_W G (am_M G d) 118 K 6 lv (.ref a :: st) h nc ns = (f_gf G d 118 K 9 lv st h nc ns (h a) 7 4) := am_u e_118_6
theorem e_118_9 : pg_code 118 9 = some (.iload_n 3, 1, 0, 0) := by decide +kernel
theorem u_118_9 {a : Int32} {z0 : Option Value} {z1 : Option Value} {z2 : Option Value} {lv : am_L} {st : List Value} : am_W G (am_M G d) 118 K 9 (z0 :: z1 :: z2 :: some (.int a) :: lv) st h nc ns = (am_W G (am_M G d) 118 K 10 (z0 :: z1 :: z2 :: some (.int a) :: lv) (.int a :: st) h nc ns) := am_u e_118_9
theorem e_118_10 : pg_code 118 10 = some (.iaload, 1, 0, 0) := by decide +kernel
theorem u_118_10 {a : Nat} {j : Int32} {lv : am_L} {st : List Value} : am_W G (am_M G d) 118 K 10 lv (.int j :: .ref a :: st) h nc ns = (f_ia G d 118 K 11 lv st h nc ns (h a) .int j) := am_u e_118_10
theorem e_118_11 : pg_code 118 11 = some (.aload_n 0, 1, 0, 0) := by decide +kernel
theorem u_118_11 {a : Nat} {lv : am_L} {st : List Value} : am_W G (am_M G d) 118 K 11 (some (.ref a) :: lv) st h nc ns = (am_W G (am_M G d) 118 K 12 (some (.ref a) :: lv) (.ref a :: st) h nc ns) := am_u e_118_11
theorem e_118_12 : pg_code 118 12 = some (.getfield 66, 3, 7, 23) := by decide +kernel
theorem u_118_12 {a : Nat} {lv : am_L} {st : List Value} : am_W G (am_M G d) 118 K 12 lv (.ref a :: st) h nc ns = (f_gf G d 118 K 15 lv st h nc ns (h a) 7 23) := am_u e_118_12
theorem e_118_15 : pg_code 118 15 = some (.iload_n 1, 1, 0, 0) := by decide +kernel
theorem u_118_15 {a : Int32} {z0 : Option Value} {lv : am_L} {st : List Value} : am_W G (am_M G d) 118 K 15 (z0 :: some (.int a) :: lv) st h nc ns = (am_W G (am_M G d) 118 K 16 (z0 :: some (.int a) :: lv) (.int a :: st) h nc ns) := am_u e_118_15
theorem e_118_16 : pg_code 118 16 = some (.iaload, 1, 0, 0) := by decide +kernel
theorem u_118_16 {a : Nat} {j : Int32} {lv : am_L} {st : List Value} : am_W G (am_M G d) 118 K 16 lv (.int j :: .ref a :: st) h nc ns = (f_ia G d 118 K 17 lv st h nc ns (h a) .int j) := am_u e_118_16
theorem e_118_17 : pg_code 118 17 = some (.if_icmp .ne 37, 3, 54, 0) := by decide +kernel
theorem u_118_17 {a b : Int32} {lv : am_L} {st : List Value} : am_W G (am_M G d) 118 K 17 lv (.int b :: .int a :: st) h nc ns = (am_br (¬ a = b) (am_W G (am_M G d) 118 K 54 lv st h nc ns) (am_W G (am_M G d) 118 K 20 lv st h nc ns)) := am_u e_118_17
theorem e_118_20 : pg_code 118 20 = some (.aload_n 0, 1, 0, 0) := by decide +kernel
theorem u_118_20 {a : Nat} {lv : am_L} {st : List Value} : am_W G (am_M G d) 118 K 20 (some (.ref a) :: lv) st h nc ns = (am_W G (am_M G d) 118 K 21 (some (.ref a) :: lv) (.ref a :: st) h nc ns) := am_u e_118_20
theorem e_118_21 : pg_code 118 21 = some (.getfield 13, 3, 7, 5) := by decide +kernel
theorem u_118_21 {a : Nat} {lv : am_L} {st : List Value} : am_W G (am_M G d) 118 K 21 lv (.ref a :: st) h nc ns = (f_gf G d 118 K 24 lv st h nc ns (h a) 7 5) := am_u e_118_21
theorem e_118_24 : pg_code 118 24 = some (.iload_n 3, 1, 0, 0) := by decide +kernel
theorem u_118_24 {a : Int32} {z0 : Option Value} {z1 : Option Value} {z2 : Option Value} {lv : am_L} {st : List Value} : am_W G (am_M G d) 118 K 24 (z0 :: z1 :: z2 :: some (.int a) :: lv) st h nc ns = (am_W G (am_M G d) 118 K 25 (z0 :: z1 :: z2 :: some (.int a) :: lv) (.int a :: st) h nc ns) := am_u e_118_24
theorem e_118_25 : pg_code 118 25 = some (.iaload, 1, 0, 0) := by decide +kernel
theorem u_118_25 {a : Nat} {j : Int32} {lv : am_L} {st : List Value} : am_W G (am_M G d) 118 K 25 lv (.int j :: .ref a :: st) h nc ns = (f_ia G d 118 K 26 lv st h nc ns (h a) .int j) := am_u e_118_25
theorem e_118_26 : pg_code 118 26 = some (.aload_n 0, 1, 0, 0) := by decide +kernel
theorem u_118_26 {a : Nat} {lv : am_L} {st : List Value} : am_W G (am_M G d) 118 K 26 (some (.ref a) :: lv) st h nc ns = (am_W G (am_M G d) 118 K 27 (some (.ref a) :: lv) (.ref a :: st) h nc ns) := am_u e_118_26
theorem e_118_27 : pg_code 118 27 = some (.getfield 69, 3, 7, 24) := by decide +kernel
theorem u_118_27 {a : Nat} {lv : am_L} {st : List Value} : am_W G (am_M G d) 118 K 27 lv (.ref a :: st) h nc ns = (f_gf G d 118 K 30 lv st h nc ns (h a) 7 24) := am_u e_118_27
theorem e_118_30 : pg_code 118 30 = some (.iload_n 1, 1, 0, 0) := by decide +kernel
theorem u_118_30 {a : Int32} {z0 : Option Value} {lv : am_L} {st : List Value} : am_W G (am_M G d) 118 K 30 (z0 :: some (.int a) :: lv) st h nc ns = (am_W G (am_M G d) 118 K 31 (z0 :: some (.int a) :: lv) (.int a :: st) h nc ns) := am_u e_118_30
theorem e_118_31 : pg_code 118 31 = some (.iaload, 1, 0, 0) := by decide +kernel
theorem u_118_31 {a : Nat} {j : Int32} {lv : am_L} {st : List Value} : am_W G (am_M G d) 118 K 31 lv (.int j :: .ref a :: st) h nc ns = (f_ia G d 118 K 32 lv st h nc ns (h a) .int j) := am_u e_118_31
theorem e_118_32 : pg_code 118 32 = some (.if_icmp .ne 22, 3, 54, 0) := by decide +kernel
theorem u_118_32 {a b : Int32} {lv : am_L} {st : List Value} : am_W G (am_M G d) 118 K 32 lv (.int b :: .int a :: st) h nc ns = (am_br (¬ a = b) (am_W G (am_M G d) 118 K 54 lv st h nc ns) (am_W G (am_M G d) 118 K 35 lv st h nc ns)) := am_u e_118_32
theorem e_118_35 : pg_code 118 35 = some (.aload_n 0, 1, 0, 0) := by decide +kernel
theorem u_118_35 {a : Nat} {lv : am_L} {st : List Value} : am_W G (am_M G d) 118 K 35 (some (.ref a) :: lv) st h nc ns = (am_W G (am_M G d) 118 K 36 (some (.ref a) :: lv) (.ref a :: st) h nc ns) := am_u e_118_35
theorem e_118_36 : pg_code 118 36 = some (.getfield 16, 3, 7, 6) := by decide +kernel
theorem u_118_36 {a : Nat} {lv : am_L} {st : List Value} : am_W G (am_M G d) 118 K 36 lv (.ref a :: st) h nc ns = (f_gf G d 118 K 39 lv st h nc ns (h a) 7 6) := am_u e_118_36
theorem e_118_39 : pg_code 118 39 = some (.iload_n 3, 1, 0, 0) := by decide +kernel
theorem u_118_39 {a : Int32} {z0 : Option Value} {z1 : Option Value} {z2 : Option Value} {lv : am_L} {st : List Value} : am_W G (am_M G d) 118 K 39 (z0 :: z1 :: z2 :: some (.int a) :: lv) st h nc ns = (am_W G (am_M G d) 118 K 40 (z0 :: z1 :: z2 :: some (.int a) :: lv) (.int a :: st) h nc ns) := am_u e_118_39
theorem e_118_40 : pg_code 118 40 = some (.iaload, 1, 0, 0) := by decide +kernel
theorem u_118_40 {a : Nat} {j : Int32} {lv : am_L} {st : List Value} : am_W G (am_M G d) 118 K 40 lv (.int j :: .ref a :: st) h nc ns = (f_ia G d 118 K 41 lv st h nc ns (h a) .int j) := am_u e_118_40
theorem e_118_41 : pg_code 118 41 = some (.aload_n 0, 1, 0, 0) := by decide +kernel
theorem u_118_41 {a : Nat} {lv : am_L} {st : List Value} : am_W G (am_M G d) 118 K 41 (some (.ref a) :: lv) st h nc ns = (am_W G (am_M G d) 118 K 42 (some (.ref a) :: lv) (.ref a :: st) h nc ns) := am_u e_118_41
theorem e_118_42 : pg_code 118 42 = some (.getfield 72, 3, 7, 25) := by decide +kernel
theorem u_118_42 {a : Nat} {lv : am_L} {st : List Value} : am_W G (am_M G d) 118 K 42 lv (.ref a :: st) h nc ns = (f_gf G d 118 K 45 lv st h nc ns (h a) 7 25) := am_u e_118_42
theorem e_118_45 : pg_code 118 45 = some (.iload_n 1, 1, 0, 0) := by decide +kernel
theorem u_118_45 {a : Int32} {z0 : Option Value} {lv : am_L} {st : List Value} : am_W G (am_M G d) 118 K 45 (z0 :: some (.int a) :: lv) st h nc ns = (am_W G (am_M G d) 118 K 46 (z0 :: some (.int a) :: lv) (.int a :: st) h nc ns) := am_u e_118_45
theorem e_118_46 : pg_code 118 46 = some (.iaload, 1, 0, 0) := by decide +kernel
theorem u_118_46 {a : Nat} {j : Int32} {lv : am_L} {st : List Value} : am_W G (am_M G d) 118 K 46 lv (.int j :: .ref a :: st) h nc ns = (f_ia G d 118 K 47 lv st h nc ns (h a) .int j) := am_u e_118_46
theorem e_118_47 : pg_code 118 47 = some (.if_icmp .ne 7, 3, 54, 0) := by decide +kernel
theorem u_118_47 {a b : Int32} {lv : am_L} {st : List Value} : am_W G (am_M G d) 118 K 47 lv (.int b :: .int a :: st) h nc ns = (am_br (¬ a = b) (am_W G (am_M G d) 118 K 54 lv st h nc ns) (am_W G (am_M G d) 118 K 50 lv st h nc ns)) := am_u e_118_47
theorem e_118_50 : pg_code 118 50 = some (.iconst 1, 1, 0, 0) := by decide +kernel
theorem u_118_50 {lv : am_L} {st : List Value} : am_W G (am_M G d) 118 K 50 lv st h nc ns = (am_W G (am_M G d) 118 K 51 lv (.int 1 :: st) h nc ns) := am_u e_118_50
theorem e_118_51 : pg_code 118 51 = some (.goto 4, 3, 55, 0) := by decide +kernel
theorem u_118_51 {lv : am_L} {st : List Value} : am_W G (am_M G d) 118 K 51 lv st h nc ns = (am_W G (am_M G d) 118 K 55 lv st h nc ns) := am_u e_118_51
theorem e_118_54 : pg_code 118 54 = some (.iconst 0, 1, 0, 0) := by decide +kernel
theorem u_118_54 {lv : am_L} {st : List Value} : am_W G (am_M G d) 118 K 54 lv st h nc ns = (am_W G (am_M G d) 118 K 55 lv (.int 0 :: st) h nc ns) := am_u e_118_54
theorem e_118_55 : pg_code 118 55 = some (.istore 4, 2, 0, 0) := by decide +kernel
theorem u_118_55 {a : Int32} {lv : am_L} {st : List Value} : am_W G (am_M G d) 118 K 55 lv (.int a :: st) h nc ns = (am_W G (am_M G d) 118 K 57 (am_st1 lv 4 (.int a)) st h nc ns) := (am_u e_118_55).trans (f_t (by decide +kernel))
theorem e_118_57 : pg_code 118 57 = some (.aload_n 0, 1, 0, 0) := by decide +kernel
theorem u_118_57 {a : Nat} {lv : am_L} {st : List Value} : am_W G (am_M G d) 118 K 57 (some (.ref a) :: lv) st h nc ns = (am_W G (am_M G d) 118 K 58 (some (.ref a) :: lv) (.ref a :: st) h nc ns) := am_u e_118_57
theorem e_118_58 : pg_code 118 58 = some (.getfield 7, 3, 7, 4) := by decide +kernel
theorem u_118_58 {a : Nat} {lv : am_L} {st : List Value} : am_W G (am_M G d) 118 K 58 lv (.ref a :: st) h nc ns = (f_gf G d 118 K 61 lv st h nc ns (h a) 7 4) := am_u e_118_58
theorem e_118_61 : pg_code 118 61 = some (.iload_n 3, 1, 0, 0) := by decide +kernel
theorem u_118_61 {a : Int32} {z0 : Option Value} {z1 : Option Value} {z2 : Option Value} {lv : am_L} {st : List Value} : am_W G (am_M G d) 118 K 61 (z0 :: z1 :: z2 :: some (.int a) :: lv) st h nc ns = (am_W G (am_M G d) 118 K 62 (z0 :: z1 :: z2 :: some (.int a) :: lv) (.int a :: st) h nc ns) := am_u e_118_61
theorem e_118_62 : pg_code 118 62 = some (.iaload, 1, 0, 0) := by decide +kernel
theorem u_118_62 {a : Nat} {j : Int32} {lv : am_L} {st : List Value} : am_W G (am_M G d) 118 K 62 lv (.int j :: .ref a :: st) h nc ns = (f_ia G d 118 K 63 lv st h nc ns (h a) .int j) := am_u e_118_62
theorem e_118_63 : pg_code 118 63 = some (.aload_n 0, 1, 0, 0) := by decide +kernel
theorem u_118_63 {a : Nat} {lv : am_L} {st : List Value} : am_W G (am_M G d) 118 K 63 (some (.ref a) :: lv) st h nc ns = (am_W G (am_M G d) 118 K 64 (some (.ref a) :: lv) (.ref a :: st) h nc ns) := am_u e_118_63
theorem e_118_64 : pg_code 118 64 = some (.getfield 57, 3, 7, 20) := by decide +kernel
theorem u_118_64 {a : Nat} {lv : am_L} {st : List Value} : am_W G (am_M G d) 118 K 64 lv (.ref a :: st) h nc ns = (f_gf G d 118 K 67 lv st h nc ns (h a) 7 20) := am_u e_118_64
theorem e_118_67 : pg_code 118 67 = some (.iload_n 1, 1, 0, 0) := by decide +kernel
theorem u_118_67 {a : Int32} {z0 : Option Value} {lv : am_L} {st : List Value} : am_W G (am_M G d) 118 K 67 (z0 :: some (.int a) :: lv) st h nc ns = (am_W G (am_M G d) 118 K 68 (z0 :: some (.int a) :: lv) (.int a :: st) h nc ns) := am_u e_118_67
theorem e_118_68 : pg_code 118 68 = some (.iaload, 1, 0, 0) := by decide +kernel
theorem u_118_68 {a : Nat} {j : Int32} {lv : am_L} {st : List Value} : am_W G (am_M G d) 118 K 68 lv (.int j :: .ref a :: st) h nc ns = (f_ia G d 118 K 69 lv st h nc ns (h a) .int j) := am_u e_118_68
theorem e_118_69 : pg_code 118 69 = some (.if_icmp .ne 37, 3, 106, 0) := by decide +kernel
theorem u_118_69 {a b : Int32} {lv : am_L} {st : List Value} : am_W G (am_M G d) 118 K 69 lv (.int b :: .int a :: st) h nc ns = (am_br (¬ a = b) (am_W G (am_M G d) 118 K 106 lv st h nc ns) (am_W G (am_M G d) 118 K 72 lv st h nc ns)) := am_u e_118_69
theorem e_118_72 : pg_code 118 72 = some (.aload_n 0, 1, 0, 0) := by decide +kernel
theorem u_118_72 {a : Nat} {lv : am_L} {st : List Value} : am_W G (am_M G d) 118 K 72 (some (.ref a) :: lv) st h nc ns = (am_W G (am_M G d) 118 K 73 (some (.ref a) :: lv) (.ref a :: st) h nc ns) := am_u e_118_72
theorem e_118_73 : pg_code 118 73 = some (.getfield 13, 3, 7, 5) := by decide +kernel
theorem u_118_73 {a : Nat} {lv : am_L} {st : List Value} : am_W G (am_M G d) 118 K 73 lv (.ref a :: st) h nc ns = (f_gf G d 118 K 76 lv st h nc ns (h a) 7 5) := am_u e_118_73
theorem e_118_76 : pg_code 118 76 = some (.iload_n 3, 1, 0, 0) := by decide +kernel
theorem u_118_76 {a : Int32} {z0 : Option Value} {z1 : Option Value} {z2 : Option Value} {lv : am_L} {st : List Value} : am_W G (am_M G d) 118 K 76 (z0 :: z1 :: z2 :: some (.int a) :: lv) st h nc ns = (am_W G (am_M G d) 118 K 77 (z0 :: z1 :: z2 :: some (.int a) :: lv) (.int a :: st) h nc ns) := am_u e_118_76
theorem e_118_77 : pg_code 118 77 = some (.iaload, 1, 0, 0) := by decide +kernel
theorem u_118_77 {a : Nat} {j : Int32} {lv : am_L} {st : List Value} : am_W G (am_M G d) 118 K 77 lv (.int j :: .ref a :: st) h nc ns = (f_ia G d 118 K 78 lv st h nc ns (h a) .int j) := am_u e_118_77
theorem e_118_78 : pg_code 118 78 = some (.aload_n 0, 1, 0, 0) := by decide +kernel
theorem u_118_78 {a : Nat} {lv : am_L} {st : List Value} : am_W G (am_M G d) 118 K 78 (some (.ref a) :: lv) st h nc ns = (am_W G (am_M G d) 118 K 79 (some (.ref a) :: lv) (.ref a :: st) h nc ns) := am_u e_118_78
theorem e_118_79 : pg_code 118 79 = some (.getfield 60, 3, 7, 21) := by decide +kernel
theorem u_118_79 {a : Nat} {lv : am_L} {st : List Value} : am_W G (am_M G d) 118 K 79 lv (.ref a :: st) h nc ns = (f_gf G d 118 K 82 lv st h nc ns (h a) 7 21) := am_u e_118_79
theorem e_118_82 : pg_code 118 82 = some (.iload_n 1, 1, 0, 0) := by decide +kernel
theorem u_118_82 {a : Int32} {z0 : Option Value} {lv : am_L} {st : List Value} : am_W G (am_M G d) 118 K 82 (z0 :: some (.int a) :: lv) st h nc ns = (am_W G (am_M G d) 118 K 83 (z0 :: some (.int a) :: lv) (.int a :: st) h nc ns) := am_u e_118_82
theorem e_118_83 : pg_code 118 83 = some (.iaload, 1, 0, 0) := by decide +kernel
theorem u_118_83 {a : Nat} {j : Int32} {lv : am_L} {st : List Value} : am_W G (am_M G d) 118 K 83 lv (.int j :: .ref a :: st) h nc ns = (f_ia G d 118 K 84 lv st h nc ns (h a) .int j) := am_u e_118_83
theorem e_118_84 : pg_code 118 84 = some (.if_icmp .ne 22, 3, 106, 0) := by decide +kernel
theorem u_118_84 {a b : Int32} {lv : am_L} {st : List Value} : am_W G (am_M G d) 118 K 84 lv (.int b :: .int a :: st) h nc ns = (am_br (¬ a = b) (am_W G (am_M G d) 118 K 106 lv st h nc ns) (am_W G (am_M G d) 118 K 87 lv st h nc ns)) := am_u e_118_84
theorem e_118_87 : pg_code 118 87 = some (.aload_n 0, 1, 0, 0) := by decide +kernel
theorem u_118_87 {a : Nat} {lv : am_L} {st : List Value} : am_W G (am_M G d) 118 K 87 (some (.ref a) :: lv) st h nc ns = (am_W G (am_M G d) 118 K 88 (some (.ref a) :: lv) (.ref a :: st) h nc ns) := am_u e_118_87
theorem e_118_88 : pg_code 118 88 = some (.getfield 16, 3, 7, 6) := by decide +kernel
theorem u_118_88 {a : Nat} {lv : am_L} {st : List Value} : am_W G (am_M G d) 118 K 88 lv (.ref a :: st) h nc ns = (f_gf G d 118 K 91 lv st h nc ns (h a) 7 6) := am_u e_118_88
theorem e_118_91 : pg_code 118 91 = some (.iload_n 3, 1, 0, 0) := by decide +kernel
theorem u_118_91 {a : Int32} {z0 : Option Value} {z1 : Option Value} {z2 : Option Value} {lv : am_L} {st : List Value} : am_W G (am_M G d) 118 K 91 (z0 :: z1 :: z2 :: some (.int a) :: lv) st h nc ns = (am_W G (am_M G d) 118 K 92 (z0 :: z1 :: z2 :: some (.int a) :: lv) (.int a :: st) h nc ns) := am_u e_118_91
theorem e_118_92 : pg_code 118 92 = some (.iaload, 1, 0, 0) := by decide +kernel
theorem u_118_92 {a : Nat} {j : Int32} {lv : am_L} {st : List Value} : am_W G (am_M G d) 118 K 92 lv (.int j :: .ref a :: st) h nc ns = (f_ia G d 118 K 93 lv st h nc ns (h a) .int j) := am_u e_118_92
theorem e_118_93 : pg_code 118 93 = some (.aload_n 0, 1, 0, 0) := by decide +kernel
theorem u_118_93 {a : Nat} {lv : am_L} {st : List Value} : am_W G (am_M G d) 118 K 93 (some (.ref a) :: lv) st h nc ns = (am_W G (am_M G d) 118 K 94 (some (.ref a) :: lv) (.ref a :: st) h nc ns) := am_u e_118_93
theorem e_118_94 : pg_code 118 94 = some (.getfield 63, 3, 7, 22) := by decide +kernel
theorem u_118_94 {a : Nat} {lv : am_L} {st : List Value} : am_W G (am_M G d) 118 K 94 lv (.ref a :: st) h nc ns = (f_gf G d 118 K 97 lv st h nc ns (h a) 7 22) := am_u e_118_94
theorem e_118_97 : pg_code 118 97 = some (.iload_n 1, 1, 0, 0) := by decide +kernel
theorem u_118_97 {a : Int32} {z0 : Option Value} {lv : am_L} {st : List Value} : am_W G (am_M G d) 118 K 97 (z0 :: some (.int a) :: lv) st h nc ns = (am_W G (am_M G d) 118 K 98 (z0 :: some (.int a) :: lv) (.int a :: st) h nc ns) := am_u e_118_97
theorem e_118_98 : pg_code 118 98 = some (.iaload, 1, 0, 0) := by decide +kernel
theorem u_118_98 {a : Nat} {j : Int32} {lv : am_L} {st : List Value} : am_W G (am_M G d) 118 K 98 lv (.int j :: .ref a :: st) h nc ns = (f_ia G d 118 K 99 lv st h nc ns (h a) .int j) := am_u e_118_98
theorem e_118_99 : pg_code 118 99 = some (.if_icmp .ne 7, 3, 106, 0) := by decide +kernel
theorem u_118_99 {a b : Int32} {lv : am_L} {st : List Value} : am_W G (am_M G d) 118 K 99 lv (.int b :: .int a :: st) h nc ns = (am_br (¬ a = b) (am_W G (am_M G d) 118 K 106 lv st h nc ns) (am_W G (am_M G d) 118 K 102 lv st h nc ns)) := am_u e_118_99
theorem e_118_102 : pg_code 118 102 = some (.iconst 1, 1, 0, 0) := by decide +kernel
theorem u_118_102 {lv : am_L} {st : List Value} : am_W G (am_M G d) 118 K 102 lv st h nc ns = (am_W G (am_M G d) 118 K 103 lv (.int 1 :: st) h nc ns) := am_u e_118_102
theorem e_118_103 : pg_code 118 103 = some (.goto 4, 3, 107, 0) := by decide +kernel
theorem u_118_103 {lv : am_L} {st : List Value} : am_W G (am_M G d) 118 K 103 lv st h nc ns = (am_W G (am_M G d) 118 K 107 lv st h nc ns) := am_u e_118_103
theorem e_118_106 : pg_code 118 106 = some (.iconst 0, 1, 0, 0) := by decide +kernel
theorem u_118_106 {lv : am_L} {st : List Value} : am_W G (am_M G d) 118 K 106 lv st h nc ns = (am_W G (am_M G d) 118 K 107 lv (.int 0 :: st) h nc ns) := am_u e_118_106
theorem e_118_107 : pg_code 118 107 = some (.istore 5, 2, 0, 0) := by decide +kernel
theorem u_118_107 {a : Int32} {lv : am_L} {st : List Value} : am_W G (am_M G d) 118 K 107 lv (.int a :: st) h nc ns = (am_W G (am_M G d) 118 K 109 (am_st1 lv 5 (.int a)) st h nc ns) := (am_u e_118_107).trans (f_t (by decide +kernel))
theorem e_118_109 : pg_code 118 109 = some (.aload_n 0, 1, 0, 0) := by decide +kernel
theorem u_118_109 {a : Nat} {lv : am_L} {st : List Value} : am_W G (am_M G d) 118 K 109 (some (.ref a) :: lv) st h nc ns = (am_W G (am_M G d) 118 K 110 (some (.ref a) :: lv) (.ref a :: st) h nc ns) := am_u e_118_109
theorem e_118_110 : pg_code 118 110 = some (.iload_n 1, 1, 0, 0) := by decide +kernel
theorem u_118_110 {a : Int32} {z0 : Option Value} {lv : am_L} {st : List Value} : am_W G (am_M G d) 118 K 110 (z0 :: some (.int a) :: lv) st h nc ns = (am_W G (am_M G d) 118 K 111 (z0 :: some (.int a) :: lv) (.int a :: st) h nc ns) := am_u e_118_110
theorem e_118_111 : pg_code 118 111 = some (.invokevirtual 181, 3, 119, 2) := by decide +kernel
theorem u_118_111 {a : Nat} {v0 : Value} {lv : am_L} {st : List Value} : am_W G (am_M G d) 118 K 111 lv (v0 :: .ref a :: st) h nc ns = ((am_words st ≤ 8 ∧ nc + 0 ≤ 0 ∧ ns + 0 ≤ 0 ∧ f_rc (h a) 7) ∧ am_M G d 119 [.ref a, v0] h (am_back 118 K (am_W G (am_M G d) 118 K) 119 111 lv st nc ns)) := (am_u e_118_111).trans (f_iv_eq (a := a) (G := G) (d := d) (k := 118) (K := K) (pc := 111) (lv := lv) (st := st) (h := h) (nc := nc) (ns := ns) (x := 119) (X := am_W G (am_M G d) 118 K) [v0] (by decide) rfl)
theorem e_118_114 : pg_code 118 114 = some (.ifCond .eq 17, 3, 131, 0) := by decide +kernel
theorem u_118_114 {a : Int32} {lv : am_L} {st : List Value} : am_W G (am_M G d) 118 K 114 lv (.int a :: st) h nc ns = (am_br (a = 0) (am_W G (am_M G d) 118 K 131 lv st h nc ns) (am_W G (am_M G d) 118 K 117 lv st h nc ns)) := am_u e_118_114
theorem e_118_117 : pg_code 118 117 = some (.iload 4, 2, 0, 0) := by decide +kernel
theorem u_118_117 {a : Int32} {z0 : Option Value} {z1 : Option Value} {z2 : Option Value} {z3 : Option Value} {lv : am_L} {st : List Value} : am_W G (am_M G d) 118 K 117 (z0 :: z1 :: z2 :: z3 :: some (.int a) :: lv) st h nc ns = (am_W G (am_M G d) 118 K 119 (z0 :: z1 :: z2 :: z3 :: some (.int a) :: lv) (.int a :: st) h nc ns) := am_u e_118_117
theorem e_118_119 : pg_code 118 119 = some (.ifCond .ne 12, 3, 131, 0) := by decide +kernel
theorem u_118_119 {a : Int32} {lv : am_L} {st : List Value} : am_W G (am_M G d) 118 K 119 lv (.int a :: st) h nc ns = (am_br (¬ a = 0) (am_W G (am_M G d) 118 K 131 lv st h nc ns) (am_W G (am_M G d) 118 K 122 lv st h nc ns)) := am_u e_118_119
theorem e_118_122 : pg_code 118 122 = some (.iload 5, 2, 0, 0) := by decide +kernel
theorem u_118_122 {a : Int32} {z0 : Option Value} {z1 : Option Value} {z2 : Option Value} {z3 : Option Value} {z4 : Option Value} {lv : am_L} {st : List Value} : am_W G (am_M G d) 118 K 122 (z0 :: z1 :: z2 :: z3 :: z4 :: some (.int a) :: lv) st h nc ns = (am_W G (am_M G d) 118 K 124 (z0 :: z1 :: z2 :: z3 :: z4 :: some (.int a) :: lv) (.int a :: st) h nc ns) := am_u e_118_122
theorem e_118_124 : pg_code 118 124 = some (.ifCond .ne 7, 3, 131, 0) := by decide +kernel
theorem u_118_124 {a : Int32} {lv : am_L} {st : List Value} : am_W G (am_M G d) 118 K 124 lv (.int a :: st) h nc ns = (am_br (¬ a = 0) (am_W G (am_M G d) 118 K 131 lv st h nc ns) (am_W G (am_M G d) 118 K 127 lv st h nc ns)) := am_u e_118_124
theorem e_118_127 : pg_code 118 127 = some (.iconst 1, 1, 0, 0) := by decide +kernel
theorem u_118_127 {lv : am_L} {st : List Value} : am_W G (am_M G d) 118 K 127 lv st h nc ns = (am_W G (am_M G d) 118 K 128 lv (.int 1 :: st) h nc ns) := am_u e_118_127
theorem e_118_128 : pg_code 118 128 = some (.goto 4, 3, 132, 0) := by decide +kernel
theorem u_118_128 {lv : am_L} {st : List Value} : am_W G (am_M G d) 118 K 128 lv st h nc ns = (am_W G (am_M G d) 118 K 132 lv st h nc ns) := am_u e_118_128
theorem e_118_131 : pg_code 118 131 = some (.iconst 0, 1, 0, 0) := by decide +kernel
theorem u_118_131 {lv : am_L} {st : List Value} : am_W G (am_M G d) 118 K 131 lv st h nc ns = (am_W G (am_M G d) 118 K 132 lv (.int 0 :: st) h nc ns) := am_u e_118_131
theorem e_118_132 : pg_code 118 132 = some (.ireturn, 1, 0, 0) := by decide +kernel
theorem u_118_132 {a : Int32} {lv : am_L} : am_W G (am_M G d) 118 K 132 lv [.int a] h nc ns = (narrow .boolean (.int a) = .int a ∧ K (.inl (some (.int a))) h) := (am_u e_118_132).trans (f_z_eq rfl)
theorem e_119_0 : pg_code 119 0 = some (.aload_n 0, 1, 0, 0) := by decide +kernel
theorem u_119_0 {a : Nat} {lv : am_L} {st : List Value} : am_W G (am_M G d) 119 K 0 (some (.ref a) :: lv) st h nc ns = (am_W G (am_M G d) 119 K 1 (some (.ref a) :: lv) (.ref a :: st) h nc ns) := am_u e_119_0
theorem e_119_1 : pg_code 119 1 = some (.getfield 57, 3, 7, 20) := by decide +kernel
theorem u_119_1 {a : Nat} {lv : am_L} {st : List Value} : am_W G (am_M G d) 119 K 1 lv (.ref a :: st) h nc ns = (f_gf G d 119 K 4 lv st h nc ns (h a) 7 20) := am_u e_119_1
theorem e_119_4 : pg_code 119 4 = some (.iload_n 1, 1, 0, 0) := by decide +kernel
theorem u_119_4 {a : Int32} {z0 : Option Value} {lv : am_L} {st : List Value} : am_W G (am_M G d) 119 K 4 (z0 :: some (.int a) :: lv) st h nc ns = (am_W G (am_M G d) 119 K 5 (z0 :: some (.int a) :: lv) (.int a :: st) h nc ns) := am_u e_119_4
theorem e_119_5 : pg_code 119 5 = some (.iaload, 1, 0, 0) := by decide +kernel
theorem u_119_5 {a : Nat} {j : Int32} {lv : am_L} {st : List Value} : am_W G (am_M G d) 119 K 5 lv (.int j :: .ref a :: st) h nc ns = (f_ia G d 119 K 6 lv st h nc ns (h a) .int j) := am_u e_119_5
theorem e_119_6 : pg_code 119 6 = some (.aload_n 0, 1, 0, 0) := by decide +kernel
theorem u_119_6 {a : Nat} {lv : am_L} {st : List Value} : am_W G (am_M G d) 119 K 6 (some (.ref a) :: lv) st h nc ns = (am_W G (am_M G d) 119 K 7 (some (.ref a) :: lv) (.ref a :: st) h nc ns) := am_u e_119_6
theorem e_119_7 : pg_code 119 7 = some (.getfield 66, 3, 7, 23) := by decide +kernel
theorem u_119_7 {a : Nat} {lv : am_L} {st : List Value} : am_W G (am_M G d) 119 K 7 lv (.ref a :: st) h nc ns = (f_gf G d 119 K 10 lv st h nc ns (h a) 7 23) := am_u e_119_7
theorem e_119_10 : pg_code 119 10 = some (.iload_n 1, 1, 0, 0) := by decide +kernel
theorem u_119_10 {a : Int32} {z0 : Option Value} {lv : am_L} {st : List Value} : am_W G (am_M G d) 119 K 10 (z0 :: some (.int a) :: lv) st h nc ns = (am_W G (am_M G d) 119 K 11 (z0 :: some (.int a) :: lv) (.int a :: st) h nc ns) := am_u e_119_10
theorem e_119_11 : pg_code 119 11 = some (.iaload, 1, 0, 0) := by decide +kernel
theorem u_119_11 {a : Nat} {j : Int32} {lv : am_L} {st : List Value} : am_W G (am_M G d) 119 K 11 lv (.int j :: .ref a :: st) h nc ns = (f_ia G d 119 K 12 lv st h nc ns (h a) .int j) := am_u e_119_11
theorem e_119_12 : pg_code 119 12 = some (.if_icmp .ne 33, 3, 45, 0) := by decide +kernel
theorem u_119_12 {a b : Int32} {lv : am_L} {st : List Value} : am_W G (am_M G d) 119 K 12 lv (.int b :: .int a :: st) h nc ns = (am_br (¬ a = b) (am_W G (am_M G d) 119 K 45 lv st h nc ns) (am_W G (am_M G d) 119 K 15 lv st h nc ns)) := am_u e_119_12
theorem e_119_15 : pg_code 119 15 = some (.aload_n 0, 1, 0, 0) := by decide +kernel
theorem u_119_15 {a : Nat} {lv : am_L} {st : List Value} : am_W G (am_M G d) 119 K 15 (some (.ref a) :: lv) st h nc ns = (am_W G (am_M G d) 119 K 16 (some (.ref a) :: lv) (.ref a :: st) h nc ns) := am_u e_119_15
theorem e_119_16 : pg_code 119 16 = some (.getfield 60, 3, 7, 21) := by decide +kernel
theorem u_119_16 {a : Nat} {lv : am_L} {st : List Value} : am_W G (am_M G d) 119 K 16 lv (.ref a :: st) h nc ns = (f_gf G d 119 K 19 lv st h nc ns (h a) 7 21) := am_u e_119_16
theorem e_119_19 : pg_code 119 19 = some (.iload_n 1, 1, 0, 0) := by decide +kernel
theorem u_119_19 {a : Int32} {z0 : Option Value} {lv : am_L} {st : List Value} : am_W G (am_M G d) 119 K 19 (z0 :: some (.int a) :: lv) st h nc ns = (am_W G (am_M G d) 119 K 20 (z0 :: some (.int a) :: lv) (.int a :: st) h nc ns) := am_u e_119_19
theorem e_119_20 : pg_code 119 20 = some (.iaload, 1, 0, 0) := by decide +kernel
theorem u_119_20 {a : Nat} {j : Int32} {lv : am_L} {st : List Value} : am_W G (am_M G d) 119 K 20 lv (.int j :: .ref a :: st) h nc ns = (f_ia G d 119 K 21 lv st h nc ns (h a) .int j) := am_u e_119_20
theorem e_119_21 : pg_code 119 21 = some (.aload_n 0, 1, 0, 0) := by decide +kernel
theorem u_119_21 {a : Nat} {lv : am_L} {st : List Value} : am_W G (am_M G d) 119 K 21 (some (.ref a) :: lv) st h nc ns = (am_W G (am_M G d) 119 K 22 (some (.ref a) :: lv) (.ref a :: st) h nc ns) := am_u e_119_21
theorem e_119_22 : pg_code 119 22 = some (.getfield 69, 3, 7, 24) := by decide +kernel
theorem u_119_22 {a : Nat} {lv : am_L} {st : List Value} : am_W G (am_M G d) 119 K 22 lv (.ref a :: st) h nc ns = (f_gf G d 119 K 25 lv st h nc ns (h a) 7 24) := am_u e_119_22
theorem e_119_25 : pg_code 119 25 = some (.iload_n 1, 1, 0, 0) := by decide +kernel
theorem u_119_25 {a : Int32} {z0 : Option Value} {lv : am_L} {st : List Value} : am_W G (am_M G d) 119 K 25 (z0 :: some (.int a) :: lv) st h nc ns = (am_W G (am_M G d) 119 K 26 (z0 :: some (.int a) :: lv) (.int a :: st) h nc ns) := am_u e_119_25
theorem e_119_26 : pg_code 119 26 = some (.iaload, 1, 0, 0) := by decide +kernel
theorem u_119_26 {a : Nat} {j : Int32} {lv : am_L} {st : List Value} : am_W G (am_M G d) 119 K 26 lv (.int j :: .ref a :: st) h nc ns = (f_ia G d 119 K 27 lv st h nc ns (h a) .int j) := am_u e_119_26
theorem e_119_27 : pg_code 119 27 = some (.if_icmp .ne 18, 3, 45, 0) := by decide +kernel
theorem u_119_27 {a b : Int32} {lv : am_L} {st : List Value} : am_W G (am_M G d) 119 K 27 lv (.int b :: .int a :: st) h nc ns = (am_br (¬ a = b) (am_W G (am_M G d) 119 K 45 lv st h nc ns) (am_W G (am_M G d) 119 K 30 lv st h nc ns)) := am_u e_119_27
theorem e_119_30 : pg_code 119 30 = some (.aload_n 0, 1, 0, 0) := by decide +kernel
theorem u_119_30 {a : Nat} {lv : am_L} {st : List Value} : am_W G (am_M G d) 119 K 30 (some (.ref a) :: lv) st h nc ns = (am_W G (am_M G d) 119 K 31 (some (.ref a) :: lv) (.ref a :: st) h nc ns) := am_u e_119_30
theorem e_119_31 : pg_code 119 31 = some (.getfield 63, 3, 7, 22) := by decide +kernel
theorem u_119_31 {a : Nat} {lv : am_L} {st : List Value} : am_W G (am_M G d) 119 K 31 lv (.ref a :: st) h nc ns = (f_gf G d 119 K 34 lv st h nc ns (h a) 7 22) := am_u e_119_31
theorem e_119_34 : pg_code 119 34 = some (.iload_n 1, 1, 0, 0) := by decide +kernel
theorem u_119_34 {a : Int32} {z0 : Option Value} {lv : am_L} {st : List Value} : am_W G (am_M G d) 119 K 34 (z0 :: some (.int a) :: lv) st h nc ns = (am_W G (am_M G d) 119 K 35 (z0 :: some (.int a) :: lv) (.int a :: st) h nc ns) := am_u e_119_34
theorem e_119_35 : pg_code 119 35 = some (.iaload, 1, 0, 0) := by decide +kernel
theorem u_119_35 {a : Nat} {j : Int32} {lv : am_L} {st : List Value} : am_W G (am_M G d) 119 K 35 lv (.int j :: .ref a :: st) h nc ns = (f_ia G d 119 K 36 lv st h nc ns (h a) .int j) := am_u e_119_35
theorem e_119_36 : pg_code 119 36 = some (.aload_n 0, 1, 0, 0) := by decide +kernel
theorem u_119_36 {a : Nat} {lv : am_L} {st : List Value} : am_W G (am_M G d) 119 K 36 (some (.ref a) :: lv) st h nc ns = (am_W G (am_M G d) 119 K 37 (some (.ref a) :: lv) (.ref a :: st) h nc ns) := am_u e_119_36
theorem e_119_37 : pg_code 119 37 = some (.getfield 72, 3, 7, 25) := by decide +kernel
theorem u_119_37 {a : Nat} {lv : am_L} {st : List Value} : am_W G (am_M G d) 119 K 37 lv (.ref a :: st) h nc ns = (f_gf G d 119 K 40 lv st h nc ns (h a) 7 25) := am_u e_119_37
theorem e_119_40 : pg_code 119 40 = some (.iload_n 1, 1, 0, 0) := by decide +kernel
theorem u_119_40 {a : Int32} {z0 : Option Value} {lv : am_L} {st : List Value} : am_W G (am_M G d) 119 K 40 (z0 :: some (.int a) :: lv) st h nc ns = (am_W G (am_M G d) 119 K 41 (z0 :: some (.int a) :: lv) (.int a :: st) h nc ns) := am_u e_119_40
theorem e_119_41 : pg_code 119 41 = some (.iaload, 1, 0, 0) := by decide +kernel
theorem u_119_41 {a : Nat} {j : Int32} {lv : am_L} {st : List Value} : am_W G (am_M G d) 119 K 41 lv (.int j :: .ref a :: st) h nc ns = (f_ia G d 119 K 42 lv st h nc ns (h a) .int j) := am_u e_119_41
theorem e_119_42 : pg_code 119 42 = some (.if_icmp .eq 7, 3, 49, 0) := by decide +kernel
theorem u_119_42 {a b : Int32} {lv : am_L} {st : List Value} : am_W G (am_M G d) 119 K 42 lv (.int b :: .int a :: st) h nc ns = (am_br (a = b) (am_W G (am_M G d) 119 K 49 lv st h nc ns) (am_W G (am_M G d) 119 K 45 lv st h nc ns)) := am_u e_119_42
theorem e_119_45 : pg_code 119 45 = some (.iconst 1, 1, 0, 0) := by decide +kernel
theorem u_119_45 {lv : am_L} {st : List Value} : am_W G (am_M G d) 119 K 45 lv st h nc ns = (am_W G (am_M G d) 119 K 46 lv (.int 1 :: st) h nc ns) := am_u e_119_45
theorem e_119_46 : pg_code 119 46 = some (.goto 4, 3, 50, 0) := by decide +kernel
theorem u_119_46 {lv : am_L} {st : List Value} : am_W G (am_M G d) 119 K 46 lv st h nc ns = (am_W G (am_M G d) 119 K 50 lv st h nc ns) := am_u e_119_46
theorem e_119_49 : pg_code 119 49 = some (.iconst 0, 1, 0, 0) := by decide +kernel
theorem u_119_49 {lv : am_L} {st : List Value} : am_W G (am_M G d) 119 K 49 lv st h nc ns = (am_W G (am_M G d) 119 K 50 lv (.int 0 :: st) h nc ns) := am_u e_119_49
theorem e_119_50 : pg_code 119 50 = some (.ireturn, 1, 0, 0) := by decide +kernel
theorem u_119_50 {a : Int32} {lv : am_L} : am_W G (am_M G d) 119 K 50 lv [.int a] h nc ns = (narrow .boolean (.int a) = .int a ∧ K (.inl (some (.int a))) h) := (am_u e_119_50).trans (f_z_eq rfl)
theorem e_120_0 : pg_code 120 0 = some (.aload_n 0, 1, 0, 0) := by decide +kernel
theorem u_120_0 {a : Nat} {lv : am_L} {st : List Value} : am_W G (am_M G d) 120 K 0 (some (.ref a) :: lv) st h nc ns = (am_W G (am_M G d) 120 K 1 (some (.ref a) :: lv) (.ref a :: st) h nc ns) := am_u e_120_0
theorem e_120_1 : pg_code 120 1 = some (.iload_n 1, 1, 0, 0) := by decide +kernel
theorem u_120_1 {a : Int32} {z0 : Option Value} {lv : am_L} {st : List Value} : am_W G (am_M G d) 120 K 1 (z0 :: some (.int a) :: lv) st h nc ns = (am_W G (am_M G d) 120 K 2 (z0 :: some (.int a) :: lv) (.int a :: st) h nc ns) := am_u e_120_1
theorem e_120_2 : pg_code 120 2 = some (.invokevirtual 184, 3, 117, 2) := by decide +kernel
theorem u_120_2 {a : Nat} {v0 : Value} {lv : am_L} {st : List Value} : am_W G (am_M G d) 120 K 2 lv (v0 :: .ref a :: st) h nc ns = ((am_words st ≤ 8 ∧ nc + 0 ≤ 0 ∧ ns + 0 ≤ 0 ∧ f_rc (h a) 7) ∧ am_M G d 117 [.ref a, v0] h (am_back 120 K (am_W G (am_M G d) 120 K) 117 2 lv st nc ns)) := (am_u e_120_2).trans (f_iv_eq (a := a) (G := G) (d := d) (k := 120) (K := K) (pc := 2) (lv := lv) (st := st) (h := h) (nc := nc) (ns := ns) (x := 117) (X := am_W G (am_M G d) 120 K) [v0] (by decide) rfl)
theorem e_120_5 : pg_code 120 5 = some (.ifCond .ne 5, 3, 10, 0) := by decide +kernel
theorem u_120_5 {a : Int32} {lv : am_L} {st : List Value} : am_W G (am_M G d) 120 K 5 lv (.int a :: st) h nc ns = (am_br (¬ a = 0) (am_W G (am_M G d) 120 K 10 lv st h nc ns) (am_W G (am_M G d) 120 K 8 lv st h nc ns)) := am_u e_120_5
theorem e_120_8 : pg_code 120 8 = some (.iconst 0, 1, 0, 0) := by decide +kernel
theorem u_120_8 {lv : am_L} {st : List Value} : am_W G (am_M G d) 120 K 8 lv st h nc ns = (am_W G (am_M G d) 120 K 9 lv (.int 0 :: st) h nc ns) := am_u e_120_8
theorem e_120_9 : pg_code 120 9 = some (.ireturn, 1, 0, 0) := by decide +kernel
theorem u_120_9 {a : Int32} {lv : am_L} : am_W G (am_M G d) 120 K 9 lv [.int a] h nc ns = (K (.inl (some (.int a))) h) := (am_u e_120_9).trans (f_t ⟨rfl, .int, rfl, rfl⟩)
theorem e_120_10 : pg_code 120 10 = some (.iconst 0, 1, 0, 0) := by decide +kernel
theorem u_120_10 {lv : am_L} {st : List Value} : am_W G (am_M G d) 120 K 10 lv st h nc ns = (am_W G (am_M G d) 120 K 11 lv (.int 0 :: st) h nc ns) := am_u e_120_10
theorem e_120_11 : pg_code 120 11 = some (.istore_n 2, 1, 0, 0) := by decide +kernel
theorem u_120_11 {a : Int32} {lv : am_L} {st : List Value} : am_W G (am_M G d) 120 K 11 lv (.int a :: st) h nc ns = (am_W G (am_M G d) 120 K 12 (am_st1 lv 2 (.int a)) st h nc ns) := (am_u e_120_11).trans (f_t (by decide +kernel))
theorem e_120_12 : pg_code 120 12 = some (.iconst 0, 1, 0, 0) := by decide +kernel
theorem u_120_12 {lv : am_L} {st : List Value} : am_W G (am_M G d) 120 K 12 lv st h nc ns = (am_W G (am_M G d) 120 K 13 lv (.int 0 :: st) h nc ns) := am_u e_120_12
theorem e_120_13 : pg_code 120 13 = some (.istore_n 3, 1, 0, 0) := by decide +kernel
theorem u_120_13 {a : Int32} {lv : am_L} {st : List Value} : am_W G (am_M G d) 120 K 13 lv (.int a :: st) h nc ns = (am_W G (am_M G d) 120 K 14 (am_st1 lv 3 (.int a)) st h nc ns) := (am_u e_120_13).trans (f_t (by decide +kernel))
theorem e_120_14 : pg_code 120 14 = some (.iload_n 3, 1, 0, 0) := by decide +kernel
theorem u_120_14 {a : Int32} {z0 : Option Value} {z1 : Option Value} {z2 : Option Value} {lv : am_L} {st : List Value} : am_W G (am_M G d) 120 K 14 (z0 :: z1 :: z2 :: some (.int a) :: lv) st h nc ns = (am_W G (am_M G d) 120 K 15 (z0 :: z1 :: z2 :: some (.int a) :: lv) (.int a :: st) h nc ns) := am_u e_120_14
theorem e_120_15 : pg_code 120 15 = some (.aload_n 0, 1, 0, 0) := by decide +kernel
theorem u_120_15 {a : Nat} {lv : am_L} {st : List Value} : am_W G (am_M G d) 120 K 15 (some (.ref a) :: lv) st h nc ns = (am_W G (am_M G d) 120 K 16 (some (.ref a) :: lv) (.ref a :: st) h nc ns) := am_u e_120_15
theorem e_120_16 : pg_code 120 16 = some (.getfield 54, 3, 7, 19) := by decide +kernel
theorem u_120_16 {a : Nat} {lv : am_L} {st : List Value} : am_W G (am_M G d) 120 K 16 lv (.ref a :: st) h nc ns = (f_gf G d 120 K 19 lv st h nc ns (h a) 7 19) := am_u e_120_16
theorem e_120_19 : pg_code 120 19 = some (.iload_n 1, 1, 0, 0) := by decide +kernel
theorem u_120_19 {a : Int32} {z0 : Option Value} {lv : am_L} {st : List Value} : am_W G (am_M G d) 120 K 19 (z0 :: some (.int a) :: lv) st h nc ns = (am_W G (am_M G d) 120 K 20 (z0 :: some (.int a) :: lv) (.int a :: st) h nc ns) := am_u e_120_19
theorem e_120_20 : pg_code 120 20 = some (.iaload, 1, 0, 0) := by decide +kernel
theorem u_120_20 {a : Nat} {j : Int32} {lv : am_L} {st : List Value} : am_W G (am_M G d) 120 K 20 lv (.int j :: .ref a :: st) h nc ns = (f_ia G d 120 K 21 lv st h nc ns (h a) .int j) := am_u e_120_20
theorem e_120_21 : pg_code 120 21 = some (.if_icmp .ge 31, 3, 52, 0) := by decide +kernel
theorem u_120_21 {a b : Int32} {lv : am_L} {st : List Value} : am_W G (am_M G d) 120 K 21 lv (.int b :: .int a :: st) h nc ns = (am_br (b ≤ a) (am_W G (am_M G d) 120 K 52 lv st h nc ns) (am_W G (am_M G d) 120 K 24 lv st h nc ns)) := am_u e_120_21
theorem e_120_24 : pg_code 120 24 = some (.iload_n 2, 1, 0, 0) := by decide +kernel
theorem u_120_24 {a : Int32} {z0 : Option Value} {z1 : Option Value} {lv : am_L} {st : List Value} : am_W G (am_M G d) 120 K 24 (z0 :: z1 :: some (.int a) :: lv) st h nc ns = (am_W G (am_M G d) 120 K 25 (z0 :: z1 :: some (.int a) :: lv) (.int a :: st) h nc ns) := am_u e_120_24
theorem e_120_25 : pg_code 120 25 = some (.aload_n 0, 1, 0, 0) := by decide +kernel
theorem u_120_25 {a : Nat} {lv : am_L} {st : List Value} : am_W G (am_M G d) 120 K 25 (some (.ref a) :: lv) st h nc ns = (am_W G (am_M G d) 120 K 26 (some (.ref a) :: lv) (.ref a :: st) h nc ns) := am_u e_120_25
theorem e_120_26 : pg_code 120 26 = some (.sipush 150, 3, 0, 0) := by decide +kernel
theorem u_120_26 {lv : am_L} {st : List Value} : am_W G (am_M G d) 120 K 26 lv st h nc ns = (am_W G (am_M G d) 120 K 29 lv (.int 150 :: st) h nc ns) := am_u e_120_26
theorem e_120_29 : pg_code 120 29 = some (.iload_n 1, 1, 0, 0) := by decide +kernel
theorem u_120_29 {a : Int32} {z0 : Option Value} {lv : am_L} {st : List Value} : am_W G (am_M G d) 120 K 29 (z0 :: some (.int a) :: lv) st h nc ns = (am_W G (am_M G d) 120 K 30 (z0 :: some (.int a) :: lv) (.int a :: st) h nc ns) := am_u e_120_29
theorem e_120_30 : pg_code 120 30 = some (.imul, 1, 0, 0) := by decide +kernel
theorem u_120_30 {a b : Int32} {lv : am_L} {st : List Value} : am_W G (am_M G d) 120 K 30 lv (.int b :: .int a :: st) h nc ns = (am_W G (am_M G d) 120 K 31 lv (.int (a * b) :: st) h nc ns) := am_u e_120_30
theorem e_120_31 : pg_code 120 31 = some (.iload_n 3, 1, 0, 0) := by decide +kernel
theorem u_120_31 {a : Int32} {z0 : Option Value} {z1 : Option Value} {z2 : Option Value} {lv : am_L} {st : List Value} : am_W G (am_M G d) 120 K 31 (z0 :: z1 :: z2 :: some (.int a) :: lv) st h nc ns = (am_W G (am_M G d) 120 K 32 (z0 :: z1 :: z2 :: some (.int a) :: lv) (.int a :: st) h nc ns) := am_u e_120_31
theorem e_120_32 : pg_code 120 32 = some (.iadd, 1, 0, 0) := by decide +kernel
theorem u_120_32 {a b : Int32} {lv : am_L} {st : List Value} : am_W G (am_M G d) 120 K 32 lv (.int b :: .int a :: st) h nc ns = (am_W G (am_M G d) 120 K 33 lv (.int (a + b) :: st) h nc ns) := am_u e_120_32
theorem e_120_33 : pg_code 120 33 = some (.invokevirtual 181, 3, 119, 2) := by decide +kernel
theorem u_120_33 {a : Nat} {v0 : Value} {lv : am_L} {st : List Value} : am_W G (am_M G d) 120 K 33 lv (v0 :: .ref a :: st) h nc ns = ((am_words st ≤ 8 ∧ nc + 0 ≤ 0 ∧ ns + 0 ≤ 0 ∧ f_rc (h a) 7) ∧ am_M G d 119 [.ref a, v0] h (am_back 120 K (am_W G (am_M G d) 120 K) 119 33 lv st nc ns)) := (am_u e_120_33).trans (f_iv_eq (a := a) (G := G) (d := d) (k := 120) (K := K) (pc := 33) (lv := lv) (st := st) (h := h) (nc := nc) (ns := ns) (x := 119) (X := am_W G (am_M G d) 120 K) [v0] (by decide) rfl)
theorem e_120_36 : pg_code 120 36 = some (.ifCond .eq 7, 3, 43, 0) := by decide +kernel
theorem u_120_36 {a : Int32} {lv : am_L} {st : List Value} : am_W G (am_M G d) 120 K 36 lv (.int a :: st) h nc ns = (am_br (a = 0) (am_W G (am_M G d) 120 K 43 lv st h nc ns) (am_W G (am_M G d) 120 K 39 lv st h nc ns)) := am_u e_120_36
theorem e_120_39 : pg_code 120 39 = some (.iconst 1, 1, 0, 0) := by decide +kernel
theorem u_120_39 {lv : am_L} {st : List Value} : am_W G (am_M G d) 120 K 39 lv st h nc ns = (am_W G (am_M G d) 120 K 40 lv (.int 1 :: st) h nc ns) := am_u e_120_39
theorem e_120_40 : pg_code 120 40 = some (.goto 4, 3, 44, 0) := by decide +kernel
theorem u_120_40 {lv : am_L} {st : List Value} : am_W G (am_M G d) 120 K 40 lv st h nc ns = (am_W G (am_M G d) 120 K 44 lv st h nc ns) := am_u e_120_40
theorem e_120_43 : pg_code 120 43 = some (.iconst 0, 1, 0, 0) := by decide +kernel
theorem u_120_43 {lv : am_L} {st : List Value} : am_W G (am_M G d) 120 K 43 lv st h nc ns = (am_W G (am_M G d) 120 K 44 lv (.int 0 :: st) h nc ns) := am_u e_120_43
theorem e_120_44 : pg_code 120 44 = some (.iadd, 1, 0, 0) := by decide +kernel
theorem u_120_44 {a b : Int32} {lv : am_L} {st : List Value} : am_W G (am_M G d) 120 K 44 lv (.int b :: .int a :: st) h nc ns = (am_W G (am_M G d) 120 K 45 lv (.int (a + b) :: st) h nc ns) := am_u e_120_44
theorem e_120_45 : pg_code 120 45 = some (.istore_n 2, 1, 0, 0) := by decide +kernel
theorem u_120_45 {a : Int32} {lv : am_L} {st : List Value} : am_W G (am_M G d) 120 K 45 lv (.int a :: st) h nc ns = (am_W G (am_M G d) 120 K 46 (am_st1 lv 2 (.int a)) st h nc ns) := (am_u e_120_45).trans (f_t (by decide +kernel))
theorem e_120_46 : pg_code 120 46 = some (.iinc 3 1, 3, 0, 0) := by decide +kernel
theorem u_120_46 {a : Int32} {z0 : Option Value} {z1 : Option Value} {z2 : Option Value} {lv : am_L} {st : List Value} : am_W G (am_M G d) 120 K 46 (z0 :: z1 :: z2 :: some (.int a) :: lv) st h nc ns = (am_W G (am_M G d) 120 K 49 (am_st1 (z0 :: z1 :: z2 :: some (.int a) :: lv) 3 (.int (a + Int32.ofInt 1))) st h nc ns) := (am_u e_120_46).trans (f_t (by decide +kernel))
theorem e_120_49 : pg_code 120 49 = some (.goto (-35), 3, 14, 0) := by decide +kernel
theorem u_120_49 {lv : am_L} {st : List Value} : am_W G (am_M G d) 120 K 49 lv st h nc ns = (am_W G (am_M G d) 120 K 14 lv st h nc ns) := am_u e_120_49
theorem e_120_52 : pg_code 120 52 = some (.iload_n 2, 1, 0, 0) := by decide +kernel
theorem u_120_52 {a : Int32} {z0 : Option Value} {z1 : Option Value} {lv : am_L} {st : List Value} : am_W G (am_M G d) 120 K 52 (z0 :: z1 :: some (.int a) :: lv) st h nc ns = (am_W G (am_M G d) 120 K 53 (z0 :: z1 :: some (.int a) :: lv) (.int a :: st) h nc ns) := am_u e_120_52
theorem e_120_53 : pg_code 120 53 = some (.ireturn, 1, 0, 0) := by decide +kernel
theorem u_120_53 {a : Int32} {lv : am_L} : am_W G (am_M G d) 120 K 53 lv [.int a] h nc ns = (K (.inl (some (.int a))) h) := (am_u e_120_53).trans (f_t ⟨rfl, .int, rfl, rfl⟩)
theorem e_121_0 : pg_code 121 0 = some (.aload_n 0, 1, 0, 0) := by decide +kernel
theorem u_121_0 {a : Nat} {lv : am_L} {st : List Value} : am_W G (am_M G d) 121 K 0 (some (.ref a) :: lv) st h nc ns = (am_W G (am_M G d) 121 K 1 (some (.ref a) :: lv) (.ref a :: st) h nc ns) := am_u e_121_0
theorem e_121_1 : pg_code 121 1 = some (.iconst 0, 1, 0, 0) := by decide +kernel
theorem u_121_1 {lv : am_L} {st : List Value} : am_W G (am_M G d) 121 K 1 lv st h nc ns = (am_W G (am_M G d) 121 K 2 lv (.int 0 :: st) h nc ns) := am_u e_121_1
theorem e_121_2 : pg_code 121 2 = some (.putfield 90, 3, 7, 0) := by decide +kernel
theorem u_121_2 {a : Nat} {b : Int32} {lv : am_L} {st : List Value} : am_W G (am_M G d) 121 K 2 lv (.int b :: .ref a :: st) h nc ns = (f_pf G d 121 K 5 lv st h nc ns (h a) 7 0 a (.int b)) := (am_u e_121_2).trans (f_pf_eq ⟨rfl, rfl⟩)
theorem e_121_5 : pg_code 121 5 = some (.aload_n 0, 1, 0, 0) := by decide +kernel
theorem u_121_5 {a : Nat} {lv : am_L} {st : List Value} : am_W G (am_M G d) 121 K 5 (some (.ref a) :: lv) st h nc ns = (am_W G (am_M G d) 121 K 6 (some (.ref a) :: lv) (.ref a :: st) h nc ns) := am_u e_121_5
theorem e_121_6 : pg_code 121 6 = some (.getfield 94, 3, 7, 18) := by decide +kernel
theorem u_121_6 {a : Nat} {lv : am_L} {st : List Value} : am_W G (am_M G d) 121 K 6 lv (.ref a :: st) h nc ns = (f_gf G d 121 K 9 lv st h nc ns (h a) 7 18) := am_u e_121_6
theorem e_121_9 : pg_code 121 9 = some (.ifCond .ne 5, 3, 14, 0) := by decide +kernel
theorem u_121_9 {a : Int32} {lv : am_L} {st : List Value} : am_W G (am_M G d) 121 K 9 lv (.int a :: st) h nc ns = (am_br (¬ a = 0) (am_W G (am_M G d) 121 K 14 lv st h nc ns) (am_W G (am_M G d) 121 K 12 lv st h nc ns)) := am_u e_121_9
theorem e_121_12 : pg_code 121 12 = some (.iconst 0, 1, 0, 0) := by decide +kernel
theorem u_121_12 {lv : am_L} {st : List Value} : am_W G (am_M G d) 121 K 12 lv st h nc ns = (am_W G (am_M G d) 121 K 13 lv (.int 0 :: st) h nc ns) := am_u e_121_12
theorem e_121_13 : pg_code 121 13 = some (.ireturn, 1, 0, 0) := by decide +kernel
theorem u_121_13 {a : Int32} {lv : am_L} : am_W G (am_M G d) 121 K 13 lv [.int a] h nc ns = (narrow .boolean (.int a) = .int a ∧ K (.inl (some (.int a))) h) := (am_u e_121_13).trans (f_z_eq rfl)
theorem e_121_14 : pg_code 121 14 = some (.aload_n 0, 1, 0, 0) := by decide +kernel
theorem u_121_14 {a : Nat} {lv : am_L} {st : List Value} : am_W G (am_M G d) 121 K 14 (some (.ref a) :: lv) st h nc ns = (am_W G (am_M G d) 121 K 15 (some (.ref a) :: lv) (.ref a :: st) h nc ns) := am_u e_121_14
theorem e_121_15 : pg_code 121 15 = some (.dup, 1, 0, 0) := by decide +kernel
theorem u_121_15 {a : Nat} {lv : am_L} {st : List Value} : am_W G (am_M G d) 121 K 15 lv (.ref a :: st) h nc ns = (am_W G (am_M G d) 121 K 16 lv (.ref a :: .ref a :: st) h nc ns) := (am_u e_121_15).trans (f_t rfl)
theorem e_121_16 : pg_code 121 16 = some (.getfield 94, 3, 7, 18) := by decide +kernel
theorem u_121_16 {a : Nat} {lv : am_L} {st : List Value} : am_W G (am_M G d) 121 K 16 lv (.ref a :: st) h nc ns = (f_gf G d 121 K 19 lv st h nc ns (h a) 7 18) := am_u e_121_16
theorem e_121_19 : pg_code 121 19 = some (.iconst 1, 1, 0, 0) := by decide +kernel
theorem u_121_19 {lv : am_L} {st : List Value} : am_W G (am_M G d) 121 K 19 lv st h nc ns = (am_W G (am_M G d) 121 K 20 lv (.int 1 :: st) h nc ns) := am_u e_121_19
theorem e_121_20 : pg_code 121 20 = some (.isub, 1, 0, 0) := by decide +kernel
theorem u_121_20 {a b : Int32} {lv : am_L} {st : List Value} : am_W G (am_M G d) 121 K 20 lv (.int b :: .int a :: st) h nc ns = (am_W G (am_M G d) 121 K 21 lv (.int (a - b) :: st) h nc ns) := am_u e_121_20
theorem e_121_21 : pg_code 121 21 = some (.putfield 94, 3, 7, 18) := by decide +kernel
theorem u_121_21 {a : Nat} {b : Int32} {lv : am_L} {st : List Value} : am_W G (am_M G d) 121 K 21 lv (.int b :: .ref a :: st) h nc ns = (f_pf G d 121 K 24 lv st h nc ns (h a) 7 18 a (.int b)) := (am_u e_121_21).trans (f_pf_eq ⟨rfl, rfl⟩)
theorem e_121_24 : pg_code 121 24 = some (.aload_n 0, 1, 0, 0) := by decide +kernel
theorem u_121_24 {a : Nat} {lv : am_L} {st : List Value} : am_W G (am_M G d) 121 K 24 (some (.ref a) :: lv) st h nc ns = (am_W G (am_M G d) 121 K 25 (some (.ref a) :: lv) (.ref a :: st) h nc ns) := am_u e_121_24
theorem e_121_25 : pg_code 121 25 = some (.bipush 16, 2, 0, 0) := by decide +kernel
theorem u_121_25 {lv : am_L} {st : List Value} : am_W G (am_M G d) 121 K 25 lv st h nc ns = (am_W G (am_M G d) 121 K 27 lv (.int 16 :: st) h nc ns) := am_u e_121_25
theorem e_121_27 : pg_code 121 27 = some (.aload_n 0, 1, 0, 0) := by decide +kernel
theorem u_121_27 {a : Nat} {lv : am_L} {st : List Value} : am_W G (am_M G d) 121 K 27 (some (.ref a) :: lv) st h nc ns = (am_W G (am_M G d) 121 K 28 (some (.ref a) :: lv) (.ref a :: st) h nc ns) := am_u e_121_27
theorem e_121_28 : pg_code 121 28 = some (.getfield 94, 3, 7, 18) := by decide +kernel
theorem u_121_28 {a : Nat} {lv : am_L} {st : List Value} : am_W G (am_M G d) 121 K 28 lv (.ref a :: st) h nc ns = (f_gf G d 121 K 31 lv st h nc ns (h a) 7 18) := am_u e_121_28
theorem e_121_31 : pg_code 121 31 = some (.invokevirtual 97, 3, 94, 3) := by decide +kernel
theorem u_121_31 {a : Nat} {v0 v1 : Value} {lv : am_L} {st : List Value} : am_W G (am_M G d) 121 K 31 lv (v1 :: v0 :: .ref a :: st) h nc ns = ((am_words st ≤ 8 ∧ nc + 0 ≤ 0 ∧ ns + 0 ≤ 0 ∧ f_rc (h a) 7) ∧ am_M G d 94 [.ref a, v0, v1] h (am_back 121 K (am_W G (am_M G d) 121 K) 94 31 lv st nc ns)) := (am_u e_121_31).trans (f_iv_eq (a := a) (G := G) (d := d) (k := 121) (K := K) (pc := 31) (lv := lv) (st := st) (h := h) (nc := nc) (ns := ns) (x := 94) (X := am_W G (am_M G d) 121 K) [v0, v1] (by decide) rfl)
theorem e_121_34 : pg_code 121 34 = some (.aload_n 0, 1, 0, 0) := by decide +kernel
theorem u_121_34 {a : Nat} {lv : am_L} {st : List Value} : am_W G (am_M G d) 121 K 34 (some (.ref a) :: lv) st h nc ns = (am_W G (am_M G d) 121 K 35 (some (.ref a) :: lv) (.ref a :: st) h nc ns) := am_u e_121_34
theorem e_121_35 : pg_code 121 35 = some (.iconst 0, 1, 0, 0) := by decide +kernel
theorem u_121_35 {lv : am_L} {st : List Value} : am_W G (am_M G d) 121 K 35 lv st h nc ns = (am_W G (am_M G d) 121 K 36 lv (.int 0 :: st) h nc ns) := am_u e_121_35
theorem e_121_36 : pg_code 121 36 = some (.putfield 143, 3, 7, 26) := by decide +kernel
theorem u_121_36 {a : Nat} {b : Int32} {lv : am_L} {st : List Value} : am_W G (am_M G d) 121 K 36 lv (.int b :: .ref a :: st) h nc ns = (f_pf G d 121 K 39 lv st h nc ns (h a) 7 26 a (.int b)) := (am_u e_121_36).trans (f_pf_eq ⟨rfl, rfl⟩)
theorem e_121_39 : pg_code 121 39 = some (.iconst 1, 1, 0, 0) := by decide +kernel
theorem u_121_39 {lv : am_L} {st : List Value} : am_W G (am_M G d) 121 K 39 lv st h nc ns = (am_W G (am_M G d) 121 K 40 lv (.int 1 :: st) h nc ns) := am_u e_121_39
theorem e_121_40 : pg_code 121 40 = some (.ireturn, 1, 0, 0) := by decide +kernel
theorem u_121_40 {a : Int32} {lv : am_L} : am_W G (am_M G d) 121 K 40 lv [.int a] h nc ns = (narrow .boolean (.int a) = .int a ∧ K (.inl (some (.int a))) h) := (am_u e_121_40).trans (f_z_eq rfl)
theorem e_122_0 : pg_code 122 0 = some (.aload_n 0, 1, 0, 0) := by decide +kernel
theorem u_122_0 {a : Nat} {lv : am_L} {st : List Value} : am_W G (am_M G d) 122 K 0 (some (.ref a) :: lv) st h nc ns = (am_W G (am_M G d) 122 K 1 (some (.ref a) :: lv) (.ref a :: st) h nc ns) := am_u e_122_0
theorem e_122_1 : pg_code 122 1 = some (.iload_n 1, 1, 0, 0) := by decide +kernel
theorem u_122_1 {a : Int32} {z0 : Option Value} {lv : am_L} {st : List Value} : am_W G (am_M G d) 122 K 1 (z0 :: some (.int a) :: lv) st h nc ns = (am_W G (am_M G d) 122 K 2 (z0 :: some (.int a) :: lv) (.int a :: st) h nc ns) := am_u e_122_1
theorem e_122_2 : pg_code 122 2 = some (.invokevirtual 172, 3, 109, 2) := by decide +kernel
theorem u_122_2 {a : Nat} {v0 : Value} {lv : am_L} {st : List Value} : am_W G (am_M G d) 122 K 2 lv (v0 :: .ref a :: st) h nc ns = ((am_words st ≤ 8 ∧ nc + 0 ≤ 0 ∧ ns + 0 ≤ 0 ∧ f_rc (h a) 7) ∧ am_M G d 109 [.ref a, v0] h (am_back 122 K (am_W G (am_M G d) 122 K) 109 2 lv st nc ns)) := (am_u e_122_2).trans (f_iv_eq (a := a) (G := G) (d := d) (k := 122) (K := K) (pc := 2) (lv := lv) (st := st) (h := h) (nc := nc) (ns := ns) (x := 109) (X := am_W G (am_M G d) 122 K) [v0] (by decide) rfl)
theorem e_122_5 : pg_code 122 5 = some (.ifCond .ne 5, 3, 10, 0) := by decide +kernel
theorem u_122_5 {a : Int32} {lv : am_L} {st : List Value} : am_W G (am_M G d) 122 K 5 lv (.int a :: st) h nc ns = (am_br (¬ a = 0) (am_W G (am_M G d) 122 K 10 lv st h nc ns) (am_W G (am_M G d) 122 K 8 lv st h nc ns)) := am_u e_122_5
theorem e_122_8 : pg_code 122 8 = some (.iconst 0, 1, 0, 0) := by decide +kernel
theorem u_122_8 {lv : am_L} {st : List Value} : am_W G (am_M G d) 122 K 8 lv st h nc ns = (am_W G (am_M G d) 122 K 9 lv (.int 0 :: st) h nc ns) := am_u e_122_8
theorem e_122_9 : pg_code 122 9 = some (.ireturn, 1, 0, 0) := by decide +kernel
theorem u_122_9 {a : Int32} {lv : am_L} : am_W G (am_M G d) 122 K 9 lv [.int a] h nc ns = (K (.inl (some (.int a))) h) := (am_u e_122_9).trans (f_t ⟨rfl, .int, rfl, rfl⟩)
theorem e_122_10 : pg_code 122 10 = some (.iconst 0, 1, 0, 0) := by decide +kernel
theorem u_122_10 {lv : am_L} {st : List Value} : am_W G (am_M G d) 122 K 10 lv st h nc ns = (am_W G (am_M G d) 122 K 11 lv (.int 0 :: st) h nc ns) := am_u e_122_10
theorem e_122_11 : pg_code 122 11 = some (.istore_n 3, 1, 0, 0) := by decide +kernel
theorem u_122_11 {a : Int32} {lv : am_L} {st : List Value} : am_W G (am_M G d) 122 K 11 lv (.int a :: st) h nc ns = (am_W G (am_M G d) 122 K 12 (am_st1 lv 3 (.int a)) st h nc ns) := (am_u e_122_11).trans (f_t (by decide +kernel))
theorem e_122_12 : pg_code 122 12 = some (.iload_n 3, 1, 0, 0) := by decide +kernel
theorem u_122_12 {a : Int32} {z0 : Option Value} {z1 : Option Value} {z2 : Option Value} {lv : am_L} {st : List Value} : am_W G (am_M G d) 122 K 12 (z0 :: z1 :: z2 :: some (.int a) :: lv) st h nc ns = (am_W G (am_M G d) 122 K 13 (z0 :: z1 :: z2 :: some (.int a) :: lv) (.int a :: st) h nc ns) := am_u e_122_12
theorem e_122_13 : pg_code 122 13 = some (.aload_n 0, 1, 0, 0) := by decide +kernel
theorem u_122_13 {a : Nat} {lv : am_L} {st : List Value} : am_W G (am_M G d) 122 K 13 (some (.ref a) :: lv) st h nc ns = (am_W G (am_M G d) 122 K 14 (some (.ref a) :: lv) (.ref a :: st) h nc ns) := am_u e_122_13
theorem e_122_14 : pg_code 122 14 = some (.getfield 101, 3, 7, 1) := by decide +kernel
theorem u_122_14 {a : Nat} {lv : am_L} {st : List Value} : am_W G (am_M G d) 122 K 14 lv (.ref a :: st) h nc ns = (f_gf G d 122 K 17 lv st h nc ns (h a) 7 1) := am_u e_122_14
theorem e_122_17 : pg_code 122 17 = some (.if_icmp .ge 16, 3, 33, 0) := by decide +kernel
theorem u_122_17 {a b : Int32} {lv : am_L} {st : List Value} : am_W G (am_M G d) 122 K 17 lv (.int b :: .int a :: st) h nc ns = (am_br (b ≤ a) (am_W G (am_M G d) 122 K 33 lv st h nc ns) (am_W G (am_M G d) 122 K 20 lv st h nc ns)) := am_u e_122_17
theorem e_122_20 : pg_code 122 20 = some (.aload_n 0, 1, 0, 0) := by decide +kernel
theorem u_122_20 {a : Nat} {lv : am_L} {st : List Value} : am_W G (am_M G d) 122 K 20 (some (.ref a) :: lv) st h nc ns = (am_W G (am_M G d) 122 K 21 (some (.ref a) :: lv) (.ref a :: st) h nc ns) := am_u e_122_20
theorem e_122_21 : pg_code 122 21 = some (.getfield 84, 3, 7, 31) := by decide +kernel
theorem u_122_21 {a : Nat} {lv : am_L} {st : List Value} : am_W G (am_M G d) 122 K 21 lv (.ref a :: st) h nc ns = (f_gf G d 122 K 24 lv st h nc ns (h a) 7 31) := am_u e_122_21
theorem e_122_24 : pg_code 122 24 = some (.iload_n 3, 1, 0, 0) := by decide +kernel
theorem u_122_24 {a : Int32} {z0 : Option Value} {z1 : Option Value} {z2 : Option Value} {lv : am_L} {st : List Value} : am_W G (am_M G d) 122 K 24 (z0 :: z1 :: z2 :: some (.int a) :: lv) st h nc ns = (am_W G (am_M G d) 122 K 25 (z0 :: z1 :: z2 :: some (.int a) :: lv) (.int a :: st) h nc ns) := am_u e_122_24
theorem e_122_25 : pg_code 122 25 = some (.iconst 0, 1, 0, 0) := by decide +kernel
theorem u_122_25 {lv : am_L} {st : List Value} : am_W G (am_M G d) 122 K 25 lv st h nc ns = (am_W G (am_M G d) 122 K 26 lv (.int 0 :: st) h nc ns) := am_u e_122_25
theorem e_122_26 : pg_code 122 26 = some (.bastore, 1, 0, 0) := by decide +kernel
theorem u_122_26 {a : Nat} {j b : Int32} {lv : am_L} {st : List Value} : am_W G (am_M G d) 122 K 26 lv (.int b :: .int j :: .ref a :: st) h nc ns = (f_is G d 122 K 27 lv st h nc ns (h a) .boolean a j (vp_nar .boolean b)) := am_u e_122_26
theorem e_122_27 : pg_code 122 27 = some (.iinc 3 1, 3, 0, 0) := by decide +kernel
theorem u_122_27 {a : Int32} {z0 : Option Value} {z1 : Option Value} {z2 : Option Value} {lv : am_L} {st : List Value} : am_W G (am_M G d) 122 K 27 (z0 :: z1 :: z2 :: some (.int a) :: lv) st h nc ns = (am_W G (am_M G d) 122 K 30 (am_st1 (z0 :: z1 :: z2 :: some (.int a) :: lv) 3 (.int (a + Int32.ofInt 1))) st h nc ns) := (am_u e_122_27).trans (f_t (by decide +kernel))
theorem e_122_30 : pg_code 122 30 = some (.goto (-18), 3, 12, 0) := by decide +kernel
theorem u_122_30 {lv : am_L} {st : List Value} : am_W G (am_M G d) 122 K 30 lv st h nc ns = (am_W G (am_M G d) 122 K 12 lv st h nc ns) := am_u e_122_30
theorem e_122_33 : pg_code 122 33 = some (.iconst 0, 1, 0, 0) := by decide +kernel
theorem u_122_33 {lv : am_L} {st : List Value} : am_W G (am_M G d) 122 K 33 lv st h nc ns = (am_W G (am_M G d) 122 K 34 lv (.int 0 :: st) h nc ns) := am_u e_122_33
theorem e_122_34 : pg_code 122 34 = some (.istore_n 3, 1, 0, 0) := by decide +kernel
theorem u_122_34 {a : Int32} {lv : am_L} {st : List Value} : am_W G (am_M G d) 122 K 34 lv (.int a :: st) h nc ns = (am_W G (am_M G d) 122 K 35 (am_st1 lv 3 (.int a)) st h nc ns) := (am_u e_122_34).trans (f_t (by decide +kernel))
theorem e_122_35 : pg_code 122 35 = some (.iload_n 3, 1, 0, 0) := by decide +kernel
theorem u_122_35 {a : Int32} {z0 : Option Value} {z1 : Option Value} {z2 : Option Value} {lv : am_L} {st : List Value} : am_W G (am_M G d) 122 K 35 (z0 :: z1 :: z2 :: some (.int a) :: lv) st h nc ns = (am_W G (am_M G d) 122 K 36 (z0 :: z1 :: z2 :: some (.int a) :: lv) (.int a :: st) h nc ns) := am_u e_122_35
theorem e_122_36 : pg_code 122 36 = some (.aload_n 0, 1, 0, 0) := by decide +kernel
theorem u_122_36 {a : Nat} {lv : am_L} {st : List Value} : am_W G (am_M G d) 122 K 36 (some (.ref a) :: lv) st h nc ns = (am_W G (am_M G d) 122 K 37 (some (.ref a) :: lv) (.ref a :: st) h nc ns) := am_u e_122_36
theorem e_122_37 : pg_code 122 37 = some (.getfield 119, 3, 7, 2) := by decide +kernel
theorem u_122_37 {a : Nat} {lv : am_L} {st : List Value} : am_W G (am_M G d) 122 K 37 lv (.ref a :: st) h nc ns = (f_gf G d 122 K 40 lv st h nc ns (h a) 7 2) := am_u e_122_37
theorem e_122_40 : pg_code 122 40 = some (.if_icmp .ge 25, 3, 65, 0) := by decide +kernel
theorem u_122_40 {a b : Int32} {lv : am_L} {st : List Value} : am_W G (am_M G d) 122 K 40 lv (.int b :: .int a :: st) h nc ns = (am_br (b ≤ a) (am_W G (am_M G d) 122 K 65 lv st h nc ns) (am_W G (am_M G d) 122 K 43 lv st h nc ns)) := am_u e_122_40
theorem e_122_43 : pg_code 122 43 = some (.aload_n 0, 1, 0, 0) := by decide +kernel
theorem u_122_43 {a : Nat} {lv : am_L} {st : List Value} : am_W G (am_M G d) 122 K 43 (some (.ref a) :: lv) st h nc ns = (am_W G (am_M G d) 122 K 44 (some (.ref a) :: lv) (.ref a :: st) h nc ns) := am_u e_122_43
theorem e_122_44 : pg_code 122 44 = some (.getfield 78, 3, 7, 29) := by decide +kernel
theorem u_122_44 {a : Nat} {lv : am_L} {st : List Value} : am_W G (am_M G d) 122 K 44 lv (.ref a :: st) h nc ns = (f_gf G d 122 K 47 lv st h nc ns (h a) 7 29) := am_u e_122_44
theorem e_122_47 : pg_code 122 47 = some (.iload_n 3, 1, 0, 0) := by decide +kernel
theorem u_122_47 {a : Int32} {z0 : Option Value} {z1 : Option Value} {z2 : Option Value} {lv : am_L} {st : List Value} : am_W G (am_M G d) 122 K 47 (z0 :: z1 :: z2 :: some (.int a) :: lv) st h nc ns = (am_W G (am_M G d) 122 K 48 (z0 :: z1 :: z2 :: some (.int a) :: lv) (.int a :: st) h nc ns) := am_u e_122_47
theorem e_122_48 : pg_code 122 48 = some (.iload_n 3, 1, 0, 0) := by decide +kernel
theorem u_122_48 {a : Int32} {z0 : Option Value} {z1 : Option Value} {z2 : Option Value} {lv : am_L} {st : List Value} : am_W G (am_M G d) 122 K 48 (z0 :: z1 :: z2 :: some (.int a) :: lv) st h nc ns = (am_W G (am_M G d) 122 K 49 (z0 :: z1 :: z2 :: some (.int a) :: lv) (.int a :: st) h nc ns) := am_u e_122_48
theorem e_122_49 : pg_code 122 49 = some (.iload_n 1, 1, 0, 0) := by decide +kernel
theorem u_122_49 {a : Int32} {z0 : Option Value} {lv : am_L} {st : List Value} : am_W G (am_M G d) 122 K 49 (z0 :: some (.int a) :: lv) st h nc ns = (am_W G (am_M G d) 122 K 50 (z0 :: some (.int a) :: lv) (.int a :: st) h nc ns) := am_u e_122_49
theorem e_122_50 : pg_code 122 50 = some (.if_icmp .ne 7, 3, 57, 0) := by decide +kernel
theorem u_122_50 {a b : Int32} {lv : am_L} {st : List Value} : am_W G (am_M G d) 122 K 50 lv (.int b :: .int a :: st) h nc ns = (am_br (¬ a = b) (am_W G (am_M G d) 122 K 57 lv st h nc ns) (am_W G (am_M G d) 122 K 53 lv st h nc ns)) := am_u e_122_50
theorem e_122_53 : pg_code 122 53 = some (.iconst 1, 1, 0, 0) := by decide +kernel
theorem u_122_53 {lv : am_L} {st : List Value} : am_W G (am_M G d) 122 K 53 lv st h nc ns = (am_W G (am_M G d) 122 K 54 lv (.int 1 :: st) h nc ns) := am_u e_122_53
theorem e_122_54 : pg_code 122 54 = some (.goto 4, 3, 58, 0) := by decide +kernel
theorem u_122_54 {lv : am_L} {st : List Value} : am_W G (am_M G d) 122 K 54 lv st h nc ns = (am_W G (am_M G d) 122 K 58 lv st h nc ns) := am_u e_122_54
theorem e_122_57 : pg_code 122 57 = some (.iconst 0, 1, 0, 0) := by decide +kernel
theorem u_122_57 {lv : am_L} {st : List Value} : am_W G (am_M G d) 122 K 57 lv st h nc ns = (am_W G (am_M G d) 122 K 58 lv (.int 0 :: st) h nc ns) := am_u e_122_57
theorem e_122_58 : pg_code 122 58 = some (.bastore, 1, 0, 0) := by decide +kernel
theorem u_122_58 {a : Nat} {j b : Int32} {lv : am_L} {st : List Value} : am_W G (am_M G d) 122 K 58 lv (.int b :: .int j :: .ref a :: st) h nc ns = (f_is G d 122 K 59 lv st h nc ns (h a) .boolean a j (vp_nar .boolean b)) := am_u e_122_58
theorem e_122_59 : pg_code 122 59 = some (.iinc 3 1, 3, 0, 0) := by decide +kernel
theorem u_122_59 {a : Int32} {z0 : Option Value} {z1 : Option Value} {z2 : Option Value} {lv : am_L} {st : List Value} : am_W G (am_M G d) 122 K 59 (z0 :: z1 :: z2 :: some (.int a) :: lv) st h nc ns = (am_W G (am_M G d) 122 K 62 (am_st1 (z0 :: z1 :: z2 :: some (.int a) :: lv) 3 (.int (a + Int32.ofInt 1))) st h nc ns) := (am_u e_122_59).trans (f_t (by decide +kernel))
theorem e_122_62 : pg_code 122 62 = some (.goto (-27), 3, 35, 0) := by decide +kernel
theorem u_122_62 {lv : am_L} {st : List Value} : am_W G (am_M G d) 122 K 62 lv st h nc ns = (am_W G (am_M G d) 122 K 35 lv st h nc ns) := am_u e_122_62
theorem e_122_65 : pg_code 122 65 = some (.iconst 1, 1, 0, 0) := by decide +kernel
theorem u_122_65 {lv : am_L} {st : List Value} : am_W G (am_M G d) 122 K 65 lv st h nc ns = (am_W G (am_M G d) 122 K 66 lv (.int 1 :: st) h nc ns) := am_u e_122_65
theorem e_122_66 : pg_code 122 66 = some (.istore_n 3, 1, 0, 0) := by decide +kernel
theorem u_122_66 {a : Int32} {lv : am_L} {st : List Value} : am_W G (am_M G d) 122 K 66 lv (.int a :: st) h nc ns = (am_W G (am_M G d) 122 K 67 (am_st1 lv 3 (.int a)) st h nc ns) := (am_u e_122_66).trans (f_t (by decide +kernel))
theorem e_122_67 : pg_code 122 67 = some (.iload_n 3, 1, 0, 0) := by decide +kernel
theorem u_122_67 {a : Int32} {z0 : Option Value} {z1 : Option Value} {z2 : Option Value} {lv : am_L} {st : List Value} : am_W G (am_M G d) 122 K 67 (z0 :: z1 :: z2 :: some (.int a) :: lv) st h nc ns = (am_W G (am_M G d) 122 K 68 (z0 :: z1 :: z2 :: some (.int a) :: lv) (.int a :: st) h nc ns) := am_u e_122_67
theorem e_122_68 : pg_code 122 68 = some (.ifCond .eq 88, 3, 156, 0) := by decide +kernel
theorem u_122_68 {a : Int32} {lv : am_L} {st : List Value} : am_W G (am_M G d) 122 K 68 lv (.int a :: st) h nc ns = (am_br (a = 0) (am_W G (am_M G d) 122 K 156 lv st h nc ns) (am_W G (am_M G d) 122 K 71 lv st h nc ns)) := am_u e_122_68
theorem e_122_71 : pg_code 122 71 = some (.iconst 0, 1, 0, 0) := by decide +kernel
theorem u_122_71 {lv : am_L} {st : List Value} : am_W G (am_M G d) 122 K 71 lv st h nc ns = (am_W G (am_M G d) 122 K 72 lv (.int 0 :: st) h nc ns) := am_u e_122_71
theorem e_122_72 : pg_code 122 72 = some (.istore_n 3, 1, 0, 0) := by decide +kernel
theorem u_122_72 {a : Int32} {lv : am_L} {st : List Value} : am_W G (am_M G d) 122 K 72 lv (.int a :: st) h nc ns = (am_W G (am_M G d) 122 K 73 (am_st1 lv 3 (.int a)) st h nc ns) := (am_u e_122_72).trans (f_t (by decide +kernel))
theorem e_122_73 : pg_code 122 73 = some (.iconst 0, 1, 0, 0) := by decide +kernel
theorem u_122_73 {lv : am_L} {st : List Value} : am_W G (am_M G d) 122 K 73 lv st h nc ns = (am_W G (am_M G d) 122 K 74 lv (.int 0 :: st) h nc ns) := am_u e_122_73
theorem e_122_74 : pg_code 122 74 = some (.istore 4, 2, 0, 0) := by decide +kernel
theorem u_122_74 {a : Int32} {lv : am_L} {st : List Value} : am_W G (am_M G d) 122 K 74 lv (.int a :: st) h nc ns = (am_W G (am_M G d) 122 K 76 (am_st1 lv 4 (.int a)) st h nc ns) := (am_u e_122_74).trans (f_t (by decide +kernel))
theorem e_122_76 : pg_code 122 76 = some (.iload 4, 2, 0, 0) := by decide +kernel
theorem u_122_76 {a : Int32} {z0 : Option Value} {z1 : Option Value} {z2 : Option Value} {z3 : Option Value} {lv : am_L} {st : List Value} : am_W G (am_M G d) 122 K 76 (z0 :: z1 :: z2 :: z3 :: some (.int a) :: lv) st h nc ns = (am_W G (am_M G d) 122 K 78 (z0 :: z1 :: z2 :: z3 :: some (.int a) :: lv) (.int a :: st) h nc ns) := am_u e_122_76
theorem e_122_78 : pg_code 122 78 = some (.aload_n 0, 1, 0, 0) := by decide +kernel
theorem u_122_78 {a : Nat} {lv : am_L} {st : List Value} : am_W G (am_M G d) 122 K 78 (some (.ref a) :: lv) st h nc ns = (am_W G (am_M G d) 122 K 79 (some (.ref a) :: lv) (.ref a :: st) h nc ns) := am_u e_122_78
theorem e_122_79 : pg_code 122 79 = some (.getfield 119, 3, 7, 2) := by decide +kernel
theorem u_122_79 {a : Nat} {lv : am_L} {st : List Value} : am_W G (am_M G d) 122 K 79 lv (.ref a :: st) h nc ns = (f_gf G d 122 K 82 lv st h nc ns (h a) 7 2) := am_u e_122_79
theorem e_122_82 : pg_code 122 82 = some (.if_icmp .ge 71, 3, 153, 0) := by decide +kernel
theorem u_122_82 {a b : Int32} {lv : am_L} {st : List Value} : am_W G (am_M G d) 122 K 82 lv (.int b :: .int a :: st) h nc ns = (am_br (b ≤ a) (am_W G (am_M G d) 122 K 153 lv st h nc ns) (am_W G (am_M G d) 122 K 85 lv st h nc ns)) := am_u e_122_82
theorem e_122_85 : pg_code 122 85 = some (.aload_n 0, 1, 0, 0) := by decide +kernel
theorem u_122_85 {a : Nat} {lv : am_L} {st : List Value} : am_W G (am_M G d) 122 K 85 (some (.ref a) :: lv) st h nc ns = (am_W G (am_M G d) 122 K 86 (some (.ref a) :: lv) (.ref a :: st) h nc ns) := am_u e_122_85
theorem e_122_86 : pg_code 122 86 = some (.getfield 78, 3, 7, 29) := by decide +kernel
theorem u_122_86 {a : Nat} {lv : am_L} {st : List Value} : am_W G (am_M G d) 122 K 86 lv (.ref a :: st) h nc ns = (f_gf G d 122 K 89 lv st h nc ns (h a) 7 29) := am_u e_122_86
theorem e_122_89 : pg_code 122 89 = some (.iload 4, 2, 0, 0) := by decide +kernel
theorem u_122_89 {a : Int32} {z0 : Option Value} {z1 : Option Value} {z2 : Option Value} {z3 : Option Value} {lv : am_L} {st : List Value} : am_W G (am_M G d) 122 K 89 (z0 :: z1 :: z2 :: z3 :: some (.int a) :: lv) st h nc ns = (am_W G (am_M G d) 122 K 91 (z0 :: z1 :: z2 :: z3 :: some (.int a) :: lv) (.int a :: st) h nc ns) := am_u e_122_89
theorem e_122_91 : pg_code 122 91 = some (.baload, 1, 0, 0) := by decide +kernel
theorem u_122_91 {a : Nat} {j : Int32} {lv : am_L} {st : List Value} : am_W G (am_M G d) 122 K 91 lv (.int j :: .ref a :: st) h nc ns = (f_ia G d 122 K 92 lv st h nc ns (h a) .boolean j) := am_u e_122_91
theorem e_122_92 : pg_code 122 92 = some (.ifCond .eq 55, 3, 147, 0) := by decide +kernel
theorem u_122_92 {a : Int32} {lv : am_L} {st : List Value} : am_W G (am_M G d) 122 K 92 lv (.int a :: st) h nc ns = (am_br (a = 0) (am_W G (am_M G d) 122 K 147 lv st h nc ns) (am_W G (am_M G d) 122 K 95 lv st h nc ns)) := am_u e_122_92
theorem e_122_95 : pg_code 122 95 = some (.aload_n 0, 1, 0, 0) := by decide +kernel
theorem u_122_95 {a : Nat} {lv : am_L} {st : List Value} : am_W G (am_M G d) 122 K 95 (some (.ref a) :: lv) st h nc ns = (am_W G (am_M G d) 122 K 96 (some (.ref a) :: lv) (.ref a :: st) h nc ns) := am_u e_122_95
theorem e_122_96 : pg_code 122 96 = some (.aload_n 0, 1, 0, 0) := by decide +kernel
theorem u_122_96 {a : Nat} {lv : am_L} {st : List Value} : am_W G (am_M G d) 122 K 96 (some (.ref a) :: lv) st h nc ns = (am_W G (am_M G d) 122 K 97 (some (.ref a) :: lv) (.ref a :: st) h nc ns) := am_u e_122_96
theorem e_122_97 : pg_code 122 97 = some (.getfield 13, 3, 7, 5) := by decide +kernel
theorem u_122_97 {a : Nat} {lv : am_L} {st : List Value} : am_W G (am_M G d) 122 K 97 lv (.ref a :: st) h nc ns = (f_gf G d 122 K 100 lv st h nc ns (h a) 7 5) := am_u e_122_97
theorem e_122_100 : pg_code 122 100 = some (.iload 4, 2, 0, 0) := by decide +kernel
theorem u_122_100 {a : Int32} {z0 : Option Value} {z1 : Option Value} {z2 : Option Value} {z3 : Option Value} {lv : am_L} {st : List Value} : am_W G (am_M G d) 122 K 100 (z0 :: z1 :: z2 :: z3 :: some (.int a) :: lv) st h nc ns = (am_W G (am_M G d) 122 K 102 (z0 :: z1 :: z2 :: z3 :: some (.int a) :: lv) (.int a :: st) h nc ns) := am_u e_122_100
theorem e_122_102 : pg_code 122 102 = some (.invokestatic 116, 3, 91, 1) := by decide +kernel
theorem u_122_102 {v0 : Value} {lv : am_L} {st : List Value} : am_W G (am_M G d) 122 K 102 lv (v0 :: st) h nc ns = ((am_words st ≤ 8 ∧ nc + 0 ≤ 0 ∧ ns + 0 ≤ 0) ∧ am_M G d 91 [v0] h (am_back 122 K (am_W G (am_M G d) 122 K) 91 102 lv st nc ns)) := (am_u e_122_102).trans (f_st_eq (G := G) (d := d) (k := 122) (K := K) (pc := 102) (lv := lv) (st := st) (h := h) (nc := nc) (ns := ns) (x := 91) (X := am_W G (am_M G d) 122 K) [v0] (by decide) rfl)
theorem e_122_105 : pg_code 122 105 = some (.iaload, 1, 0, 0) := by decide +kernel
theorem u_122_105 {a : Nat} {j : Int32} {lv : am_L} {st : List Value} : am_W G (am_M G d) 122 K 105 lv (.int j :: .ref a :: st) h nc ns = (f_ia G d 122 K 106 lv st h nc ns (h a) .int j) := am_u e_122_105
theorem e_122_106 : pg_code 122 106 = some (.invokevirtual 190, 3, 123, 2) := by decide +kernel
theorem u_122_106 {a : Nat} {v0 : Value} {lv : am_L} {st : List Value} : am_W G (am_M G d) 122 K 106 lv (v0 :: .ref a :: st) h nc ns = ((am_words st ≤ 8 ∧ nc + 0 ≤ 0 ∧ ns + 0 ≤ 0 ∧ f_rc (h a) 7) ∧ am_M G d 123 [.ref a, v0] h (am_back 122 K (am_W G (am_M G d) 122 K) 123 106 lv st nc ns)) := (am_u e_122_106).trans (f_iv_eq (a := a) (G := G) (d := d) (k := 122) (K := K) (pc := 106) (lv := lv) (st := st) (h := h) (nc := nc) (ns := ns) (x := 123) (X := am_W G (am_M G d) 122 K) [v0] (by decide) rfl)
theorem e_122_109 : pg_code 122 109 = some (.istore 5, 2, 0, 0) := by decide +kernel
theorem u_122_109 {a : Int32} {lv : am_L} {st : List Value} : am_W G (am_M G d) 122 K 109 lv (.int a :: st) h nc ns = (am_W G (am_M G d) 122 K 111 (am_st1 lv 5 (.int a)) st h nc ns) := (am_u e_122_109).trans (f_t (by decide +kernel))
theorem e_122_111 : pg_code 122 111 = some (.aload_n 0, 1, 0, 0) := by decide +kernel
theorem u_122_111 {a : Nat} {lv : am_L} {st : List Value} : am_W G (am_M G d) 122 K 111 (some (.ref a) :: lv) st h nc ns = (am_W G (am_M G d) 122 K 112 (some (.ref a) :: lv) (.ref a :: st) h nc ns) := am_u e_122_111
theorem e_122_112 : pg_code 122 112 = some (.aload_n 0, 1, 0, 0) := by decide +kernel
theorem u_122_112 {a : Nat} {lv : am_L} {st : List Value} : am_W G (am_M G d) 122 K 112 (some (.ref a) :: lv) st h nc ns = (am_W G (am_M G d) 122 K 113 (some (.ref a) :: lv) (.ref a :: st) h nc ns) := am_u e_122_112
theorem e_122_113 : pg_code 122 113 = some (.getfield 16, 3, 7, 6) := by decide +kernel
theorem u_122_113 {a : Nat} {lv : am_L} {st : List Value} : am_W G (am_M G d) 122 K 113 lv (.ref a :: st) h nc ns = (f_gf G d 122 K 116 lv st h nc ns (h a) 7 6) := am_u e_122_113
theorem e_122_116 : pg_code 122 116 = some (.iload 4, 2, 0, 0) := by decide +kernel
theorem u_122_116 {a : Int32} {z0 : Option Value} {z1 : Option Value} {z2 : Option Value} {z3 : Option Value} {lv : am_L} {st : List Value} : am_W G (am_M G d) 122 K 116 (z0 :: z1 :: z2 :: z3 :: some (.int a) :: lv) st h nc ns = (am_W G (am_M G d) 122 K 118 (z0 :: z1 :: z2 :: z3 :: some (.int a) :: lv) (.int a :: st) h nc ns) := am_u e_122_116
theorem e_122_118 : pg_code 122 118 = some (.invokestatic 116, 3, 91, 1) := by decide +kernel
theorem u_122_118 {v0 : Value} {lv : am_L} {st : List Value} : am_W G (am_M G d) 122 K 118 lv (v0 :: st) h nc ns = ((am_words st ≤ 8 ∧ nc + 0 ≤ 0 ∧ ns + 0 ≤ 0) ∧ am_M G d 91 [v0] h (am_back 122 K (am_W G (am_M G d) 122 K) 91 118 lv st nc ns)) := (am_u e_122_118).trans (f_st_eq (G := G) (d := d) (k := 122) (K := K) (pc := 118) (lv := lv) (st := st) (h := h) (nc := nc) (ns := ns) (x := 91) (X := am_W G (am_M G d) 122 K) [v0] (by decide) rfl)
theorem e_122_121 : pg_code 122 121 = some (.iaload, 1, 0, 0) := by decide +kernel
theorem u_122_121 {a : Nat} {j : Int32} {lv : am_L} {st : List Value} : am_W G (am_M G d) 122 K 121 lv (.int j :: .ref a :: st) h nc ns = (f_ia G d 122 K 122 lv st h nc ns (h a) .int j) := am_u e_122_121
theorem e_122_122 : pg_code 122 122 = some (.invokevirtual 190, 3, 123, 2) := by decide +kernel
theorem u_122_122 {a : Nat} {v0 : Value} {lv : am_L} {st : List Value} : am_W G (am_M G d) 122 K 122 lv (v0 :: .ref a :: st) h nc ns = ((am_words st ≤ 8 ∧ nc + 0 ≤ 0 ∧ ns + 0 ≤ 0 ∧ f_rc (h a) 7) ∧ am_M G d 123 [.ref a, v0] h (am_back 122 K (am_W G (am_M G d) 122 K) 123 122 lv st nc ns)) := (am_u e_122_122).trans (f_iv_eq (a := a) (G := G) (d := d) (k := 122) (K := K) (pc := 122) (lv := lv) (st := st) (h := h) (nc := nc) (ns := ns) (x := 123) (X := am_W G (am_M G d) 122 K) [v0] (by decide) rfl)
theorem e_122_125 : pg_code 122 125 = some (.istore 6, 2, 0, 0) := by decide +kernel
theorem u_122_125 {a : Int32} {lv : am_L} {st : List Value} : am_W G (am_M G d) 122 K 125 lv (.int a :: st) h nc ns = (am_W G (am_M G d) 122 K 127 (am_st1 lv 6 (.int a)) st h nc ns) := (am_u e_122_125).trans (f_t (by decide +kernel))
theorem e_122_127 : pg_code 122 127 = some (.iload_n 3, 1, 0, 0) := by decide +kernel
theorem u_122_127 {a : Int32} {z0 : Option Value} {z1 : Option Value} {z2 : Option Value} {lv : am_L} {st : List Value} : am_W G (am_M G d) 122 K 127 (z0 :: z1 :: z2 :: some (.int a) :: lv) st h nc ns = (am_W G (am_M G d) 122 K 128 (z0 :: z1 :: z2 :: some (.int a) :: lv) (.int a :: st) h nc ns) := am_u e_122_127
theorem e_122_128 : pg_code 122 128 = some (.ifCond .ne 13, 3, 141, 0) := by decide +kernel
theorem u_122_128 {a : Int32} {lv : am_L} {st : List Value} : am_W G (am_M G d) 122 K 128 lv (.int a :: st) h nc ns = (am_br (¬ a = 0) (am_W G (am_M G d) 122 K 141 lv st h nc ns) (am_W G (am_M G d) 122 K 131 lv st h nc ns)) := am_u e_122_128
theorem e_122_131 : pg_code 122 131 = some (.iload 5, 2, 0, 0) := by decide +kernel
theorem u_122_131 {a : Int32} {z0 : Option Value} {z1 : Option Value} {z2 : Option Value} {z3 : Option Value} {z4 : Option Value} {lv : am_L} {st : List Value} : am_W G (am_M G d) 122 K 131 (z0 :: z1 :: z2 :: z3 :: z4 :: some (.int a) :: lv) st h nc ns = (am_W G (am_M G d) 122 K 133 (z0 :: z1 :: z2 :: z3 :: z4 :: some (.int a) :: lv) (.int a :: st) h nc ns) := am_u e_122_131
theorem e_122_133 : pg_code 122 133 = some (.ifCond .ne 8, 3, 141, 0) := by decide +kernel
theorem u_122_133 {a : Int32} {lv : am_L} {st : List Value} : am_W G (am_M G d) 122 K 133 lv (.int a :: st) h nc ns = (am_br (¬ a = 0) (am_W G (am_M G d) 122 K 141 lv st h nc ns) (am_W G (am_M G d) 122 K 136 lv st h nc ns)) := am_u e_122_133
theorem e_122_136 : pg_code 122 136 = some (.iload 6, 2, 0, 0) := by decide +kernel
theorem u_122_136 {a : Int32} {z0 : Option Value} {z1 : Option Value} {z2 : Option Value} {z3 : Option Value} {z4 : Option Value} {z5 : Option Value} {lv : am_L} {st : List Value} : am_W G (am_M G d) 122 K 136 (z0 :: z1 :: z2 :: z3 :: z4 :: z5 :: some (.int a) :: lv) st h nc ns = (am_W G (am_M G d) 122 K 138 (z0 :: z1 :: z2 :: z3 :: z4 :: z5 :: some (.int a) :: lv) (.int a :: st) h nc ns) := am_u e_122_136
theorem e_122_138 : pg_code 122 138 = some (.ifCond .eq 7, 3, 145, 0) := by decide +kernel
theorem u_122_138 {a : Int32} {lv : am_L} {st : List Value} : am_W G (am_M G d) 122 K 138 lv (.int a :: st) h nc ns = (am_br (a = 0) (am_W G (am_M G d) 122 K 145 lv st h nc ns) (am_W G (am_M G d) 122 K 141 lv st h nc ns)) := am_u e_122_138
theorem e_122_141 : pg_code 122 141 = some (.iconst 1, 1, 0, 0) := by decide +kernel
theorem u_122_141 {lv : am_L} {st : List Value} : am_W G (am_M G d) 122 K 141 lv st h nc ns = (am_W G (am_M G d) 122 K 142 lv (.int 1 :: st) h nc ns) := am_u e_122_141
theorem e_122_142 : pg_code 122 142 = some (.goto 4, 3, 146, 0) := by decide +kernel
theorem u_122_142 {lv : am_L} {st : List Value} : am_W G (am_M G d) 122 K 142 lv st h nc ns = (am_W G (am_M G d) 122 K 146 lv st h nc ns) := am_u e_122_142
theorem e_122_145 : pg_code 122 145 = some (.iconst 0, 1, 0, 0) := by decide +kernel
theorem u_122_145 {lv : am_L} {st : List Value} : am_W G (am_M G d) 122 K 145 lv st h nc ns = (am_W G (am_M G d) 122 K 146 lv (.int 0 :: st) h nc ns) := am_u e_122_145
theorem e_122_146 : pg_code 122 146 = some (.istore_n 3, 1, 0, 0) := by decide +kernel
theorem u_122_146 {a : Int32} {lv : am_L} {st : List Value} : am_W G (am_M G d) 122 K 146 lv (.int a :: st) h nc ns = (am_W G (am_M G d) 122 K 147 (am_st1 lv 3 (.int a)) st h nc ns) := (am_u e_122_146).trans (f_t (by decide +kernel))
theorem e_122_147 : pg_code 122 147 = some (.iinc 4 1, 3, 0, 0) := by decide +kernel
theorem u_122_147 {a : Int32} {z0 : Option Value} {z1 : Option Value} {z2 : Option Value} {z3 : Option Value} {lv : am_L} {st : List Value} : am_W G (am_M G d) 122 K 147 (z0 :: z1 :: z2 :: z3 :: some (.int a) :: lv) st h nc ns = (am_W G (am_M G d) 122 K 150 (am_st1 (z0 :: z1 :: z2 :: z3 :: some (.int a) :: lv) 4 (.int (a + Int32.ofInt 1))) st h nc ns) := (am_u e_122_147).trans (f_t (by decide +kernel))
theorem e_122_150 : pg_code 122 150 = some (.goto (-74), 3, 76, 0) := by decide +kernel
theorem u_122_150 {lv : am_L} {st : List Value} : am_W G (am_M G d) 122 K 150 lv st h nc ns = (am_W G (am_M G d) 122 K 76 lv st h nc ns) := am_u e_122_150
theorem e_122_153 : pg_code 122 153 = some (.goto (-86), 3, 67, 0) := by decide +kernel
theorem u_122_153 {lv : am_L} {st : List Value} : am_W G (am_M G d) 122 K 153 lv st h nc ns = (am_W G (am_M G d) 122 K 67 lv st h nc ns) := am_u e_122_153
theorem e_122_156 : pg_code 122 156 = some (.iconst 0, 1, 0, 0) := by decide +kernel
theorem u_122_156 {lv : am_L} {st : List Value} : am_W G (am_M G d) 122 K 156 lv st h nc ns = (am_W G (am_M G d) 122 K 157 lv (.int 0 :: st) h nc ns) := am_u e_122_156
theorem e_122_157 : pg_code 122 157 = some (.istore 4, 2, 0, 0) := by decide +kernel
theorem u_122_157 {a : Int32} {lv : am_L} {st : List Value} : am_W G (am_M G d) 122 K 157 lv (.int a :: st) h nc ns = (am_W G (am_M G d) 122 K 159 (am_st1 lv 4 (.int a)) st h nc ns) := (am_u e_122_157).trans (f_t (by decide +kernel))
theorem e_122_159 : pg_code 122 159 = some (.iconst 0, 1, 0, 0) := by decide +kernel
theorem u_122_159 {lv : am_L} {st : List Value} : am_W G (am_M G d) 122 K 159 lv st h nc ns = (am_W G (am_M G d) 122 K 160 lv (.int 0 :: st) h nc ns) := am_u e_122_159
theorem e_122_160 : pg_code 122 160 = some (.istore 5, 2, 0, 0) := by decide +kernel
theorem u_122_160 {a : Int32} {lv : am_L} {st : List Value} : am_W G (am_M G d) 122 K 160 lv (.int a :: st) h nc ns = (am_W G (am_M G d) 122 K 162 (am_st1 lv 5 (.int a)) st h nc ns) := (am_u e_122_160).trans (f_t (by decide +kernel))
theorem e_122_162 : pg_code 122 162 = some (.iload 5, 2, 0, 0) := by decide +kernel
theorem u_122_162 {a : Int32} {z0 : Option Value} {z1 : Option Value} {z2 : Option Value} {z3 : Option Value} {z4 : Option Value} {lv : am_L} {st : List Value} : am_W G (am_M G d) 122 K 162 (z0 :: z1 :: z2 :: z3 :: z4 :: some (.int a) :: lv) st h nc ns = (am_W G (am_M G d) 122 K 164 (z0 :: z1 :: z2 :: z3 :: z4 :: some (.int a) :: lv) (.int a :: st) h nc ns) := am_u e_122_162
theorem e_122_164 : pg_code 122 164 = some (.aload_n 0, 1, 0, 0) := by decide +kernel
theorem u_122_164 {a : Nat} {lv : am_L} {st : List Value} : am_W G (am_M G d) 122 K 164 (some (.ref a) :: lv) st h nc ns = (am_W G (am_M G d) 122 K 165 (some (.ref a) :: lv) (.ref a :: st) h nc ns) := am_u e_122_164
theorem e_122_165 : pg_code 122 165 = some (.getfield 101, 3, 7, 1) := by decide +kernel
theorem u_122_165 {a : Nat} {lv : am_L} {st : List Value} : am_W G (am_M G d) 122 K 165 lv (.ref a :: st) h nc ns = (f_gf G d 122 K 168 lv st h nc ns (h a) 7 1) := am_u e_122_165
theorem e_122_168 : pg_code 122 168 = some (.if_icmp .ge 48, 3, 216, 0) := by decide +kernel
theorem u_122_168 {a b : Int32} {lv : am_L} {st : List Value} : am_W G (am_M G d) 122 K 168 lv (.int b :: .int a :: st) h nc ns = (am_br (b ≤ a) (am_W G (am_M G d) 122 K 216 lv st h nc ns) (am_W G (am_M G d) 122 K 171 lv st h nc ns)) := am_u e_122_168
theorem e_122_171 : pg_code 122 171 = some (.aload_n 0, 1, 0, 0) := by decide +kernel
theorem u_122_171 {a : Nat} {lv : am_L} {st : List Value} : am_W G (am_M G d) 122 K 171 (some (.ref a) :: lv) st h nc ns = (am_W G (am_M G d) 122 K 172 (some (.ref a) :: lv) (.ref a :: st) h nc ns) := am_u e_122_171
theorem e_122_172 : pg_code 122 172 = some (.getfield 84, 3, 7, 31) := by decide +kernel
theorem u_122_172 {a : Nat} {lv : am_L} {st : List Value} : am_W G (am_M G d) 122 K 172 lv (.ref a :: st) h nc ns = (f_gf G d 122 K 175 lv st h nc ns (h a) 7 31) := am_u e_122_172
theorem e_122_175 : pg_code 122 175 = some (.iload 5, 2, 0, 0) := by decide +kernel
theorem u_122_175 {a : Int32} {z0 : Option Value} {z1 : Option Value} {z2 : Option Value} {z3 : Option Value} {z4 : Option Value} {lv : am_L} {st : List Value} : am_W G (am_M G d) 122 K 175 (z0 :: z1 :: z2 :: z3 :: z4 :: some (.int a) :: lv) st h nc ns = (am_W G (am_M G d) 122 K 177 (z0 :: z1 :: z2 :: z3 :: z4 :: some (.int a) :: lv) (.int a :: st) h nc ns) := am_u e_122_175
theorem e_122_177 : pg_code 122 177 = some (.baload, 1, 0, 0) := by decide +kernel
theorem u_122_177 {a : Nat} {j : Int32} {lv : am_L} {st : List Value} : am_W G (am_M G d) 122 K 177 lv (.int j :: .ref a :: st) h nc ns = (f_ia G d 122 K 178 lv st h nc ns (h a) .boolean j) := am_u e_122_177
theorem e_122_178 : pg_code 122 178 = some (.ifCond .eq 12, 3, 190, 0) := by decide +kernel
theorem u_122_178 {a : Int32} {lv : am_L} {st : List Value} : am_W G (am_M G d) 122 K 178 lv (.int a :: st) h nc ns = (am_br (a = 0) (am_W G (am_M G d) 122 K 190 lv st h nc ns) (am_W G (am_M G d) 122 K 181 lv st h nc ns)) := am_u e_122_178
theorem e_122_181 : pg_code 122 181 = some (.iload 4, 2, 0, 0) := by decide +kernel
theorem u_122_181 {a : Int32} {z0 : Option Value} {z1 : Option Value} {z2 : Option Value} {z3 : Option Value} {lv : am_L} {st : List Value} : am_W G (am_M G d) 122 K 181 (z0 :: z1 :: z2 :: z3 :: some (.int a) :: lv) st h nc ns = (am_W G (am_M G d) 122 K 183 (z0 :: z1 :: z2 :: z3 :: some (.int a) :: lv) (.int a :: st) h nc ns) := am_u e_122_181
theorem e_122_183 : pg_code 122 183 = some (.iload_n 2, 1, 0, 0) := by decide +kernel
theorem u_122_183 {a : Int32} {z0 : Option Value} {z1 : Option Value} {lv : am_L} {st : List Value} : am_W G (am_M G d) 122 K 183 (z0 :: z1 :: some (.int a) :: lv) st h nc ns = (am_W G (am_M G d) 122 K 184 (z0 :: z1 :: some (.int a) :: lv) (.int a :: st) h nc ns) := am_u e_122_183
theorem e_122_184 : pg_code 122 184 = some (.if_icmp .ne 6, 3, 190, 0) := by decide +kernel
theorem u_122_184 {a b : Int32} {lv : am_L} {st : List Value} : am_W G (am_M G d) 122 K 184 lv (.int b :: .int a :: st) h nc ns = (am_br (¬ a = b) (am_W G (am_M G d) 122 K 190 lv st h nc ns) (am_W G (am_M G d) 122 K 187 lv st h nc ns)) := am_u e_122_184
theorem e_122_187 : pg_code 122 187 = some (.iload 5, 2, 0, 0) := by decide +kernel
theorem u_122_187 {a : Int32} {z0 : Option Value} {z1 : Option Value} {z2 : Option Value} {z3 : Option Value} {z4 : Option Value} {lv : am_L} {st : List Value} : am_W G (am_M G d) 122 K 187 (z0 :: z1 :: z2 :: z3 :: z4 :: some (.int a) :: lv) st h nc ns = (am_W G (am_M G d) 122 K 189 (z0 :: z1 :: z2 :: z3 :: z4 :: some (.int a) :: lv) (.int a :: st) h nc ns) := am_u e_122_187
theorem e_122_189 : pg_code 122 189 = some (.ireturn, 1, 0, 0) := by decide +kernel
theorem u_122_189 {a : Int32} {lv : am_L} : am_W G (am_M G d) 122 K 189 lv [.int a] h nc ns = (K (.inl (some (.int a))) h) := (am_u e_122_189).trans (f_t ⟨rfl, .int, rfl, rfl⟩)
theorem e_122_190 : pg_code 122 190 = some (.iload 4, 2, 0, 0) := by decide +kernel
theorem u_122_190 {a : Int32} {z0 : Option Value} {z1 : Option Value} {z2 : Option Value} {z3 : Option Value} {lv : am_L} {st : List Value} : am_W G (am_M G d) 122 K 190 (z0 :: z1 :: z2 :: z3 :: some (.int a) :: lv) st h nc ns = (am_W G (am_M G d) 122 K 192 (z0 :: z1 :: z2 :: z3 :: some (.int a) :: lv) (.int a :: st) h nc ns) := am_u e_122_190
theorem e_122_192 : pg_code 122 192 = some (.aload_n 0, 1, 0, 0) := by decide +kernel
theorem u_122_192 {a : Nat} {lv : am_L} {st : List Value} : am_W G (am_M G d) 122 K 192 (some (.ref a) :: lv) st h nc ns = (am_W G (am_M G d) 122 K 193 (some (.ref a) :: lv) (.ref a :: st) h nc ns) := am_u e_122_192
theorem e_122_193 : pg_code 122 193 = some (.getfield 84, 3, 7, 31) := by decide +kernel
theorem u_122_193 {a : Nat} {lv : am_L} {st : List Value} : am_W G (am_M G d) 122 K 193 lv (.ref a :: st) h nc ns = (f_gf G d 122 K 196 lv st h nc ns (h a) 7 31) := am_u e_122_193
theorem e_122_196 : pg_code 122 196 = some (.iload 5, 2, 0, 0) := by decide +kernel
theorem u_122_196 {a : Int32} {z0 : Option Value} {z1 : Option Value} {z2 : Option Value} {z3 : Option Value} {z4 : Option Value} {lv : am_L} {st : List Value} : am_W G (am_M G d) 122 K 196 (z0 :: z1 :: z2 :: z3 :: z4 :: some (.int a) :: lv) st h nc ns = (am_W G (am_M G d) 122 K 198 (z0 :: z1 :: z2 :: z3 :: z4 :: some (.int a) :: lv) (.int a :: st) h nc ns) := am_u e_122_196
theorem e_122_198 : pg_code 122 198 = some (.baload, 1, 0, 0) := by decide +kernel
theorem u_122_198 {a : Nat} {j : Int32} {lv : am_L} {st : List Value} : am_W G (am_M G d) 122 K 198 lv (.int j :: .ref a :: st) h nc ns = (f_ia G d 122 K 199 lv st h nc ns (h a) .boolean j) := am_u e_122_198
theorem e_122_199 : pg_code 122 199 = some (.ifCond .eq 7, 3, 206, 0) := by decide +kernel
theorem u_122_199 {a : Int32} {lv : am_L} {st : List Value} : am_W G (am_M G d) 122 K 199 lv (.int a :: st) h nc ns = (am_br (a = 0) (am_W G (am_M G d) 122 K 206 lv st h nc ns) (am_W G (am_M G d) 122 K 202 lv st h nc ns)) := am_u e_122_199
theorem e_122_202 : pg_code 122 202 = some (.iconst 1, 1, 0, 0) := by decide +kernel
theorem u_122_202 {lv : am_L} {st : List Value} : am_W G (am_M G d) 122 K 202 lv st h nc ns = (am_W G (am_M G d) 122 K 203 lv (.int 1 :: st) h nc ns) := am_u e_122_202
theorem e_122_203 : pg_code 122 203 = some (.goto 4, 3, 207, 0) := by decide +kernel
theorem u_122_203 {lv : am_L} {st : List Value} : am_W G (am_M G d) 122 K 203 lv st h nc ns = (am_W G (am_M G d) 122 K 207 lv st h nc ns) := am_u e_122_203
theorem e_122_206 : pg_code 122 206 = some (.iconst 0, 1, 0, 0) := by decide +kernel
theorem u_122_206 {lv : am_L} {st : List Value} : am_W G (am_M G d) 122 K 206 lv st h nc ns = (am_W G (am_M G d) 122 K 207 lv (.int 0 :: st) h nc ns) := am_u e_122_206
theorem e_122_207 : pg_code 122 207 = some (.iadd, 1, 0, 0) := by decide +kernel
theorem u_122_207 {a b : Int32} {lv : am_L} {st : List Value} : am_W G (am_M G d) 122 K 207 lv (.int b :: .int a :: st) h nc ns = (am_W G (am_M G d) 122 K 208 lv (.int (a + b) :: st) h nc ns) := am_u e_122_207
theorem e_122_208 : pg_code 122 208 = some (.istore 4, 2, 0, 0) := by decide +kernel
theorem u_122_208 {a : Int32} {lv : am_L} {st : List Value} : am_W G (am_M G d) 122 K 208 lv (.int a :: st) h nc ns = (am_W G (am_M G d) 122 K 210 (am_st1 lv 4 (.int a)) st h nc ns) := (am_u e_122_208).trans (f_t (by decide +kernel))
theorem e_122_210 : pg_code 122 210 = some (.iinc 5 1, 3, 0, 0) := by decide +kernel
theorem u_122_210 {a : Int32} {z0 : Option Value} {z1 : Option Value} {z2 : Option Value} {z3 : Option Value} {z4 : Option Value} {lv : am_L} {st : List Value} : am_W G (am_M G d) 122 K 210 (z0 :: z1 :: z2 :: z3 :: z4 :: some (.int a) :: lv) st h nc ns = (am_W G (am_M G d) 122 K 213 (am_st1 (z0 :: z1 :: z2 :: z3 :: z4 :: some (.int a) :: lv) 5 (.int (a + Int32.ofInt 1))) st h nc ns) := (am_u e_122_210).trans (f_t (by decide +kernel))
theorem e_122_213 : pg_code 122 213 = some (.goto (-51), 3, 162, 0) := by decide +kernel
theorem u_122_213 {lv : am_L} {st : List Value} : am_W G (am_M G d) 122 K 213 lv st h nc ns = (am_W G (am_M G d) 122 K 162 lv st h nc ns) := am_u e_122_213
theorem e_122_216 : pg_code 122 216 = some (.aload_n 0, 1, 0, 0) := by decide +kernel
theorem u_122_216 {a : Nat} {lv : am_L} {st : List Value} : am_W G (am_M G d) 122 K 216 (some (.ref a) :: lv) st h nc ns = (am_W G (am_M G d) 122 K 217 (some (.ref a) :: lv) (.ref a :: st) h nc ns) := am_u e_122_216
theorem e_122_217 : pg_code 122 217 = some (.iconst 1, 1, 0, 0) := by decide +kernel
theorem u_122_217 {lv : am_L} {st : List Value} : am_W G (am_M G d) 122 K 217 lv st h nc ns = (am_W G (am_M G d) 122 K 218 lv (.int 1 :: st) h nc ns) := am_u e_122_217
theorem e_122_218 : pg_code 122 218 = some (.invokevirtual 104, 3, 85, 2) := by decide +kernel
theorem u_122_218 {a : Nat} {v0 : Value} {lv : am_L} {st : List Value} : am_W G (am_M G d) 122 K 218 lv (v0 :: .ref a :: st) h nc ns = ((am_words st ≤ 8 ∧ nc + 0 ≤ 0 ∧ ns + 0 ≤ 0 ∧ f_rc (h a) 7) ∧ am_M G d 85 [.ref a, v0] h (am_back 122 K (am_W G (am_M G d) 122 K) 85 218 lv st nc ns)) := (am_u e_122_218).trans (f_iv_eq (a := a) (G := G) (d := d) (k := 122) (K := K) (pc := 218) (lv := lv) (st := st) (h := h) (nc := nc) (ns := ns) (x := 85) (X := am_W G (am_M G d) 122 K) [v0] (by decide) rfl)
theorem e_122_221 : pg_code 122 221 = some (.ireturn, 1, 0, 0) := by decide +kernel
theorem u_122_221 {a : Int32} {lv : am_L} : am_W G (am_M G d) 122 K 221 lv [.int a] h nc ns = (K (.inl (some (.int a))) h) := (am_u e_122_221).trans (f_t ⟨rfl, .int, rfl, rfl⟩)
theorem e_123_0 : pg_code 123 0 = some (.iload_n 1, 1, 0, 0) := by decide +kernel
theorem u_123_0 {a : Int32} {z0 : Option Value} {lv : am_L} {st : List Value} : am_W G (am_M G d) 123 K 0 (z0 :: some (.int a) :: lv) st h nc ns = (am_W G (am_M G d) 123 K 1 (z0 :: some (.int a) :: lv) (.int a :: st) h nc ns) := am_u e_123_0
theorem e_123_1 : pg_code 123 1 = some (.ifCond .ge 14, 3, 15, 0) := by decide +kernel
theorem u_123_1 {a : Int32} {lv : am_L} {st : List Value} : am_W G (am_M G d) 123 K 1 lv (.int a :: st) h nc ns = (am_br (0 ≤ a) (am_W G (am_M G d) 123 K 15 lv st h nc ns) (am_W G (am_M G d) 123 K 4 lv st h nc ns)) := am_u e_123_1
theorem e_123_4 : pg_code 123 4 = some (.aload_n 0, 1, 0, 0) := by decide +kernel
theorem u_123_4 {a : Nat} {lv : am_L} {st : List Value} : am_W G (am_M G d) 123 K 4 (some (.ref a) :: lv) st h nc ns = (am_W G (am_M G d) 123 K 5 (some (.ref a) :: lv) (.ref a :: st) h nc ns) := am_u e_123_4
theorem e_123_5 : pg_code 123 5 = some (.getfield 84, 3, 7, 31) := by decide +kernel
theorem u_123_5 {a : Nat} {lv : am_L} {st : List Value} : am_W G (am_M G d) 123 K 5 lv (.ref a :: st) h nc ns = (f_gf G d 123 K 8 lv st h nc ns (h a) 7 31) := am_u e_123_5
theorem e_123_8 : pg_code 123 8 = some (.iconst (-1), 1, 0, 0) := by decide +kernel
theorem u_123_8 {lv : am_L} {st : List Value} : am_W G (am_M G d) 123 K 8 lv st h nc ns = (am_W G (am_M G d) 123 K 9 lv (.int (-1) :: st) h nc ns) := am_u e_123_8
theorem e_123_9 : pg_code 123 9 = some (.iload_n 1, 1, 0, 0) := by decide +kernel
theorem u_123_9 {a : Int32} {z0 : Option Value} {lv : am_L} {st : List Value} : am_W G (am_M G d) 123 K 9 (z0 :: some (.int a) :: lv) st h nc ns = (am_W G (am_M G d) 123 K 10 (z0 :: some (.int a) :: lv) (.int a :: st) h nc ns) := am_u e_123_9
theorem e_123_10 : pg_code 123 10 = some (.isub, 1, 0, 0) := by decide +kernel
theorem u_123_10 {a b : Int32} {lv : am_L} {st : List Value} : am_W G (am_M G d) 123 K 10 lv (.int b :: .int a :: st) h nc ns = (am_W G (am_M G d) 123 K 11 lv (.int (a - b) :: st) h nc ns) := am_u e_123_10
theorem e_123_11 : pg_code 123 11 = some (.iconst 1, 1, 0, 0) := by decide +kernel
theorem u_123_11 {lv : am_L} {st : List Value} : am_W G (am_M G d) 123 K 11 lv st h nc ns = (am_W G (am_M G d) 123 K 12 lv (.int 1 :: st) h nc ns) := am_u e_123_11
theorem e_123_12 : pg_code 123 12 = some (.bastore, 1, 0, 0) := by decide +kernel
theorem u_123_12 {a : Nat} {j b : Int32} {lv : am_L} {st : List Value} : am_W G (am_M G d) 123 K 12 lv (.int b :: .int j :: .ref a :: st) h nc ns = (f_is G d 123 K 13 lv st h nc ns (h a) .boolean a j (vp_nar .boolean b)) := am_u e_123_12
theorem e_123_13 : pg_code 123 13 = some (.iconst 0, 1, 0, 0) := by decide +kernel
theorem u_123_13 {lv : am_L} {st : List Value} : am_W G (am_M G d) 123 K 13 lv st h nc ns = (am_W G (am_M G d) 123 K 14 lv (.int 0 :: st) h nc ns) := am_u e_123_13
theorem e_123_14 : pg_code 123 14 = some (.ireturn, 1, 0, 0) := by decide +kernel
theorem u_123_14 {a : Int32} {lv : am_L} : am_W G (am_M G d) 123 K 14 lv [.int a] h nc ns = (narrow .boolean (.int a) = .int a ∧ K (.inl (some (.int a))) h) := (am_u e_123_14).trans (f_z_eq rfl)
theorem e_123_15 : pg_code 123 15 = some (.aload_n 0, 1, 0, 0) := by decide +kernel
theorem u_123_15 {a : Nat} {lv : am_L} {st : List Value} : am_W G (am_M G d) 123 K 15 (some (.ref a) :: lv) st h nc ns = (am_W G (am_M G d) 123 K 16 (some (.ref a) :: lv) (.ref a :: st) h nc ns) := am_u e_123_15
theorem e_123_16 : pg_code 123 16 = some (.getfield 78, 3, 7, 29) := by decide +kernel
theorem u_123_16 {a : Nat} {lv : am_L} {st : List Value} : am_W G (am_M G d) 123 K 16 lv (.ref a :: st) h nc ns = (f_gf G d 123 K 19 lv st h nc ns (h a) 7 29) := am_u e_123_16
theorem e_123_19 : pg_code 123 19 = some (.iload_n 1, 1, 0, 0) := by decide +kernel
theorem u_123_19 {a : Int32} {z0 : Option Value} {lv : am_L} {st : List Value} : am_W G (am_M G d) 123 K 19 (z0 :: some (.int a) :: lv) st h nc ns = (am_W G (am_M G d) 123 K 20 (z0 :: some (.int a) :: lv) (.int a :: st) h nc ns) := am_u e_123_19
theorem e_123_20 : pg_code 123 20 = some (.baload, 1, 0, 0) := by decide +kernel
theorem u_123_20 {a : Nat} {j : Int32} {lv : am_L} {st : List Value} : am_W G (am_M G d) 123 K 20 lv (.int j :: .ref a :: st) h nc ns = (f_ia G d 123 K 21 lv st h nc ns (h a) .boolean j) := am_u e_123_20
theorem e_123_21 : pg_code 123 21 = some (.ifCond .ne 7, 3, 28, 0) := by decide +kernel
theorem u_123_21 {a : Int32} {lv : am_L} {st : List Value} : am_W G (am_M G d) 123 K 21 lv (.int a :: st) h nc ns = (am_br (¬ a = 0) (am_W G (am_M G d) 123 K 28 lv st h nc ns) (am_W G (am_M G d) 123 K 24 lv st h nc ns)) := am_u e_123_21
theorem e_123_24 : pg_code 123 24 = some (.iconst 1, 1, 0, 0) := by decide +kernel
theorem u_123_24 {lv : am_L} {st : List Value} : am_W G (am_M G d) 123 K 24 lv st h nc ns = (am_W G (am_M G d) 123 K 25 lv (.int 1 :: st) h nc ns) := am_u e_123_24
theorem e_123_25 : pg_code 123 25 = some (.goto 4, 3, 29, 0) := by decide +kernel
theorem u_123_25 {lv : am_L} {st : List Value} : am_W G (am_M G d) 123 K 25 lv st h nc ns = (am_W G (am_M G d) 123 K 29 lv st h nc ns) := am_u e_123_25
theorem e_123_28 : pg_code 123 28 = some (.iconst 0, 1, 0, 0) := by decide +kernel
theorem u_123_28 {lv : am_L} {st : List Value} : am_W G (am_M G d) 123 K 28 lv st h nc ns = (am_W G (am_M G d) 123 K 29 lv (.int 0 :: st) h nc ns) := am_u e_123_28
theorem e_123_29 : pg_code 123 29 = some (.istore_n 2, 1, 0, 0) := by decide +kernel
theorem u_123_29 {a : Int32} {lv : am_L} {st : List Value} : am_W G (am_M G d) 123 K 29 lv (.int a :: st) h nc ns = (am_W G (am_M G d) 123 K 30 (am_st1 lv 2 (.int a)) st h nc ns) := (am_u e_123_29).trans (f_t (by decide +kernel))
theorem e_123_30 : pg_code 123 30 = some (.aload_n 0, 1, 0, 0) := by decide +kernel
theorem u_123_30 {a : Nat} {lv : am_L} {st : List Value} : am_W G (am_M G d) 123 K 30 (some (.ref a) :: lv) st h nc ns = (am_W G (am_M G d) 123 K 31 (some (.ref a) :: lv) (.ref a :: st) h nc ns) := am_u e_123_30
theorem e_123_31 : pg_code 123 31 = some (.getfield 78, 3, 7, 29) := by decide +kernel
theorem u_123_31 {a : Nat} {lv : am_L} {st : List Value} : am_W G (am_M G d) 123 K 31 lv (.ref a :: st) h nc ns = (f_gf G d 123 K 34 lv st h nc ns (h a) 7 29) := am_u e_123_31
theorem e_123_34 : pg_code 123 34 = some (.iload_n 1, 1, 0, 0) := by decide +kernel
theorem u_123_34 {a : Int32} {z0 : Option Value} {lv : am_L} {st : List Value} : am_W G (am_M G d) 123 K 34 (z0 :: some (.int a) :: lv) st h nc ns = (am_W G (am_M G d) 123 K 35 (z0 :: some (.int a) :: lv) (.int a :: st) h nc ns) := am_u e_123_34
theorem e_123_35 : pg_code 123 35 = some (.iconst 1, 1, 0, 0) := by decide +kernel
theorem u_123_35 {lv : am_L} {st : List Value} : am_W G (am_M G d) 123 K 35 lv st h nc ns = (am_W G (am_M G d) 123 K 36 lv (.int 1 :: st) h nc ns) := am_u e_123_35
theorem e_123_36 : pg_code 123 36 = some (.bastore, 1, 0, 0) := by decide +kernel
theorem u_123_36 {a : Nat} {j b : Int32} {lv : am_L} {st : List Value} : am_W G (am_M G d) 123 K 36 lv (.int b :: .int j :: .ref a :: st) h nc ns = (f_is G d 123 K 37 lv st h nc ns (h a) .boolean a j (vp_nar .boolean b)) := am_u e_123_36
theorem e_123_37 : pg_code 123 37 = some (.iload_n 2, 1, 0, 0) := by decide +kernel
theorem u_123_37 {a : Int32} {z0 : Option Value} {z1 : Option Value} {lv : am_L} {st : List Value} : am_W G (am_M G d) 123 K 37 (z0 :: z1 :: some (.int a) :: lv) st h nc ns = (am_W G (am_M G d) 123 K 38 (z0 :: z1 :: some (.int a) :: lv) (.int a :: st) h nc ns) := am_u e_123_37
theorem e_123_38 : pg_code 123 38 = some (.ireturn, 1, 0, 0) := by decide +kernel
theorem u_123_38 {a : Int32} {lv : am_L} : am_W G (am_M G d) 123 K 38 lv [.int a] h nc ns = (narrow .boolean (.int a) = .int a ∧ K (.inl (some (.int a))) h) := (am_u e_123_38).trans (f_z_eq rfl)
theorem e_124_0 : pg_code 124 0 = some (.aload_n 0, 1, 0, 0) := by decide +kernel
theorem u_124_0 {a : Nat} {lv : am_L} {st : List Value} : am_W G (am_M G d) 124 K 0 (some (.ref a) :: lv) st h nc ns = (am_W G (am_M G d) 124 K 1 (some (.ref a) :: lv) (.ref a :: st) h nc ns) := am_u e_124_0
theorem e_124_1 : pg_code 124 1 = some (.iconst 0, 1, 0, 0) := by decide +kernel
theorem u_124_1 {lv : am_L} {st : List Value} : am_W G (am_M G d) 124 K 1 lv st h nc ns = (am_W G (am_M G d) 124 K 2 lv (.int 0 :: st) h nc ns) := am_u e_124_1
theorem e_124_2 : pg_code 124 2 = some (.putfield 90, 3, 7, 0) := by decide +kernel
theorem u_124_2 {a : Nat} {b : Int32} {lv : am_L} {st : List Value} : am_W G (am_M G d) 124 K 2 lv (.int b :: .ref a :: st) h nc ns = (f_pf G d 124 K 5 lv st h nc ns (h a) 7 0 a (.int b)) := (am_u e_124_2).trans (f_pf_eq ⟨rfl, rfl⟩)
theorem e_124_5 : pg_code 124 5 = some (.aload_n 0, 1, 0, 0) := by decide +kernel
theorem u_124_5 {a : Nat} {lv : am_L} {st : List Value} : am_W G (am_M G d) 124 K 5 (some (.ref a) :: lv) st h nc ns = (am_W G (am_M G d) 124 K 6 (some (.ref a) :: lv) (.ref a :: st) h nc ns) := am_u e_124_5
theorem e_124_6 : pg_code 124 6 = some (.invokevirtual 196, 3, 125, 1) := by decide +kernel
theorem u_124_6 {a : Nat} {lv : am_L} {st : List Value} : am_W G (am_M G d) 124 K 6 lv (.ref a :: st) h nc ns = ((am_words st ≤ 8 ∧ nc + 0 ≤ 0 ∧ ns + 0 ≤ 0 ∧ f_rc (h a) 7) ∧ am_M G d 125 [.ref a] h (am_back 124 K (am_W G (am_M G d) 124 K) 125 6 lv st nc ns)) := (am_u e_124_6).trans (f_iv_eq (a := a) (G := G) (d := d) (k := 124) (K := K) (pc := 6) (lv := lv) (st := st) (h := h) (nc := nc) (ns := ns) (x := 125) (X := am_W G (am_M G d) 124 K) [] (by decide) rfl)
theorem e_124_9 : pg_code 124 9 = some (.ireturn, 1, 0, 0) := by decide +kernel
theorem u_124_9 {a : Int32} {lv : am_L} : am_W G (am_M G d) 124 K 9 lv [.int a] h nc ns = (K (.inl (some (.int a))) h) := (am_u e_124_9).trans (f_t ⟨rfl, .int, rfl, rfl⟩)
theorem e_125_0 : pg_code 125 0 = some (.iconst 0, 1, 0, 0) := by decide +kernel
theorem u_125_0 {lv : am_L} {st : List Value} : am_W G (am_M G d) 125 K 0 lv st h nc ns = (am_W G (am_M G d) 125 K 1 lv (.int 0 :: st) h nc ns) := am_u e_125_0
theorem e_125_1 : pg_code 125 1 = some (.istore_n 1, 1, 0, 0) := by decide +kernel
theorem u_125_1 {a : Int32} {lv : am_L} {st : List Value} : am_W G (am_M G d) 125 K 1 lv (.int a :: st) h nc ns = (am_W G (am_M G d) 125 K 2 (am_st1 lv 1 (.int a)) st h nc ns) := (am_u e_125_1).trans (f_t (by decide +kernel))
theorem e_125_2 : pg_code 125 2 = some (.iconst (-1), 1, 0, 0) := by decide +kernel
theorem u_125_2 {lv : am_L} {st : List Value} : am_W G (am_M G d) 125 K 2 lv st h nc ns = (am_W G (am_M G d) 125 K 3 lv (.int (-1) :: st) h nc ns) := am_u e_125_2
theorem e_125_3 : pg_code 125 3 = some (.istore_n 2, 1, 0, 0) := by decide +kernel
theorem u_125_3 {a : Int32} {lv : am_L} {st : List Value} : am_W G (am_M G d) 125 K 3 lv (.int a :: st) h nc ns = (am_W G (am_M G d) 125 K 4 (am_st1 lv 2 (.int a)) st h nc ns) := (am_u e_125_3).trans (f_t (by decide +kernel))
theorem e_125_4 : pg_code 125 4 = some (.iconst 0, 1, 0, 0) := by decide +kernel
theorem u_125_4 {lv : am_L} {st : List Value} : am_W G (am_M G d) 125 K 4 lv st h nc ns = (am_W G (am_M G d) 125 K 5 lv (.int 0 :: st) h nc ns) := am_u e_125_4
theorem e_125_5 : pg_code 125 5 = some (.istore_n 3, 1, 0, 0) := by decide +kernel
theorem u_125_5 {a : Int32} {lv : am_L} {st : List Value} : am_W G (am_M G d) 125 K 5 lv (.int a :: st) h nc ns = (am_W G (am_M G d) 125 K 6 (am_st1 lv 3 (.int a)) st h nc ns) := (am_u e_125_5).trans (f_t (by decide +kernel))
theorem e_125_6 : pg_code 125 6 = some (.iload_n 3, 1, 0, 0) := by decide +kernel
theorem u_125_6 {a : Int32} {z0 : Option Value} {z1 : Option Value} {z2 : Option Value} {lv : am_L} {st : List Value} : am_W G (am_M G d) 125 K 6 (z0 :: z1 :: z2 :: some (.int a) :: lv) st h nc ns = (am_W G (am_M G d) 125 K 7 (z0 :: z1 :: z2 :: some (.int a) :: lv) (.int a :: st) h nc ns) := am_u e_125_6
theorem e_125_7 : pg_code 125 7 = some (.aload_n 0, 1, 0, 0) := by decide +kernel
theorem u_125_7 {a : Nat} {lv : am_L} {st : List Value} : am_W G (am_M G d) 125 K 7 (some (.ref a) :: lv) st h nc ns = (am_W G (am_M G d) 125 K 8 (some (.ref a) :: lv) (.ref a :: st) h nc ns) := am_u e_125_7
theorem e_125_8 : pg_code 125 8 = some (.getfield 119, 3, 7, 2) := by decide +kernel
theorem u_125_8 {a : Nat} {lv : am_L} {st : List Value} : am_W G (am_M G d) 125 K 8 lv (.ref a :: st) h nc ns = (f_gf G d 125 K 11 lv st h nc ns (h a) 7 2) := am_u e_125_8
theorem e_125_11 : pg_code 125 11 = some (.if_icmp .ge 46, 3, 57, 0) := by decide +kernel
theorem u_125_11 {a b : Int32} {lv : am_L} {st : List Value} : am_W G (am_M G d) 125 K 11 lv (.int b :: .int a :: st) h nc ns = (am_br (b ≤ a) (am_W G (am_M G d) 125 K 57 lv st h nc ns) (am_W G (am_M G d) 125 K 14 lv st h nc ns)) := am_u e_125_11
theorem e_125_14 : pg_code 125 14 = some (.aload_n 0, 1, 0, 0) := by decide +kernel
theorem u_125_14 {a : Nat} {lv : am_L} {st : List Value} : am_W G (am_M G d) 125 K 14 (some (.ref a) :: lv) st h nc ns = (am_W G (am_M G d) 125 K 15 (some (.ref a) :: lv) (.ref a :: st) h nc ns) := am_u e_125_14
theorem e_125_15 : pg_code 125 15 = some (.iload_n 3, 1, 0, 0) := by decide +kernel
theorem u_125_15 {a : Int32} {z0 : Option Value} {z1 : Option Value} {z2 : Option Value} {lv : am_L} {st : List Value} : am_W G (am_M G d) 125 K 15 (z0 :: z1 :: z2 :: some (.int a) :: lv) st h nc ns = (am_W G (am_M G d) 125 K 16 (z0 :: z1 :: z2 :: some (.int a) :: lv) (.int a :: st) h nc ns) := am_u e_125_15
theorem e_125_16 : pg_code 125 16 = some (.invokevirtual 135, 3, 99, 2) := by decide +kernel
theorem u_125_16 {a : Nat} {v0 : Value} {lv : am_L} {st : List Value} : am_W G (am_M G d) 125 K 16 lv (v0 :: .ref a :: st) h nc ns = ((am_words st ≤ 8 ∧ nc + 0 ≤ 0 ∧ ns + 0 ≤ 0 ∧ f_rc (h a) 7) ∧ am_M G d 99 [.ref a, v0] h (am_back 125 K (am_W G (am_M G d) 125 K) 99 16 lv st nc ns)) := (am_u e_125_16).trans (f_iv_eq (a := a) (G := G) (d := d) (k := 125) (K := K) (pc := 16) (lv := lv) (st := st) (h := h) (nc := nc) (ns := ns) (x := 99) (X := am_W G (am_M G d) 125 K) [v0] (by decide) rfl)
theorem e_125_19 : pg_code 125 19 = some (.aload_n 0, 1, 0, 0) := by decide +kernel
theorem u_125_19 {a : Nat} {lv : am_L} {st : List Value} : am_W G (am_M G d) 125 K 19 (some (.ref a) :: lv) st h nc ns = (am_W G (am_M G d) 125 K 20 (some (.ref a) :: lv) (.ref a :: st) h nc ns) := am_u e_125_19
theorem e_125_20 : pg_code 125 20 = some (.getfield 81, 3, 7, 30) := by decide +kernel
theorem u_125_20 {a : Nat} {lv : am_L} {st : List Value} : am_W G (am_M G d) 125 K 20 lv (.ref a :: st) h nc ns = (f_gf G d 125 K 23 lv st h nc ns (h a) 7 30) := am_u e_125_20
theorem e_125_23 : pg_code 125 23 = some (.iload_n 3, 1, 0, 0) := by decide +kernel
theorem u_125_23 {a : Int32} {z0 : Option Value} {z1 : Option Value} {z2 : Option Value} {lv : am_L} {st : List Value} : am_W G (am_M G d) 125 K 23 (z0 :: z1 :: z2 :: some (.int a) :: lv) st h nc ns = (am_W G (am_M G d) 125 K 24 (z0 :: z1 :: z2 :: some (.int a) :: lv) (.int a :: st) h nc ns) := am_u e_125_23
theorem e_125_24 : pg_code 125 24 = some (.iaload, 1, 0, 0) := by decide +kernel
theorem u_125_24 {a : Nat} {j : Int32} {lv : am_L} {st : List Value} : am_W G (am_M G d) 125 K 24 lv (.int j :: .ref a :: st) h nc ns = (f_ia G d 125 K 25 lv st h nc ns (h a) .int j) := am_u e_125_24
theorem e_125_25 : pg_code 125 25 = some (.ifCond .le 26, 3, 51, 0) := by decide +kernel
theorem u_125_25 {a : Int32} {lv : am_L} {st : List Value} : am_W G (am_M G d) 125 K 25 lv (.int a :: st) h nc ns = (am_br (a ≤ 0) (am_W G (am_M G d) 125 K 51 lv st h nc ns) (am_W G (am_M G d) 125 K 28 lv st h nc ns)) := am_u e_125_25
theorem e_125_28 : pg_code 125 28 = some (.iload_n 2, 1, 0, 0) := by decide +kernel
theorem u_125_28 {a : Int32} {z0 : Option Value} {z1 : Option Value} {lv : am_L} {st : List Value} : am_W G (am_M G d) 125 K 28 (z0 :: z1 :: some (.int a) :: lv) st h nc ns = (am_W G (am_M G d) 125 K 29 (z0 :: z1 :: some (.int a) :: lv) (.int a :: st) h nc ns) := am_u e_125_28
theorem e_125_29 : pg_code 125 29 = some (.ifCond .lt 13, 3, 42, 0) := by decide +kernel
theorem u_125_29 {a : Int32} {lv : am_L} {st : List Value} : am_W G (am_M G d) 125 K 29 lv (.int a :: st) h nc ns = (am_br (a < 0) (am_W G (am_M G d) 125 K 42 lv st h nc ns) (am_W G (am_M G d) 125 K 32 lv st h nc ns)) := am_u e_125_29
theorem e_125_32 : pg_code 125 32 = some (.aload_n 0, 1, 0, 0) := by decide +kernel
theorem u_125_32 {a : Nat} {lv : am_L} {st : List Value} : am_W G (am_M G d) 125 K 32 (some (.ref a) :: lv) st h nc ns = (am_W G (am_M G d) 125 K 33 (some (.ref a) :: lv) (.ref a :: st) h nc ns) := am_u e_125_32
theorem e_125_33 : pg_code 125 33 = some (.getfield 81, 3, 7, 30) := by decide +kernel
theorem u_125_33 {a : Nat} {lv : am_L} {st : List Value} : am_W G (am_M G d) 125 K 33 lv (.ref a :: st) h nc ns = (f_gf G d 125 K 36 lv st h nc ns (h a) 7 30) := am_u e_125_33
theorem e_125_36 : pg_code 125 36 = some (.iload_n 3, 1, 0, 0) := by decide +kernel
theorem u_125_36 {a : Int32} {z0 : Option Value} {z1 : Option Value} {z2 : Option Value} {lv : am_L} {st : List Value} : am_W G (am_M G d) 125 K 36 (z0 :: z1 :: z2 :: some (.int a) :: lv) st h nc ns = (am_W G (am_M G d) 125 K 37 (z0 :: z1 :: z2 :: some (.int a) :: lv) (.int a :: st) h nc ns) := am_u e_125_36
theorem e_125_37 : pg_code 125 37 = some (.iaload, 1, 0, 0) := by decide +kernel
theorem u_125_37 {a : Nat} {j : Int32} {lv : am_L} {st : List Value} : am_W G (am_M G d) 125 K 37 lv (.int j :: .ref a :: st) h nc ns = (f_ia G d 125 K 38 lv st h nc ns (h a) .int j) := am_u e_125_37
theorem e_125_38 : pg_code 125 38 = some (.iload_n 1, 1, 0, 0) := by decide +kernel
theorem u_125_38 {a : Int32} {z0 : Option Value} {lv : am_L} {st : List Value} : am_W G (am_M G d) 125 K 38 (z0 :: some (.int a) :: lv) st h nc ns = (am_W G (am_M G d) 125 K 39 (z0 :: some (.int a) :: lv) (.int a :: st) h nc ns) := am_u e_125_38
theorem e_125_39 : pg_code 125 39 = some (.if_icmp .ge 12, 3, 51, 0) := by decide +kernel
theorem u_125_39 {a b : Int32} {lv : am_L} {st : List Value} : am_W G (am_M G d) 125 K 39 lv (.int b :: .int a :: st) h nc ns = (am_br (b ≤ a) (am_W G (am_M G d) 125 K 51 lv st h nc ns) (am_W G (am_M G d) 125 K 42 lv st h nc ns)) := am_u e_125_39
theorem e_125_42 : pg_code 125 42 = some (.aload_n 0, 1, 0, 0) := by decide +kernel
theorem u_125_42 {a : Nat} {lv : am_L} {st : List Value} : am_W G (am_M G d) 125 K 42 (some (.ref a) :: lv) st h nc ns = (am_W G (am_M G d) 125 K 43 (some (.ref a) :: lv) (.ref a :: st) h nc ns) := am_u e_125_42
theorem e_125_43 : pg_code 125 43 = some (.getfield 81, 3, 7, 30) := by decide +kernel
theorem u_125_43 {a : Nat} {lv : am_L} {st : List Value} : am_W G (am_M G d) 125 K 43 lv (.ref a :: st) h nc ns = (f_gf G d 125 K 46 lv st h nc ns (h a) 7 30) := am_u e_125_43
theorem e_125_46 : pg_code 125 46 = some (.iload_n 3, 1, 0, 0) := by decide +kernel
theorem u_125_46 {a : Int32} {z0 : Option Value} {z1 : Option Value} {z2 : Option Value} {lv : am_L} {st : List Value} : am_W G (am_M G d) 125 K 46 (z0 :: z1 :: z2 :: some (.int a) :: lv) st h nc ns = (am_W G (am_M G d) 125 K 47 (z0 :: z1 :: z2 :: some (.int a) :: lv) (.int a :: st) h nc ns) := am_u e_125_46
theorem e_125_47 : pg_code 125 47 = some (.iaload, 1, 0, 0) := by decide +kernel
theorem u_125_47 {a : Nat} {j : Int32} {lv : am_L} {st : List Value} : am_W G (am_M G d) 125 K 47 lv (.int j :: .ref a :: st) h nc ns = (f_ia G d 125 K 48 lv st h nc ns (h a) .int j) := am_u e_125_47
theorem e_125_48 : pg_code 125 48 = some (.istore_n 1, 1, 0, 0) := by decide +kernel
theorem u_125_48 {a : Int32} {lv : am_L} {st : List Value} : am_W G (am_M G d) 125 K 48 lv (.int a :: st) h nc ns = (am_W G (am_M G d) 125 K 49 (am_st1 lv 1 (.int a)) st h nc ns) := (am_u e_125_48).trans (f_t (by decide +kernel))
theorem e_125_49 : pg_code 125 49 = some (.iload_n 3, 1, 0, 0) := by decide +kernel
theorem u_125_49 {a : Int32} {z0 : Option Value} {z1 : Option Value} {z2 : Option Value} {lv : am_L} {st : List Value} : am_W G (am_M G d) 125 K 49 (z0 :: z1 :: z2 :: some (.int a) :: lv) st h nc ns = (am_W G (am_M G d) 125 K 50 (z0 :: z1 :: z2 :: some (.int a) :: lv) (.int a :: st) h nc ns) := am_u e_125_49
theorem e_125_50 : pg_code 125 50 = some (.istore_n 2, 1, 0, 0) := by decide +kernel
theorem u_125_50 {a : Int32} {lv : am_L} {st : List Value} : am_W G (am_M G d) 125 K 50 lv (.int a :: st) h nc ns = (am_W G (am_M G d) 125 K 51 (am_st1 lv 2 (.int a)) st h nc ns) := (am_u e_125_50).trans (f_t (by decide +kernel))
theorem e_125_51 : pg_code 125 51 = some (.iinc 3 1, 3, 0, 0) := by decide +kernel
theorem u_125_51 {a : Int32} {z0 : Option Value} {z1 : Option Value} {z2 : Option Value} {lv : am_L} {st : List Value} : am_W G (am_M G d) 125 K 51 (z0 :: z1 :: z2 :: some (.int a) :: lv) st h nc ns = (am_W G (am_M G d) 125 K 54 (am_st1 (z0 :: z1 :: z2 :: some (.int a) :: lv) 3 (.int (a + Int32.ofInt 1))) st h nc ns) := (am_u e_125_51).trans (f_t (by decide +kernel))
theorem e_125_54 : pg_code 125 54 = some (.goto (-48), 3, 6, 0) := by decide +kernel
theorem u_125_54 {lv : am_L} {st : List Value} : am_W G (am_M G d) 125 K 54 lv st h nc ns = (am_W G (am_M G d) 125 K 6 lv st h nc ns) := am_u e_125_54
theorem e_125_57 : pg_code 125 57 = some (.iload_n 2, 1, 0, 0) := by decide +kernel
theorem u_125_57 {a : Int32} {z0 : Option Value} {z1 : Option Value} {lv : am_L} {st : List Value} : am_W G (am_M G d) 125 K 57 (z0 :: z1 :: some (.int a) :: lv) st h nc ns = (am_W G (am_M G d) 125 K 58 (z0 :: z1 :: some (.int a) :: lv) (.int a :: st) h nc ns) := am_u e_125_57
theorem e_125_58 : pg_code 125 58 = some (.ifCond .ge 5, 3, 63, 0) := by decide +kernel
theorem u_125_58 {a : Int32} {lv : am_L} {st : List Value} : am_W G (am_M G d) 125 K 58 lv (.int a :: st) h nc ns = (am_br (0 ≤ a) (am_W G (am_M G d) 125 K 63 lv st h nc ns) (am_W G (am_M G d) 125 K 61 lv st h nc ns)) := am_u e_125_58
theorem e_125_61 : pg_code 125 61 = some (.iconst 0, 1, 0, 0) := by decide +kernel
theorem u_125_61 {lv : am_L} {st : List Value} : am_W G (am_M G d) 125 K 61 lv st h nc ns = (am_W G (am_M G d) 125 K 62 lv (.int 0 :: st) h nc ns) := am_u e_125_61
theorem e_125_62 : pg_code 125 62 = some (.ireturn, 1, 0, 0) := by decide +kernel
theorem u_125_62 {a : Int32} {lv : am_L} : am_W G (am_M G d) 125 K 62 lv [.int a] h nc ns = (K (.inl (some (.int a))) h) := (am_u e_125_62).trans (f_t ⟨rfl, .int, rfl, rfl⟩)
theorem e_125_63 : pg_code 125 63 = some (.aload_n 0, 1, 0, 0) := by decide +kernel
theorem u_125_63 {a : Nat} {lv : am_L} {st : List Value} : am_W G (am_M G d) 125 K 63 (some (.ref a) :: lv) st h nc ns = (am_W G (am_M G d) 125 K 64 (some (.ref a) :: lv) (.ref a :: st) h nc ns) := am_u e_125_63
theorem e_125_64 : pg_code 125 64 = some (.iload_n 2, 1, 0, 0) := by decide +kernel
theorem u_125_64 {a : Int32} {z0 : Option Value} {z1 : Option Value} {lv : am_L} {st : List Value} : am_W G (am_M G d) 125 K 64 (z0 :: z1 :: some (.int a) :: lv) st h nc ns = (am_W G (am_M G d) 125 K 65 (z0 :: z1 :: some (.int a) :: lv) (.int a :: st) h nc ns) := am_u e_125_64
theorem e_125_65 : pg_code 125 65 = some (.invokevirtual 135, 3, 99, 2) := by decide +kernel
theorem u_125_65 {a : Nat} {v0 : Value} {lv : am_L} {st : List Value} : am_W G (am_M G d) 125 K 65 lv (v0 :: .ref a :: st) h nc ns = ((am_words st ≤ 8 ∧ nc + 0 ≤ 0 ∧ ns + 0 ≤ 0 ∧ f_rc (h a) 7) ∧ am_M G d 99 [.ref a, v0] h (am_back 125 K (am_W G (am_M G d) 125 K) 99 65 lv st nc ns)) := (am_u e_125_65).trans (f_iv_eq (a := a) (G := G) (d := d) (k := 125) (K := K) (pc := 65) (lv := lv) (st := st) (h := h) (nc := nc) (ns := ns) (x := 99) (X := am_W G (am_M G d) 125 K) [v0] (by decide) rfl)
theorem e_125_68 : pg_code 125 68 = some (.iload_n 2, 1, 0, 0) := by decide +kernel
theorem u_125_68 {a : Int32} {z0 : Option Value} {z1 : Option Value} {lv : am_L} {st : List Value} : am_W G (am_M G d) 125 K 68 (z0 :: z1 :: some (.int a) :: lv) st h nc ns = (am_W G (am_M G d) 125 K 69 (z0 :: z1 :: some (.int a) :: lv) (.int a :: st) h nc ns) := am_u e_125_68
theorem e_125_69 : pg_code 125 69 = some (.istore_n 3, 1, 0, 0) := by decide +kernel
theorem u_125_69 {a : Int32} {lv : am_L} {st : List Value} : am_W G (am_M G d) 125 K 69 lv (.int a :: st) h nc ns = (am_W G (am_M G d) 125 K 70 (am_st1 lv 3 (.int a)) st h nc ns) := (am_u e_125_69).trans (f_t (by decide +kernel))
theorem e_125_70 : pg_code 125 70 = some (.iconst 0, 1, 0, 0) := by decide +kernel
theorem u_125_70 {lv : am_L} {st : List Value} : am_W G (am_M G d) 125 K 70 lv st h nc ns = (am_W G (am_M G d) 125 K 71 lv (.int 0 :: st) h nc ns) := am_u e_125_70
theorem e_125_71 : pg_code 125 71 = some (.istore 4, 2, 0, 0) := by decide +kernel
theorem u_125_71 {a : Int32} {lv : am_L} {st : List Value} : am_W G (am_M G d) 125 K 71 lv (.int a :: st) h nc ns = (am_W G (am_M G d) 125 K 73 (am_st1 lv 4 (.int a)) st h nc ns) := (am_u e_125_71).trans (f_t (by decide +kernel))
theorem e_125_73 : pg_code 125 73 = some (.iload 4, 2, 0, 0) := by decide +kernel
theorem u_125_73 {a : Int32} {z0 : Option Value} {z1 : Option Value} {z2 : Option Value} {z3 : Option Value} {lv : am_L} {st : List Value} : am_W G (am_M G d) 125 K 73 (z0 :: z1 :: z2 :: z3 :: some (.int a) :: lv) st h nc ns = (am_W G (am_M G d) 125 K 75 (z0 :: z1 :: z2 :: z3 :: some (.int a) :: lv) (.int a :: st) h nc ns) := am_u e_125_73
theorem e_125_75 : pg_code 125 75 = some (.iload_n 1, 1, 0, 0) := by decide +kernel
theorem u_125_75 {a : Int32} {z0 : Option Value} {lv : am_L} {st : List Value} : am_W G (am_M G d) 125 K 75 (z0 :: some (.int a) :: lv) st h nc ns = (am_W G (am_M G d) 125 K 76 (z0 :: some (.int a) :: lv) (.int a :: st) h nc ns) := am_u e_125_75
theorem e_125_76 : pg_code 125 76 = some (.if_icmp .ge 94, 3, 170, 0) := by decide +kernel
theorem u_125_76 {a b : Int32} {lv : am_L} {st : List Value} : am_W G (am_M G d) 125 K 76 lv (.int b :: .int a :: st) h nc ns = (am_br (b ≤ a) (am_W G (am_M G d) 125 K 170 lv st h nc ns) (am_W G (am_M G d) 125 K 79 lv st h nc ns)) := am_u e_125_76
theorem e_125_79 : pg_code 125 79 = some (.aload_n 0, 1, 0, 0) := by decide +kernel
theorem u_125_79 {a : Nat} {lv : am_L} {st : List Value} : am_W G (am_M G d) 125 K 79 (some (.ref a) :: lv) st h nc ns = (am_W G (am_M G d) 125 K 80 (some (.ref a) :: lv) (.ref a :: st) h nc ns) := am_u e_125_79
theorem e_125_80 : pg_code 125 80 = some (.getfield 87, 3, 7, 32) := by decide +kernel
theorem u_125_80 {a : Nat} {lv : am_L} {st : List Value} : am_W G (am_M G d) 125 K 80 lv (.ref a :: st) h nc ns = (f_gf G d 125 K 83 lv st h nc ns (h a) 7 32) := am_u e_125_80
theorem e_125_83 : pg_code 125 83 = some (.iload 4, 2, 0, 0) := by decide +kernel
theorem u_125_83 {a : Int32} {z0 : Option Value} {z1 : Option Value} {z2 : Option Value} {z3 : Option Value} {lv : am_L} {st : List Value} : am_W G (am_M G d) 125 K 83 (z0 :: z1 :: z2 :: z3 :: some (.int a) :: lv) st h nc ns = (am_W G (am_M G d) 125 K 85 (z0 :: z1 :: z2 :: z3 :: some (.int a) :: lv) (.int a :: st) h nc ns) := am_u e_125_83
theorem e_125_85 : pg_code 125 85 = some (.iload_n 3, 1, 0, 0) := by decide +kernel
theorem u_125_85 {a : Int32} {z0 : Option Value} {z1 : Option Value} {z2 : Option Value} {lv : am_L} {st : List Value} : am_W G (am_M G d) 125 K 85 (z0 :: z1 :: z2 :: some (.int a) :: lv) st h nc ns = (am_W G (am_M G d) 125 K 86 (z0 :: z1 :: z2 :: some (.int a) :: lv) (.int a :: st) h nc ns) := am_u e_125_85
theorem e_125_86 : pg_code 125 86 = some (.iastore, 1, 0, 0) := by decide +kernel
theorem u_125_86 {a : Nat} {j b : Int32} {lv : am_L} {st : List Value} : am_W G (am_M G d) 125 K 86 lv (.int b :: .int j :: .ref a :: st) h nc ns = (f_is G d 125 K 87 lv st h nc ns (h a) .int a j b) := am_u e_125_86
theorem e_125_87 : pg_code 125 87 = some (.aload_n 0, 1, 0, 0) := by decide +kernel
theorem u_125_87 {a : Nat} {lv : am_L} {st : List Value} : am_W G (am_M G d) 125 K 87 (some (.ref a) :: lv) st h nc ns = (am_W G (am_M G d) 125 K 88 (some (.ref a) :: lv) (.ref a :: st) h nc ns) := am_u e_125_87
theorem e_125_88 : pg_code 125 88 = some (.getfield 13, 3, 7, 5) := by decide +kernel
theorem u_125_88 {a : Nat} {lv : am_L} {st : List Value} : am_W G (am_M G d) 125 K 88 lv (.ref a :: st) h nc ns = (f_gf G d 125 K 91 lv st h nc ns (h a) 7 5) := am_u e_125_88
theorem e_125_91 : pg_code 125 91 = some (.iload_n 3, 1, 0, 0) := by decide +kernel
theorem u_125_91 {a : Int32} {z0 : Option Value} {z1 : Option Value} {z2 : Option Value} {lv : am_L} {st : List Value} : am_W G (am_M G d) 125 K 91 (z0 :: z1 :: z2 :: some (.int a) :: lv) st h nc ns = (am_W G (am_M G d) 125 K 92 (z0 :: z1 :: z2 :: some (.int a) :: lv) (.int a :: st) h nc ns) := am_u e_125_91
theorem e_125_92 : pg_code 125 92 = some (.invokestatic 116, 3, 91, 1) := by decide +kernel
theorem u_125_92 {v0 : Value} {lv : am_L} {st : List Value} : am_W G (am_M G d) 125 K 92 lv (v0 :: st) h nc ns = ((am_words st ≤ 8 ∧ nc + 0 ≤ 0 ∧ ns + 0 ≤ 0) ∧ am_M G d 91 [v0] h (am_back 125 K (am_W G (am_M G d) 125 K) 91 92 lv st nc ns)) := (am_u e_125_92).trans (f_st_eq (G := G) (d := d) (k := 125) (K := K) (pc := 92) (lv := lv) (st := st) (h := h) (nc := nc) (ns := ns) (x := 91) (X := am_W G (am_M G d) 125 K) [v0] (by decide) rfl)
theorem e_125_95 : pg_code 125 95 = some (.iaload, 1, 0, 0) := by decide +kernel
theorem u_125_95 {a : Nat} {j : Int32} {lv : am_L} {st : List Value} : am_W G (am_M G d) 125 K 95 lv (.int j :: .ref a :: st) h nc ns = (f_ia G d 125 K 96 lv st h nc ns (h a) .int j) := am_u e_125_95
theorem e_125_96 : pg_code 125 96 = some (.istore 5, 2, 0, 0) := by decide +kernel
theorem u_125_96 {a : Int32} {lv : am_L} {st : List Value} : am_W G (am_M G d) 125 K 96 lv (.int a :: st) h nc ns = (am_W G (am_M G d) 125 K 98 (am_st1 lv 5 (.int a)) st h nc ns) := (am_u e_125_96).trans (f_t (by decide +kernel))
theorem e_125_98 : pg_code 125 98 = some (.aload_n 0, 1, 0, 0) := by decide +kernel
theorem u_125_98 {a : Nat} {lv : am_L} {st : List Value} : am_W G (am_M G d) 125 K 98 (some (.ref a) :: lv) st h nc ns = (am_W G (am_M G d) 125 K 99 (some (.ref a) :: lv) (.ref a :: st) h nc ns) := am_u e_125_98
theorem e_125_99 : pg_code 125 99 = some (.getfield 16, 3, 7, 6) := by decide +kernel
theorem u_125_99 {a : Nat} {lv : am_L} {st : List Value} : am_W G (am_M G d) 125 K 99 lv (.ref a :: st) h nc ns = (f_gf G d 125 K 102 lv st h nc ns (h a) 7 6) := am_u e_125_99
theorem e_125_102 : pg_code 125 102 = some (.iload_n 3, 1, 0, 0) := by decide +kernel
theorem u_125_102 {a : Int32} {z0 : Option Value} {z1 : Option Value} {z2 : Option Value} {lv : am_L} {st : List Value} : am_W G (am_M G d) 125 K 102 (z0 :: z1 :: z2 :: some (.int a) :: lv) st h nc ns = (am_W G (am_M G d) 125 K 103 (z0 :: z1 :: z2 :: some (.int a) :: lv) (.int a :: st) h nc ns) := am_u e_125_102
theorem e_125_103 : pg_code 125 103 = some (.invokestatic 116, 3, 91, 1) := by decide +kernel
theorem u_125_103 {v0 : Value} {lv : am_L} {st : List Value} : am_W G (am_M G d) 125 K 103 lv (v0 :: st) h nc ns = ((am_words st ≤ 8 ∧ nc + 0 ≤ 0 ∧ ns + 0 ≤ 0) ∧ am_M G d 91 [v0] h (am_back 125 K (am_W G (am_M G d) 125 K) 91 103 lv st nc ns)) := (am_u e_125_103).trans (f_st_eq (G := G) (d := d) (k := 125) (K := K) (pc := 103) (lv := lv) (st := st) (h := h) (nc := nc) (ns := ns) (x := 91) (X := am_W G (am_M G d) 125 K) [v0] (by decide) rfl)
theorem e_125_106 : pg_code 125 106 = some (.iaload, 1, 0, 0) := by decide +kernel
theorem u_125_106 {a : Nat} {j : Int32} {lv : am_L} {st : List Value} : am_W G (am_M G d) 125 K 106 lv (.int j :: .ref a :: st) h nc ns = (f_ia G d 125 K 107 lv st h nc ns (h a) .int j) := am_u e_125_106
theorem e_125_107 : pg_code 125 107 = some (.istore 6, 2, 0, 0) := by decide +kernel
theorem u_125_107 {a : Int32} {lv : am_L} {st : List Value} : am_W G (am_M G d) 125 K 107 lv (.int a :: st) h nc ns = (am_W G (am_M G d) 125 K 109 (am_st1 lv 6 (.int a)) st h nc ns) := (am_u e_125_107).trans (f_t (by decide +kernel))
theorem e_125_109 : pg_code 125 109 = some (.aload_n 0, 1, 0, 0) := by decide +kernel
theorem u_125_109 {a : Nat} {lv : am_L} {st : List Value} : am_W G (am_M G d) 125 K 109 (some (.ref a) :: lv) st h nc ns = (am_W G (am_M G d) 125 K 110 (some (.ref a) :: lv) (.ref a :: st) h nc ns) := am_u e_125_109
theorem e_125_110 : pg_code 125 110 = some (.iload 5, 2, 0, 0) := by decide +kernel
theorem u_125_110 {a : Int32} {z0 : Option Value} {z1 : Option Value} {z2 : Option Value} {z3 : Option Value} {z4 : Option Value} {lv : am_L} {st : List Value} : am_W G (am_M G d) 125 K 110 (z0 :: z1 :: z2 :: z3 :: z4 :: some (.int a) :: lv) st h nc ns = (am_W G (am_M G d) 125 K 112 (z0 :: z1 :: z2 :: z3 :: z4 :: some (.int a) :: lv) (.int a :: st) h nc ns) := am_u e_125_110
theorem e_125_112 : pg_code 125 112 = some (.iload_n 2, 1, 0, 0) := by decide +kernel
theorem u_125_112 {a : Int32} {z0 : Option Value} {z1 : Option Value} {lv : am_L} {st : List Value} : am_W G (am_M G d) 125 K 112 (z0 :: z1 :: some (.int a) :: lv) st h nc ns = (am_W G (am_M G d) 125 K 113 (z0 :: z1 :: some (.int a) :: lv) (.int a :: st) h nc ns) := am_u e_125_112
theorem e_125_113 : pg_code 125 113 = some (.iload_n 1, 1, 0, 0) := by decide +kernel
theorem u_125_113 {a : Int32} {z0 : Option Value} {lv : am_L} {st : List Value} : am_W G (am_M G d) 125 K 113 (z0 :: some (.int a) :: lv) st h nc ns = (am_W G (am_M G d) 125 K 114 (z0 :: some (.int a) :: lv) (.int a :: st) h nc ns) := am_u e_125_113
theorem e_125_114 : pg_code 125 114 = some (.iconst 1, 1, 0, 0) := by decide +kernel
theorem u_125_114 {lv : am_L} {st : List Value} : am_W G (am_M G d) 125 K 114 lv st h nc ns = (am_W G (am_M G d) 125 K 115 lv (.int 1 :: st) h nc ns) := am_u e_125_114
theorem e_125_115 : pg_code 125 115 = some (.isub, 1, 0, 0) := by decide +kernel
theorem u_125_115 {a b : Int32} {lv : am_L} {st : List Value} : am_W G (am_M G d) 125 K 115 lv (.int b :: .int a :: st) h nc ns = (am_W G (am_M G d) 125 K 116 lv (.int (a - b) :: st) h nc ns) := am_u e_125_115
theorem e_125_116 : pg_code 125 116 = some (.iload 4, 2, 0, 0) := by decide +kernel
theorem u_125_116 {a : Int32} {z0 : Option Value} {z1 : Option Value} {z2 : Option Value} {z3 : Option Value} {lv : am_L} {st : List Value} : am_W G (am_M G d) 125 K 116 (z0 :: z1 :: z2 :: z3 :: some (.int a) :: lv) st h nc ns = (am_W G (am_M G d) 125 K 118 (z0 :: z1 :: z2 :: z3 :: some (.int a) :: lv) (.int a :: st) h nc ns) := am_u e_125_116
theorem e_125_118 : pg_code 125 118 = some (.isub, 1, 0, 0) := by decide +kernel
theorem u_125_118 {a b : Int32} {lv : am_L} {st : List Value} : am_W G (am_M G d) 125 K 118 lv (.int b :: .int a :: st) h nc ns = (am_W G (am_M G d) 125 K 119 lv (.int (a - b) :: st) h nc ns) := am_u e_125_118
theorem e_125_119 : pg_code 125 119 = some (.invokevirtual 193, 3, 126, 4) := by decide +kernel
theorem u_125_119 {a : Nat} {v0 v1 v2 : Value} {lv : am_L} {st : List Value} : am_W G (am_M G d) 125 K 119 lv (v2 :: v1 :: v0 :: .ref a :: st) h nc ns = ((am_words st ≤ 8 ∧ nc + 0 ≤ 0 ∧ ns + 0 ≤ 0 ∧ f_rc (h a) 7) ∧ am_M G d 126 [.ref a, v0, v1, v2] h (am_back 125 K (am_W G (am_M G d) 125 K) 126 119 lv st nc ns)) := (am_u e_125_119).trans (f_iv_eq (a := a) (G := G) (d := d) (k := 125) (K := K) (pc := 119) (lv := lv) (st := st) (h := h) (nc := nc) (ns := ns) (x := 126) (X := am_W G (am_M G d) 125 K) [v0, v1, v2] (by decide) rfl)
theorem e_125_122 : pg_code 125 122 = some (.istore 7, 2, 0, 0) := by decide +kernel
theorem u_125_122 {a : Int32} {lv : am_L} {st : List Value} : am_W G (am_M G d) 125 K 122 lv (.int a :: st) h nc ns = (am_W G (am_M G d) 125 K 124 (am_st1 lv 7 (.int a)) st h nc ns) := (am_u e_125_122).trans (f_t (by decide +kernel))
theorem e_125_124 : pg_code 125 124 = some (.aload_n 0, 1, 0, 0) := by decide +kernel
theorem u_125_124 {a : Nat} {lv : am_L} {st : List Value} : am_W G (am_M G d) 125 K 124 (some (.ref a) :: lv) st h nc ns = (am_W G (am_M G d) 125 K 125 (some (.ref a) :: lv) (.ref a :: st) h nc ns) := am_u e_125_124
theorem e_125_125 : pg_code 125 125 = some (.iload 6, 2, 0, 0) := by decide +kernel
theorem u_125_125 {a : Int32} {z0 : Option Value} {z1 : Option Value} {z2 : Option Value} {z3 : Option Value} {z4 : Option Value} {z5 : Option Value} {lv : am_L} {st : List Value} : am_W G (am_M G d) 125 K 125 (z0 :: z1 :: z2 :: z3 :: z4 :: z5 :: some (.int a) :: lv) st h nc ns = (am_W G (am_M G d) 125 K 127 (z0 :: z1 :: z2 :: z3 :: z4 :: z5 :: some (.int a) :: lv) (.int a :: st) h nc ns) := am_u e_125_125
theorem e_125_127 : pg_code 125 127 = some (.iload_n 2, 1, 0, 0) := by decide +kernel
theorem u_125_127 {a : Int32} {z0 : Option Value} {z1 : Option Value} {lv : am_L} {st : List Value} : am_W G (am_M G d) 125 K 127 (z0 :: z1 :: some (.int a) :: lv) st h nc ns = (am_W G (am_M G d) 125 K 128 (z0 :: z1 :: some (.int a) :: lv) (.int a :: st) h nc ns) := am_u e_125_127
theorem e_125_128 : pg_code 125 128 = some (.iload_n 1, 1, 0, 0) := by decide +kernel
theorem u_125_128 {a : Int32} {z0 : Option Value} {lv : am_L} {st : List Value} : am_W G (am_M G d) 125 K 128 (z0 :: some (.int a) :: lv) st h nc ns = (am_W G (am_M G d) 125 K 129 (z0 :: some (.int a) :: lv) (.int a :: st) h nc ns) := am_u e_125_128
theorem e_125_129 : pg_code 125 129 = some (.iconst 1, 1, 0, 0) := by decide +kernel
theorem u_125_129 {lv : am_L} {st : List Value} : am_W G (am_M G d) 125 K 129 lv st h nc ns = (am_W G (am_M G d) 125 K 130 lv (.int 1 :: st) h nc ns) := am_u e_125_129
theorem e_125_130 : pg_code 125 130 = some (.isub, 1, 0, 0) := by decide +kernel
theorem u_125_130 {a b : Int32} {lv : am_L} {st : List Value} : am_W G (am_M G d) 125 K 130 lv (.int b :: .int a :: st) h nc ns = (am_W G (am_M G d) 125 K 131 lv (.int (a - b) :: st) h nc ns) := am_u e_125_130
theorem e_125_131 : pg_code 125 131 = some (.iload 4, 2, 0, 0) := by decide +kernel
theorem u_125_131 {a : Int32} {z0 : Option Value} {z1 : Option Value} {z2 : Option Value} {z3 : Option Value} {lv : am_L} {st : List Value} : am_W G (am_M G d) 125 K 131 (z0 :: z1 :: z2 :: z3 :: some (.int a) :: lv) st h nc ns = (am_W G (am_M G d) 125 K 133 (z0 :: z1 :: z2 :: z3 :: some (.int a) :: lv) (.int a :: st) h nc ns) := am_u e_125_131
theorem e_125_133 : pg_code 125 133 = some (.isub, 1, 0, 0) := by decide +kernel
theorem u_125_133 {a b : Int32} {lv : am_L} {st : List Value} : am_W G (am_M G d) 125 K 133 lv (.int b :: .int a :: st) h nc ns = (am_W G (am_M G d) 125 K 134 lv (.int (a - b) :: st) h nc ns) := am_u e_125_133
theorem e_125_134 : pg_code 125 134 = some (.invokevirtual 193, 3, 126, 4) := by decide +kernel
theorem u_125_134 {a : Nat} {v0 v1 v2 : Value} {lv : am_L} {st : List Value} : am_W G (am_M G d) 125 K 134 lv (v2 :: v1 :: v0 :: .ref a :: st) h nc ns = ((am_words st ≤ 8 ∧ nc + 0 ≤ 0 ∧ ns + 0 ≤ 0 ∧ f_rc (h a) 7) ∧ am_M G d 126 [.ref a, v0, v1, v2] h (am_back 125 K (am_W G (am_M G d) 125 K) 126 134 lv st nc ns)) := (am_u e_125_134).trans (f_iv_eq (a := a) (G := G) (d := d) (k := 125) (K := K) (pc := 134) (lv := lv) (st := st) (h := h) (nc := nc) (ns := ns) (x := 126) (X := am_W G (am_M G d) 125 K) [v0, v1, v2] (by decide) rfl)
theorem e_125_137 : pg_code 125 137 = some (.istore 8, 2, 0, 0) := by decide +kernel
theorem u_125_137 {a : Int32} {lv : am_L} {st : List Value} : am_W G (am_M G d) 125 K 137 lv (.int a :: st) h nc ns = (am_W G (am_M G d) 125 K 139 (am_st1 lv 8 (.int a)) st h nc ns) := (am_u e_125_137).trans (f_t (by decide +kernel))
theorem e_125_139 : pg_code 125 139 = some (.iload 7, 2, 0, 0) := by decide +kernel
theorem u_125_139 {a : Int32} {z0 : Option Value} {z1 : Option Value} {z2 : Option Value} {z3 : Option Value} {z4 : Option Value} {z5 : Option Value} {z6 : Option Value} {lv : am_L} {st : List Value} : am_W G (am_M G d) 125 K 139 (z0 :: z1 :: z2 :: z3 :: z4 :: z5 :: z6 :: some (.int a) :: lv) st h nc ns = (am_W G (am_M G d) 125 K 141 (z0 :: z1 :: z2 :: z3 :: z4 :: z5 :: z6 :: some (.int a) :: lv) (.int a :: st) h nc ns) := am_u e_125_139
theorem e_125_141 : pg_code 125 141 = some (.ifCond .eq 20, 3, 161, 0) := by decide +kernel
theorem u_125_141 {a : Int32} {lv : am_L} {st : List Value} : am_W G (am_M G d) 125 K 141 lv (.int a :: st) h nc ns = (am_br (a = 0) (am_W G (am_M G d) 125 K 161 lv st h nc ns) (am_W G (am_M G d) 125 K 144 lv st h nc ns)) := am_u e_125_141
theorem e_125_144 : pg_code 125 144 = some (.iload 8, 2, 0, 0) := by decide +kernel
theorem u_125_144 {a : Int32} {z0 : Option Value} {z1 : Option Value} {z2 : Option Value} {z3 : Option Value} {z4 : Option Value} {z5 : Option Value} {z6 : Option Value} {z7 : Option Value} {lv : am_L} {st : List Value} : am_W G (am_M G d) 125 K 144 (z0 :: z1 :: z2 :: z3 :: z4 :: z5 :: z6 :: z7 :: some (.int a) :: lv) st h nc ns = (am_W G (am_M G d) 125 K 146 (z0 :: z1 :: z2 :: z3 :: z4 :: z5 :: z6 :: z7 :: some (.int a) :: lv) (.int a :: st) h nc ns) := am_u e_125_144
theorem e_125_146 : pg_code 125 146 = some (.ifCond .eq 10, 3, 156, 0) := by decide +kernel
theorem u_125_146 {a : Int32} {lv : am_L} {st : List Value} : am_W G (am_M G d) 125 K 146 lv (.int a :: st) h nc ns = (am_br (a = 0) (am_W G (am_M G d) 125 K 156 lv st h nc ns) (am_W G (am_M G d) 125 K 149 lv st h nc ns)) := am_u e_125_146
theorem e_125_149 : pg_code 125 149 = some (.iload 5, 2, 0, 0) := by decide +kernel
theorem u_125_149 {a : Int32} {z0 : Option Value} {z1 : Option Value} {z2 : Option Value} {z3 : Option Value} {z4 : Option Value} {lv : am_L} {st : List Value} : am_W G (am_M G d) 125 K 149 (z0 :: z1 :: z2 :: z3 :: z4 :: some (.int a) :: lv) st h nc ns = (am_W G (am_M G d) 125 K 151 (z0 :: z1 :: z2 :: z3 :: z4 :: some (.int a) :: lv) (.int a :: st) h nc ns) := am_u e_125_149
theorem e_125_151 : pg_code 125 151 = some (.iload 6, 2, 0, 0) := by decide +kernel
theorem u_125_151 {a : Int32} {z0 : Option Value} {z1 : Option Value} {z2 : Option Value} {z3 : Option Value} {z4 : Option Value} {z5 : Option Value} {lv : am_L} {st : List Value} : am_W G (am_M G d) 125 K 151 (z0 :: z1 :: z2 :: z3 :: z4 :: z5 :: some (.int a) :: lv) st h nc ns = (am_W G (am_M G d) 125 K 153 (z0 :: z1 :: z2 :: z3 :: z4 :: z5 :: some (.int a) :: lv) (.int a :: st) h nc ns) := am_u e_125_151
theorem e_125_153 : pg_code 125 153 = some (.if_icmp .ge 8, 3, 161, 0) := by decide +kernel
theorem u_125_153 {a b : Int32} {lv : am_L} {st : List Value} : am_W G (am_M G d) 125 K 153 lv (.int b :: .int a :: st) h nc ns = (am_br (b ≤ a) (am_W G (am_M G d) 125 K 161 lv st h nc ns) (am_W G (am_M G d) 125 K 156 lv st h nc ns)) := am_u e_125_153
theorem e_125_156 : pg_code 125 156 = some (.iload 5, 2, 0, 0) := by decide +kernel
theorem u_125_156 {a : Int32} {z0 : Option Value} {z1 : Option Value} {z2 : Option Value} {z3 : Option Value} {z4 : Option Value} {lv : am_L} {st : List Value} : am_W G (am_M G d) 125 K 156 (z0 :: z1 :: z2 :: z3 :: z4 :: some (.int a) :: lv) st h nc ns = (am_W G (am_M G d) 125 K 158 (z0 :: z1 :: z2 :: z3 :: z4 :: some (.int a) :: lv) (.int a :: st) h nc ns) := am_u e_125_156
theorem e_125_158 : pg_code 125 158 = some (.goto 5, 3, 163, 0) := by decide +kernel
theorem u_125_158 {lv : am_L} {st : List Value} : am_W G (am_M G d) 125 K 158 lv st h nc ns = (am_W G (am_M G d) 125 K 163 lv st h nc ns) := am_u e_125_158
theorem e_125_161 : pg_code 125 161 = some (.iload 6, 2, 0, 0) := by decide +kernel
theorem u_125_161 {a : Int32} {z0 : Option Value} {z1 : Option Value} {z2 : Option Value} {z3 : Option Value} {z4 : Option Value} {z5 : Option Value} {lv : am_L} {st : List Value} : am_W G (am_M G d) 125 K 161 (z0 :: z1 :: z2 :: z3 :: z4 :: z5 :: some (.int a) :: lv) st h nc ns = (am_W G (am_M G d) 125 K 163 (z0 :: z1 :: z2 :: z3 :: z4 :: z5 :: some (.int a) :: lv) (.int a :: st) h nc ns) := am_u e_125_161
theorem e_125_163 : pg_code 125 163 = some (.istore_n 3, 1, 0, 0) := by decide +kernel
theorem u_125_163 {a : Int32} {lv : am_L} {st : List Value} : am_W G (am_M G d) 125 K 163 lv (.int a :: st) h nc ns = (am_W G (am_M G d) 125 K 164 (am_st1 lv 3 (.int a)) st h nc ns) := (am_u e_125_163).trans (f_t (by decide +kernel))
theorem e_125_164 : pg_code 125 164 = some (.iinc 4 1, 3, 0, 0) := by decide +kernel
theorem u_125_164 {a : Int32} {z0 : Option Value} {z1 : Option Value} {z2 : Option Value} {z3 : Option Value} {lv : am_L} {st : List Value} : am_W G (am_M G d) 125 K 164 (z0 :: z1 :: z2 :: z3 :: some (.int a) :: lv) st h nc ns = (am_W G (am_M G d) 125 K 167 (am_st1 (z0 :: z1 :: z2 :: z3 :: some (.int a) :: lv) 4 (.int (a + Int32.ofInt 1))) st h nc ns) := (am_u e_125_164).trans (f_t (by decide +kernel))
theorem e_125_167 : pg_code 125 167 = some (.goto (-94), 3, 73, 0) := by decide +kernel
theorem u_125_167 {lv : am_L} {st : List Value} : am_W G (am_M G d) 125 K 167 lv st h nc ns = (am_W G (am_M G d) 125 K 73 lv st h nc ns) := am_u e_125_167
theorem e_125_170 : pg_code 125 170 = some (.iload_n 1, 1, 0, 0) := by decide +kernel
theorem u_125_170 {a : Int32} {z0 : Option Value} {lv : am_L} {st : List Value} : am_W G (am_M G d) 125 K 170 (z0 :: some (.int a) :: lv) st h nc ns = (am_W G (am_M G d) 125 K 171 (z0 :: some (.int a) :: lv) (.int a :: st) h nc ns) := am_u e_125_170
theorem e_125_171 : pg_code 125 171 = some (.ireturn, 1, 0, 0) := by decide +kernel
theorem u_125_171 {a : Int32} {lv : am_L} : am_W G (am_M G d) 125 K 171 lv [.int a] h nc ns = (K (.inl (some (.int a))) h) := (am_u e_125_171).trans (f_t ⟨rfl, .int, rfl, rfl⟩)
theorem e_126_0 : pg_code 126 0 = some (.iload_n 1, 1, 0, 0) := by decide +kernel
theorem u_126_0 {a : Int32} {z0 : Option Value} {lv : am_L} {st : List Value} : am_W G (am_M G d) 126 K 0 (z0 :: some (.int a) :: lv) st h nc ns = (am_W G (am_M G d) 126 K 1 (z0 :: some (.int a) :: lv) (.int a :: st) h nc ns) := am_u e_126_0
theorem e_126_1 : pg_code 126 1 = some (.ifCond .lt 29, 3, 30, 0) := by decide +kernel
theorem u_126_1 {a : Int32} {lv : am_L} {st : List Value} : am_W G (am_M G d) 126 K 1 lv (.int a :: st) h nc ns = (am_br (a < 0) (am_W G (am_M G d) 126 K 30 lv st h nc ns) (am_W G (am_M G d) 126 K 4 lv st h nc ns)) := am_u e_126_1
theorem e_126_4 : pg_code 126 4 = some (.iload_n 3, 1, 0, 0) := by decide +kernel
theorem u_126_4 {a : Int32} {z0 : Option Value} {z1 : Option Value} {z2 : Option Value} {lv : am_L} {st : List Value} : am_W G (am_M G d) 126 K 4 (z0 :: z1 :: z2 :: some (.int a) :: lv) st h nc ns = (am_W G (am_M G d) 126 K 5 (z0 :: z1 :: z2 :: some (.int a) :: lv) (.int a :: st) h nc ns) := am_u e_126_4
theorem e_126_5 : pg_code 126 5 = some (.ifCond .ne 11, 3, 16, 0) := by decide +kernel
theorem u_126_5 {a : Int32} {lv : am_L} {st : List Value} : am_W G (am_M G d) 126 K 5 lv (.int a :: st) h nc ns = (am_br (¬ a = 0) (am_W G (am_M G d) 126 K 16 lv st h nc ns) (am_W G (am_M G d) 126 K 8 lv st h nc ns)) := am_u e_126_5
theorem e_126_8 : pg_code 126 8 = some (.iload_n 1, 1, 0, 0) := by decide +kernel
theorem u_126_8 {a : Int32} {z0 : Option Value} {lv : am_L} {st : List Value} : am_W G (am_M G d) 126 K 8 (z0 :: some (.int a) :: lv) st h nc ns = (am_W G (am_M G d) 126 K 9 (z0 :: some (.int a) :: lv) (.int a :: st) h nc ns) := am_u e_126_8
theorem e_126_9 : pg_code 126 9 = some (.iload_n 2, 1, 0, 0) := by decide +kernel
theorem u_126_9 {a : Int32} {z0 : Option Value} {z1 : Option Value} {lv : am_L} {st : List Value} : am_W G (am_M G d) 126 K 9 (z0 :: z1 :: some (.int a) :: lv) st h nc ns = (am_W G (am_M G d) 126 K 10 (z0 :: z1 :: some (.int a) :: lv) (.int a :: st) h nc ns) := am_u e_126_9
theorem e_126_10 : pg_code 126 10 = some (.if_icmp .ne 20, 3, 30, 0) := by decide +kernel
theorem u_126_10 {a b : Int32} {lv : am_L} {st : List Value} : am_W G (am_M G d) 126 K 10 lv (.int b :: .int a :: st) h nc ns = (am_br (¬ a = b) (am_W G (am_M G d) 126 K 30 lv st h nc ns) (am_W G (am_M G d) 126 K 13 lv st h nc ns)) := am_u e_126_10
theorem e_126_13 : pg_code 126 13 = some (.goto 13, 3, 26, 0) := by decide +kernel
theorem u_126_13 {lv : am_L} {st : List Value} : am_W G (am_M G d) 126 K 13 lv st h nc ns = (am_W G (am_M G d) 126 K 26 lv st h nc ns) := am_u e_126_13
theorem e_126_16 : pg_code 126 16 = some (.aload_n 0, 1, 0, 0) := by decide +kernel
theorem u_126_16 {a : Nat} {lv : am_L} {st : List Value} : am_W G (am_M G d) 126 K 16 (some (.ref a) :: lv) st h nc ns = (am_W G (am_M G d) 126 K 17 (some (.ref a) :: lv) (.ref a :: st) h nc ns) := am_u e_126_16
theorem e_126_17 : pg_code 126 17 = some (.getfield 81, 3, 7, 30) := by decide +kernel
theorem u_126_17 {a : Nat} {lv : am_L} {st : List Value} : am_W G (am_M G d) 126 K 17 lv (.ref a :: st) h nc ns = (f_gf G d 126 K 20 lv st h nc ns (h a) 7 30) := am_u e_126_17
theorem e_126_20 : pg_code 126 20 = some (.iload_n 1, 1, 0, 0) := by decide +kernel
theorem u_126_20 {a : Int32} {z0 : Option Value} {lv : am_L} {st : List Value} : am_W G (am_M G d) 126 K 20 (z0 :: some (.int a) :: lv) st h nc ns = (am_W G (am_M G d) 126 K 21 (z0 :: some (.int a) :: lv) (.int a :: st) h nc ns) := am_u e_126_20
theorem e_126_21 : pg_code 126 21 = some (.iaload, 1, 0, 0) := by decide +kernel
theorem u_126_21 {a : Nat} {j : Int32} {lv : am_L} {st : List Value} : am_W G (am_M G d) 126 K 21 lv (.int j :: .ref a :: st) h nc ns = (f_ia G d 126 K 22 lv st h nc ns (h a) .int j) := am_u e_126_21
theorem e_126_22 : pg_code 126 22 = some (.iload_n 3, 1, 0, 0) := by decide +kernel
theorem u_126_22 {a : Int32} {z0 : Option Value} {z1 : Option Value} {z2 : Option Value} {lv : am_L} {st : List Value} : am_W G (am_M G d) 126 K 22 (z0 :: z1 :: z2 :: some (.int a) :: lv) st h nc ns = (am_W G (am_M G d) 126 K 23 (z0 :: z1 :: z2 :: some (.int a) :: lv) (.int a :: st) h nc ns) := am_u e_126_22
theorem e_126_23 : pg_code 126 23 = some (.if_icmp .ne 7, 3, 30, 0) := by decide +kernel
theorem u_126_23 {a b : Int32} {lv : am_L} {st : List Value} : am_W G (am_M G d) 126 K 23 lv (.int b :: .int a :: st) h nc ns = (am_br (¬ a = b) (am_W G (am_M G d) 126 K 30 lv st h nc ns) (am_W G (am_M G d) 126 K 26 lv st h nc ns)) := am_u e_126_23
theorem e_126_26 : pg_code 126 26 = some (.iconst 1, 1, 0, 0) := by decide +kernel
theorem u_126_26 {lv : am_L} {st : List Value} : am_W G (am_M G d) 126 K 26 lv st h nc ns = (am_W G (am_M G d) 126 K 27 lv (.int 1 :: st) h nc ns) := am_u e_126_26
theorem e_126_27 : pg_code 126 27 = some (.goto 4, 3, 31, 0) := by decide +kernel
theorem u_126_27 {lv : am_L} {st : List Value} : am_W G (am_M G d) 126 K 27 lv st h nc ns = (am_W G (am_M G d) 126 K 31 lv st h nc ns) := am_u e_126_27
theorem e_126_30 : pg_code 126 30 = some (.iconst 0, 1, 0, 0) := by decide +kernel
theorem u_126_30 {lv : am_L} {st : List Value} : am_W G (am_M G d) 126 K 30 lv st h nc ns = (am_W G (am_M G d) 126 K 31 lv (.int 0 :: st) h nc ns) := am_u e_126_30
theorem e_126_31 : pg_code 126 31 = some (.ireturn, 1, 0, 0) := by decide +kernel
theorem u_126_31 {a : Int32} {lv : am_L} : am_W G (am_M G d) 126 K 31 lv [.int a] h nc ns = (narrow .boolean (.int a) = .int a ∧ K (.inl (some (.int a))) h) := (am_u e_126_31).trans (f_z_eq rfl)
theorem e_127_0 : pg_code 127 0 = some (.aload_n 0, 1, 0, 0) := by decide +kernel
theorem u_127_0 {a : Nat} {lv : am_L} {st : List Value} : am_W G (am_M G d) 127 K 0 (some (.ref a) :: lv) st h nc ns = (am_W G (am_M G d) 127 K 1 (some (.ref a) :: lv) (.ref a :: st) h nc ns) := am_u e_127_0
theorem e_127_1 : pg_code 127 1 = some (.iconst 0, 1, 0, 0) := by decide +kernel
theorem u_127_1 {lv : am_L} {st : List Value} : am_W G (am_M G d) 127 K 1 lv st h nc ns = (am_W G (am_M G d) 127 K 2 lv (.int 0 :: st) h nc ns) := am_u e_127_1
theorem e_127_2 : pg_code 127 2 = some (.putfield 90, 3, 7, 0) := by decide +kernel
theorem u_127_2 {a : Nat} {b : Int32} {lv : am_L} {st : List Value} : am_W G (am_M G d) 127 K 2 lv (.int b :: .ref a :: st) h nc ns = (f_pf G d 127 K 5 lv st h nc ns (h a) 7 0 a (.int b)) := (am_u e_127_2).trans (f_pf_eq ⟨rfl, rfl⟩)
theorem e_127_5 : pg_code 127 5 = some (.aload_n 0, 1, 0, 0) := by decide +kernel
theorem u_127_5 {a : Nat} {lv : am_L} {st : List Value} : am_W G (am_M G d) 127 K 5 (some (.ref a) :: lv) st h nc ns = (am_W G (am_M G d) 127 K 6 (some (.ref a) :: lv) (.ref a :: st) h nc ns) := am_u e_127_5
theorem e_127_6 : pg_code 127 6 = some (.invokevirtual 196, 3, 125, 1) := by decide +kernel
theorem u_127_6 {a : Nat} {lv : am_L} {st : List Value} : am_W G (am_M G d) 127 K 6 lv (.ref a :: st) h nc ns = ((am_words st ≤ 8 ∧ nc + 0 ≤ 0 ∧ ns + 0 ≤ 0 ∧ f_rc (h a) 7) ∧ am_M G d 125 [.ref a] h (am_back 127 K (am_W G (am_M G d) 127 K) 125 6 lv st nc ns)) := (am_u e_127_6).trans (f_iv_eq (a := a) (G := G) (d := d) (k := 127) (K := K) (pc := 6) (lv := lv) (st := st) (h := h) (nc := nc) (ns := ns) (x := 125) (X := am_W G (am_M G d) 127 K) [] (by decide) rfl)
theorem e_127_9 : pg_code 127 9 = some (.istore_n 2, 1, 0, 0) := by decide +kernel
theorem u_127_9 {a : Int32} {lv : am_L} {st : List Value} : am_W G (am_M G d) 127 K 9 lv (.int a :: st) h nc ns = (am_W G (am_M G d) 127 K 10 (am_st1 lv 2 (.int a)) st h nc ns) := (am_u e_127_9).trans (f_t (by decide +kernel))
theorem e_127_10 : pg_code 127 10 = some (.iload_n 1, 1, 0, 0) := by decide +kernel
theorem u_127_10 {a : Int32} {z0 : Option Value} {lv : am_L} {st : List Value} : am_W G (am_M G d) 127 K 10 (z0 :: some (.int a) :: lv) st h nc ns = (am_W G (am_M G d) 127 K 11 (z0 :: some (.int a) :: lv) (.int a :: st) h nc ns) := am_u e_127_10
theorem e_127_11 : pg_code 127 11 = some (.iconst 0, 1, 0, 0) := by decide +kernel
theorem u_127_11 {lv : am_L} {st : List Value} : am_W G (am_M G d) 127 K 11 lv st h nc ns = (am_W G (am_M G d) 127 K 12 lv (.int 0 :: st) h nc ns) := am_u e_127_11
theorem e_127_12 : pg_code 127 12 = some (.iload_n 2, 1, 0, 0) := by decide +kernel
theorem u_127_12 {a : Int32} {z0 : Option Value} {z1 : Option Value} {lv : am_L} {st : List Value} : am_W G (am_M G d) 127 K 12 (z0 :: z1 :: some (.int a) :: lv) st h nc ns = (am_W G (am_M G d) 127 K 13 (z0 :: z1 :: some (.int a) :: lv) (.int a :: st) h nc ns) := am_u e_127_12
theorem e_127_13 : pg_code 127 13 = some (.iconst 1, 1, 0, 0) := by decide +kernel
theorem u_127_13 {lv : am_L} {st : List Value} : am_W G (am_M G d) 127 K 13 lv st h nc ns = (am_W G (am_M G d) 127 K 14 lv (.int 1 :: st) h nc ns) := am_u e_127_13
theorem e_127_14 : pg_code 127 14 = some (.isub, 1, 0, 0) := by decide +kernel
theorem u_127_14 {a b : Int32} {lv : am_L} {st : List Value} : am_W G (am_M G d) 127 K 14 lv (.int b :: .int a :: st) h nc ns = (am_W G (am_M G d) 127 K 15 lv (.int (a - b) :: st) h nc ns) := am_u e_127_14
theorem e_127_15 : pg_code 127 15 = some (.invokestatic 108, 3, 88, 3) := by decide +kernel
theorem u_127_15 {v0 v1 v2 : Value} {lv : am_L} {st : List Value} : am_W G (am_M G d) 127 K 15 lv (v2 :: v1 :: v0 :: st) h nc ns = ((am_words st ≤ 8 ∧ nc + 0 ≤ 0 ∧ ns + 0 ≤ 0) ∧ am_M G d 88 [v0, v1, v2] h (am_back 127 K (am_W G (am_M G d) 127 K) 88 15 lv st nc ns)) := (am_u e_127_15).trans (f_st_eq (G := G) (d := d) (k := 127) (K := K) (pc := 15) (lv := lv) (st := st) (h := h) (nc := nc) (ns := ns) (x := 88) (X := am_W G (am_M G d) 127 K) [v0, v1, v2] (by decide) rfl)
theorem e_127_18 : pg_code 127 18 = some (.ifCond .eq 12, 3, 30, 0) := by decide +kernel
theorem u_127_18 {a : Int32} {lv : am_L} {st : List Value} : am_W G (am_M G d) 127 K 18 lv (.int a :: st) h nc ns = (am_br (a = 0) (am_W G (am_M G d) 127 K 30 lv st h nc ns) (am_W G (am_M G d) 127 K 21 lv st h nc ns)) := am_u e_127_18
theorem e_127_21 : pg_code 127 21 = some (.aload_n 0, 1, 0, 0) := by decide +kernel
theorem u_127_21 {a : Nat} {lv : am_L} {st : List Value} : am_W G (am_M G d) 127 K 21 (some (.ref a) :: lv) st h nc ns = (am_W G (am_M G d) 127 K 22 (some (.ref a) :: lv) (.ref a :: st) h nc ns) := am_u e_127_21
theorem e_127_22 : pg_code 127 22 = some (.getfield 87, 3, 7, 32) := by decide +kernel
theorem u_127_22 {a : Nat} {lv : am_L} {st : List Value} : am_W G (am_M G d) 127 K 22 lv (.ref a :: st) h nc ns = (f_gf G d 127 K 25 lv st h nc ns (h a) 7 32) := am_u e_127_22
theorem e_127_25 : pg_code 127 25 = some (.iload_n 1, 1, 0, 0) := by decide +kernel
theorem u_127_25 {a : Int32} {z0 : Option Value} {lv : am_L} {st : List Value} : am_W G (am_M G d) 127 K 25 (z0 :: some (.int a) :: lv) st h nc ns = (am_W G (am_M G d) 127 K 26 (z0 :: some (.int a) :: lv) (.int a :: st) h nc ns) := am_u e_127_25
theorem e_127_26 : pg_code 127 26 = some (.iaload, 1, 0, 0) := by decide +kernel
theorem u_127_26 {a : Nat} {j : Int32} {lv : am_L} {st : List Value} : am_W G (am_M G d) 127 K 26 lv (.int j :: .ref a :: st) h nc ns = (f_ia G d 127 K 27 lv st h nc ns (h a) .int j) := am_u e_127_26
theorem e_127_27 : pg_code 127 27 = some (.goto 8, 3, 35, 0) := by decide +kernel
theorem u_127_27 {lv : am_L} {st : List Value} : am_W G (am_M G d) 127 K 27 lv st h nc ns = (am_W G (am_M G d) 127 K 35 lv st h nc ns) := am_u e_127_27
theorem e_127_30 : pg_code 127 30 = some (.aload_n 0, 1, 0, 0) := by decide +kernel
theorem u_127_30 {a : Nat} {lv : am_L} {st : List Value} : am_W G (am_M G d) 127 K 30 (some (.ref a) :: lv) st h nc ns = (am_W G (am_M G d) 127 K 31 (some (.ref a) :: lv) (.ref a :: st) h nc ns) := am_u e_127_30
theorem e_127_31 : pg_code 127 31 = some (.iconst 1, 1, 0, 0) := by decide +kernel
theorem u_127_31 {lv : am_L} {st : List Value} : am_W G (am_M G d) 127 K 31 lv st h nc ns = (am_W G (am_M G d) 127 K 32 lv (.int 1 :: st) h nc ns) := am_u e_127_31
theorem e_127_32 : pg_code 127 32 = some (.invokevirtual 104, 3, 85, 2) := by decide +kernel
theorem u_127_32 {a : Nat} {v0 : Value} {lv : am_L} {st : List Value} : am_W G (am_M G d) 127 K 32 lv (v0 :: .ref a :: st) h nc ns = ((am_words st ≤ 8 ∧ nc + 0 ≤ 0 ∧ ns + 0 ≤ 0 ∧ f_rc (h a) 7) ∧ am_M G d 85 [.ref a, v0] h (am_back 127 K (am_W G (am_M G d) 127 K) 85 32 lv st nc ns)) := (am_u e_127_32).trans (f_iv_eq (a := a) (G := G) (d := d) (k := 127) (K := K) (pc := 32) (lv := lv) (st := st) (h := h) (nc := nc) (ns := ns) (x := 85) (X := am_W G (am_M G d) 127 K) [v0] (by decide) rfl)
theorem e_127_35 : pg_code 127 35 = some (.ireturn, 1, 0, 0) := by decide +kernel
theorem u_127_35 {a : Int32} {lv : am_L} : am_W G (am_M G d) 127 K 35 lv [.int a] h nc ns = (K (.inl (some (.int a))) h) := (am_u e_127_35).trans (f_t ⟨rfl, .int, rfl, rfl⟩)
theorem e_128_0 : pg_code 128 0 = some (.aload_n 0, 1, 0, 0) := by decide +kernel
theorem u_128_0 {a : Nat} {lv : am_L} {st : List Value} : am_W G (am_M G d) 128 K 0 (some (.ref a) :: lv) st h nc ns = (am_W G (am_M G d) 128 K 1 (some (.ref a) :: lv) (.ref a :: st) h nc ns) := am_u e_128_0
theorem e_128_1 : pg_code 128 1 = some (.iconst 0, 1, 0, 0) := by decide +kernel
theorem u_128_1 {lv : am_L} {st : List Value} : am_W G (am_M G d) 128 K 1 lv st h nc ns = (am_W G (am_M G d) 128 K 2 lv (.int 0 :: st) h nc ns) := am_u e_128_1
theorem e_128_2 : pg_code 128 2 = some (.putfield 90, 3, 7, 0) := by decide +kernel
theorem u_128_2 {a : Nat} {b : Int32} {lv : am_L} {st : List Value} : am_W G (am_M G d) 128 K 2 lv (.int b :: .ref a :: st) h nc ns = (f_pf G d 128 K 5 lv st h nc ns (h a) 7 0 a (.int b)) := (am_u e_128_2).trans (f_pf_eq ⟨rfl, rfl⟩)
theorem e_128_5 : pg_code 128 5 = some (.iload_n 1, 1, 0, 0) := by decide +kernel
theorem u_128_5 {a : Int32} {z0 : Option Value} {lv : am_L} {st : List Value} : am_W G (am_M G d) 128 K 5 (z0 :: some (.int a) :: lv) st h nc ns = (am_W G (am_M G d) 128 K 6 (z0 :: some (.int a) :: lv) (.int a :: st) h nc ns) := am_u e_128_5
theorem e_128_6 : pg_code 128 6 = some (.iconst 0, 1, 0, 0) := by decide +kernel
theorem u_128_6 {lv : am_L} {st : List Value} : am_W G (am_M G d) 128 K 6 lv st h nc ns = (am_W G (am_M G d) 128 K 7 lv (.int 0 :: st) h nc ns) := am_u e_128_6
theorem e_128_7 : pg_code 128 7 = some (.bipush 9, 2, 0, 0) := by decide +kernel
theorem u_128_7 {lv : am_L} {st : List Value} : am_W G (am_M G d) 128 K 7 lv st h nc ns = (am_W G (am_M G d) 128 K 9 lv (.int 9 :: st) h nc ns) := am_u e_128_7
theorem e_128_9 : pg_code 128 9 = some (.invokestatic 108, 3, 88, 3) := by decide +kernel
theorem u_128_9 {v0 v1 v2 : Value} {lv : am_L} {st : List Value} : am_W G (am_M G d) 128 K 9 lv (v2 :: v1 :: v0 :: st) h nc ns = ((am_words st ≤ 8 ∧ nc + 0 ≤ 0 ∧ ns + 0 ≤ 0) ∧ am_M G d 88 [v0, v1, v2] h (am_back 128 K (am_W G (am_M G d) 128 K) 88 9 lv st nc ns)) := (am_u e_128_9).trans (f_st_eq (G := G) (d := d) (k := 128) (K := K) (pc := 9) (lv := lv) (st := st) (h := h) (nc := nc) (ns := ns) (x := 88) (X := am_W G (am_M G d) 128 K) [v0, v1, v2] (by decide) rfl)
theorem e_128_12 : pg_code 128 12 = some (.ifCond .ne 5, 3, 17, 0) := by decide +kernel
theorem u_128_12 {a : Int32} {lv : am_L} {st : List Value} : am_W G (am_M G d) 128 K 12 lv (.int a :: st) h nc ns = (am_br (¬ a = 0) (am_W G (am_M G d) 128 K 17 lv st h nc ns) (am_W G (am_M G d) 128 K 15 lv st h nc ns)) := am_u e_128_12
theorem e_128_15 : pg_code 128 15 = some (.iconst (-1), 1, 0, 0) := by decide +kernel
theorem u_128_15 {lv : am_L} {st : List Value} : am_W G (am_M G d) 128 K 15 lv st h nc ns = (am_W G (am_M G d) 128 K 16 lv (.int (-1) :: st) h nc ns) := am_u e_128_15
theorem e_128_16 : pg_code 128 16 = some (.ireturn, 1, 0, 0) := by decide +kernel
theorem u_128_16 {a : Int32} {lv : am_L} : am_W G (am_M G d) 128 K 16 lv [.int a] h nc ns = (K (.inl (some (.int a))) h) := (am_u e_128_16).trans (f_t ⟨rfl, .int, rfl, rfl⟩)
theorem e_128_17 : pg_code 128 17 = some (.iload_n 1, 1, 0, 0) := by decide +kernel
theorem u_128_17 {a : Int32} {z0 : Option Value} {lv : am_L} {st : List Value} : am_W G (am_M G d) 128 K 17 (z0 :: some (.int a) :: lv) st h nc ns = (am_W G (am_M G d) 128 K 18 (z0 :: some (.int a) :: lv) (.int a :: st) h nc ns) := am_u e_128_17
theorem e_128_18 : pg_code 128 18 = some (.iconst 3, 1, 0, 0) := by decide +kernel
theorem u_128_18 {lv : am_L} {st : List Value} : am_W G (am_M G d) 128 K 18 lv st h nc ns = (am_W G (am_M G d) 128 K 19 lv (.int 3 :: st) h nc ns) := am_u e_128_18
theorem e_128_19 : pg_code 128 19 = some (.if_icmp .ge 31, 3, 50, 0) := by decide +kernel
theorem u_128_19 {a b : Int32} {lv : am_L} {st : List Value} : am_W G (am_M G d) 128 K 19 lv (.int b :: .int a :: st) h nc ns = (am_br (b ≤ a) (am_W G (am_M G d) 128 K 50 lv st h nc ns) (am_W G (am_M G d) 128 K 22 lv st h nc ns)) := am_u e_128_19
theorem e_128_22 : pg_code 128 22 = some (.iload_n 1, 1, 0, 0) := by decide +kernel
theorem u_128_22 {a : Int32} {z0 : Option Value} {lv : am_L} {st : List Value} : am_W G (am_M G d) 128 K 22 (z0 :: some (.int a) :: lv) st h nc ns = (am_W G (am_M G d) 128 K 23 (z0 :: some (.int a) :: lv) (.int a :: st) h nc ns) := am_u e_128_22
theorem e_128_23 : pg_code 128 23 = some (.ifCond .ne 10, 3, 33, 0) := by decide +kernel
theorem u_128_23 {a : Int32} {lv : am_L} {st : List Value} : am_W G (am_M G d) 128 K 23 lv (.int a :: st) h nc ns = (am_br (¬ a = 0) (am_W G (am_M G d) 128 K 33 lv st h nc ns) (am_W G (am_M G d) 128 K 26 lv st h nc ns)) := am_u e_128_23
theorem e_128_26 : pg_code 128 26 = some (.aload_n 0, 1, 0, 0) := by decide +kernel
theorem u_128_26 {a : Nat} {lv : am_L} {st : List Value} : am_W G (am_M G d) 128 K 26 (some (.ref a) :: lv) st h nc ns = (am_W G (am_M G d) 128 K 27 (some (.ref a) :: lv) (.ref a :: st) h nc ns) := am_u e_128_26
theorem e_128_27 : pg_code 128 27 = some (.getfield 101, 3, 7, 1) := by decide +kernel
theorem u_128_27 {a : Nat} {lv : am_L} {st : List Value} : am_W G (am_M G d) 128 K 27 lv (.ref a :: st) h nc ns = (f_gf G d 128 K 30 lv st h nc ns (h a) 7 1) := am_u e_128_27
theorem e_128_30 : pg_code 128 30 = some (.goto 19, 3, 49, 0) := by decide +kernel
theorem u_128_30 {lv : am_L} {st : List Value} : am_W G (am_M G d) 128 K 30 lv st h nc ns = (am_W G (am_M G d) 128 K 49 lv st h nc ns) := am_u e_128_30
theorem e_128_33 : pg_code 128 33 = some (.iload_n 1, 1, 0, 0) := by decide +kernel
theorem u_128_33 {a : Int32} {z0 : Option Value} {lv : am_L} {st : List Value} : am_W G (am_M G d) 128 K 33 (z0 :: some (.int a) :: lv) st h nc ns = (am_W G (am_M G d) 128 K 34 (z0 :: some (.int a) :: lv) (.int a :: st) h nc ns) := am_u e_128_33
theorem e_128_34 : pg_code 128 34 = some (.iconst 1, 1, 0, 0) := by decide +kernel
theorem u_128_34 {lv : am_L} {st : List Value} : am_W G (am_M G d) 128 K 34 lv st h nc ns = (am_W G (am_M G d) 128 K 35 lv (.int 1 :: st) h nc ns) := am_u e_128_34
theorem e_128_35 : pg_code 128 35 = some (.if_icmp .ne 10, 3, 45, 0) := by decide +kernel
theorem u_128_35 {a b : Int32} {lv : am_L} {st : List Value} : am_W G (am_M G d) 128 K 35 lv (.int b :: .int a :: st) h nc ns = (am_br (¬ a = b) (am_W G (am_M G d) 128 K 45 lv st h nc ns) (am_W G (am_M G d) 128 K 38 lv st h nc ns)) := am_u e_128_35
theorem e_128_38 : pg_code 128 38 = some (.aload_n 0, 1, 0, 0) := by decide +kernel
theorem u_128_38 {a : Nat} {lv : am_L} {st : List Value} : am_W G (am_M G d) 128 K 38 (some (.ref a) :: lv) st h nc ns = (am_W G (am_M G d) 128 K 39 (some (.ref a) :: lv) (.ref a :: st) h nc ns) := am_u e_128_38
theorem e_128_39 : pg_code 128 39 = some (.getfield 119, 3, 7, 2) := by decide +kernel
theorem u_128_39 {a : Nat} {lv : am_L} {st : List Value} : am_W G (am_M G d) 128 K 39 lv (.ref a :: st) h nc ns = (f_gf G d 128 K 42 lv st h nc ns (h a) 7 2) := am_u e_128_39
theorem e_128_42 : pg_code 128 42 = some (.goto 7, 3, 49, 0) := by decide +kernel
theorem u_128_42 {lv : am_L} {st : List Value} : am_W G (am_M G d) 128 K 42 lv st h nc ns = (am_W G (am_M G d) 128 K 49 lv st h nc ns) := am_u e_128_42
theorem e_128_45 : pg_code 128 45 = some (.aload_n 0, 1, 0, 0) := by decide +kernel
theorem u_128_45 {a : Nat} {lv : am_L} {st : List Value} : am_W G (am_M G d) 128 K 45 (some (.ref a) :: lv) st h nc ns = (am_W G (am_M G d) 128 K 46 (some (.ref a) :: lv) (.ref a :: st) h nc ns) := am_u e_128_45
theorem e_128_46 : pg_code 128 46 = some (.getfield 175, 3, 7, 3) := by decide +kernel
theorem u_128_46 {a : Nat} {lv : am_L} {st : List Value} : am_W G (am_M G d) 128 K 46 lv (.ref a :: st) h nc ns = (f_gf G d 128 K 49 lv st h nc ns (h a) 7 3) := am_u e_128_46
theorem e_128_49 : pg_code 128 49 = some (.ireturn, 1, 0, 0) := by decide +kernel
theorem u_128_49 {a : Int32} {lv : am_L} : am_W G (am_M G d) 128 K 49 lv [.int a] h nc ns = (K (.inl (some (.int a))) h) := (am_u e_128_49).trans (f_t ⟨rfl, .int, rfl, rfl⟩)
theorem e_128_50 : pg_code 128 50 = some (.iload_n 1, 1, 0, 0) := by decide +kernel
theorem u_128_50 {a : Int32} {z0 : Option Value} {lv : am_L} {st : List Value} : am_W G (am_M G d) 128 K 50 (z0 :: some (.int a) :: lv) st h nc ns = (am_W G (am_M G d) 128 K 51 (z0 :: some (.int a) :: lv) (.int a :: st) h nc ns) := am_u e_128_50
theorem e_128_51 : pg_code 128 51 = some (.bipush 6, 2, 0, 0) := by decide +kernel
theorem u_128_51 {lv : am_L} {st : List Value} : am_W G (am_M G d) 128 K 51 lv st h nc ns = (am_W G (am_M G d) 128 K 53 lv (.int 6 :: st) h nc ns) := am_u e_128_51
theorem e_128_53 : pg_code 128 53 = some (.if_icmp .ge 32, 3, 85, 0) := by decide +kernel
theorem u_128_53 {a b : Int32} {lv : am_L} {st : List Value} : am_W G (am_M G d) 128 K 53 lv (.int b :: .int a :: st) h nc ns = (am_br (b ≤ a) (am_W G (am_M G d) 128 K 85 lv st h nc ns) (am_W G (am_M G d) 128 K 56 lv st h nc ns)) := am_u e_128_53
theorem e_128_56 : pg_code 128 56 = some (.iload_n 1, 1, 0, 0) := by decide +kernel
theorem u_128_56 {a : Int32} {z0 : Option Value} {lv : am_L} {st : List Value} : am_W G (am_M G d) 128 K 56 (z0 :: some (.int a) :: lv) st h nc ns = (am_W G (am_M G d) 128 K 57 (z0 :: some (.int a) :: lv) (.int a :: st) h nc ns) := am_u e_128_56
theorem e_128_57 : pg_code 128 57 = some (.iconst 3, 1, 0, 0) := by decide +kernel
theorem u_128_57 {lv : am_L} {st : List Value} : am_W G (am_M G d) 128 K 57 lv st h nc ns = (am_W G (am_M G d) 128 K 58 lv (.int 3 :: st) h nc ns) := am_u e_128_57
theorem e_128_58 : pg_code 128 58 = some (.if_icmp .ne 10, 3, 68, 0) := by decide +kernel
theorem u_128_58 {a b : Int32} {lv : am_L} {st : List Value} : am_W G (am_M G d) 128 K 58 lv (.int b :: .int a :: st) h nc ns = (am_br (¬ a = b) (am_W G (am_M G d) 128 K 68 lv st h nc ns) (am_W G (am_M G d) 128 K 61 lv st h nc ns)) := am_u e_128_58
theorem e_128_61 : pg_code 128 61 = some (.aload_n 0, 1, 0, 0) := by decide +kernel
theorem u_128_61 {a : Nat} {lv : am_L} {st : List Value} : am_W G (am_M G d) 128 K 61 (some (.ref a) :: lv) st h nc ns = (am_W G (am_M G d) 128 K 62 (some (.ref a) :: lv) (.ref a :: st) h nc ns) := am_u e_128_61
theorem e_128_62 : pg_code 128 62 = some (.getfield 94, 3, 7, 18) := by decide +kernel
theorem u_128_62 {a : Nat} {lv : am_L} {st : List Value} : am_W G (am_M G d) 128 K 62 lv (.ref a :: st) h nc ns = (f_gf G d 128 K 65 lv st h nc ns (h a) 7 18) := am_u e_128_62
theorem e_128_65 : pg_code 128 65 = some (.goto 19, 3, 84, 0) := by decide +kernel
theorem u_128_65 {lv : am_L} {st : List Value} : am_W G (am_M G d) 128 K 65 lv st h nc ns = (am_W G (am_M G d) 128 K 84 lv st h nc ns) := am_u e_128_65
theorem e_128_68 : pg_code 128 68 = some (.iload_n 1, 1, 0, 0) := by decide +kernel
theorem u_128_68 {a : Int32} {z0 : Option Value} {lv : am_L} {st : List Value} : am_W G (am_M G d) 128 K 68 (z0 :: some (.int a) :: lv) st h nc ns = (am_W G (am_M G d) 128 K 69 (z0 :: some (.int a) :: lv) (.int a :: st) h nc ns) := am_u e_128_68
theorem e_128_69 : pg_code 128 69 = some (.iconst 4, 1, 0, 0) := by decide +kernel
theorem u_128_69 {lv : am_L} {st : List Value} : am_W G (am_M G d) 128 K 69 lv st h nc ns = (am_W G (am_M G d) 128 K 70 lv (.int 4 :: st) h nc ns) := am_u e_128_69
theorem e_128_70 : pg_code 128 70 = some (.if_icmp .ne 10, 3, 80, 0) := by decide +kernel
theorem u_128_70 {a b : Int32} {lv : am_L} {st : List Value} : am_W G (am_M G d) 128 K 70 lv (.int b :: .int a :: st) h nc ns = (am_br (¬ a = b) (am_W G (am_M G d) 128 K 80 lv st h nc ns) (am_W G (am_M G d) 128 K 73 lv st h nc ns)) := am_u e_128_70
theorem e_128_73 : pg_code 128 73 = some (.aload_n 0, 1, 0, 0) := by decide +kernel
theorem u_128_73 {a : Nat} {lv : am_L} {st : List Value} : am_W G (am_M G d) 128 K 73 (some (.ref a) :: lv) st h nc ns = (am_W G (am_M G d) 128 K 74 (some (.ref a) :: lv) (.ref a :: st) h nc ns) := am_u e_128_73
theorem e_128_74 : pg_code 128 74 = some (.getfield 143, 3, 7, 26) := by decide +kernel
theorem u_128_74 {a : Nat} {lv : am_L} {st : List Value} : am_W G (am_M G d) 128 K 74 lv (.ref a :: st) h nc ns = (f_gf G d 128 K 77 lv st h nc ns (h a) 7 26) := am_u e_128_74
theorem e_128_77 : pg_code 128 77 = some (.goto 7, 3, 84, 0) := by decide +kernel
theorem u_128_77 {lv : am_L} {st : List Value} : am_W G (am_M G d) 128 K 77 lv st h nc ns = (am_W G (am_M G d) 128 K 84 lv st h nc ns) := am_u e_128_77
theorem e_128_80 : pg_code 128 80 = some (.aload_n 0, 1, 0, 0) := by decide +kernel
theorem u_128_80 {a : Nat} {lv : am_L} {st : List Value} : am_W G (am_M G d) 128 K 80 (some (.ref a) :: lv) st h nc ns = (am_W G (am_M G d) 128 K 81 (some (.ref a) :: lv) (.ref a :: st) h nc ns) := am_u e_128_80
theorem e_128_81 : pg_code 128 81 = some (.getfield 169, 3, 7, 27) := by decide +kernel
theorem u_128_81 {a : Nat} {lv : am_L} {st : List Value} : am_W G (am_M G d) 128 K 81 lv (.ref a :: st) h nc ns = (f_gf G d 128 K 84 lv st h nc ns (h a) 7 27) := am_u e_128_81
theorem e_128_84 : pg_code 128 84 = some (.ireturn, 1, 0, 0) := by decide +kernel
theorem u_128_84 {a : Int32} {lv : am_L} : am_W G (am_M G d) 128 K 84 lv [.int a] h nc ns = (K (.inl (some (.int a))) h) := (am_u e_128_84).trans (f_t ⟨rfl, .int, rfl, rfl⟩)
theorem e_128_85 : pg_code 128 85 = some (.iconst 0, 1, 0, 0) := by decide +kernel
theorem u_128_85 {lv : am_L} {st : List Value} : am_W G (am_M G d) 128 K 85 lv st h nc ns = (am_W G (am_M G d) 128 K 86 lv (.int 0 :: st) h nc ns) := am_u e_128_85
theorem e_128_86 : pg_code 128 86 = some (.istore_n 2, 1, 0, 0) := by decide +kernel
theorem u_128_86 {a : Int32} {lv : am_L} {st : List Value} : am_W G (am_M G d) 128 K 86 lv (.int a :: st) h nc ns = (am_W G (am_M G d) 128 K 87 (am_st1 lv 2 (.int a)) st h nc ns) := (am_u e_128_86).trans (f_t (by decide +kernel))
theorem e_128_87 : pg_code 128 87 = some (.iconst 0, 1, 0, 0) := by decide +kernel
theorem u_128_87 {lv : am_L} {st : List Value} : am_W G (am_M G d) 128 K 87 lv st h nc ns = (am_W G (am_M G d) 128 K 88 lv (.int 0 :: st) h nc ns) := am_u e_128_87
theorem e_128_88 : pg_code 128 88 = some (.istore_n 3, 1, 0, 0) := by decide +kernel
theorem u_128_88 {a : Int32} {lv : am_L} {st : List Value} : am_W G (am_M G d) 128 K 88 lv (.int a :: st) h nc ns = (am_W G (am_M G d) 128 K 89 (am_st1 lv 3 (.int a)) st h nc ns) := (am_u e_128_88).trans (f_t (by decide +kernel))
theorem e_128_89 : pg_code 128 89 = some (.iload_n 3, 1, 0, 0) := by decide +kernel
theorem u_128_89 {a : Int32} {z0 : Option Value} {z1 : Option Value} {z2 : Option Value} {lv : am_L} {st : List Value} : am_W G (am_M G d) 128 K 89 (z0 :: z1 :: z2 :: some (.int a) :: lv) st h nc ns = (am_W G (am_M G d) 128 K 90 (z0 :: z1 :: z2 :: some (.int a) :: lv) (.int a :: st) h nc ns) := am_u e_128_89
theorem e_128_90 : pg_code 128 90 = some (.aload_n 0, 1, 0, 0) := by decide +kernel
theorem u_128_90 {a : Nat} {lv : am_L} {st : List Value} : am_W G (am_M G d) 128 K 90 (some (.ref a) :: lv) st h nc ns = (am_W G (am_M G d) 128 K 91 (some (.ref a) :: lv) (.ref a :: st) h nc ns) := am_u e_128_90
theorem e_128_91 : pg_code 128 91 = some (.getfield 119, 3, 7, 2) := by decide +kernel
theorem u_128_91 {a : Nat} {lv : am_L} {st : List Value} : am_W G (am_M G d) 128 K 91 lv (.ref a :: st) h nc ns = (f_gf G d 128 K 94 lv st h nc ns (h a) 7 2) := am_u e_128_91
theorem e_128_94 : pg_code 128 94 = some (.if_icmp .ge 33, 3, 127, 0) := by decide +kernel
theorem u_128_94 {a b : Int32} {lv : am_L} {st : List Value} : am_W G (am_M G d) 128 K 94 lv (.int b :: .int a :: st) h nc ns = (am_br (b ≤ a) (am_W G (am_M G d) 128 K 127 lv st h nc ns) (am_W G (am_M G d) 128 K 97 lv st h nc ns)) := am_u e_128_94
theorem e_128_97 : pg_code 128 97 = some (.iload_n 2, 1, 0, 0) := by decide +kernel
theorem u_128_97 {a : Int32} {z0 : Option Value} {z1 : Option Value} {lv : am_L} {st : List Value} : am_W G (am_M G d) 128 K 97 (z0 :: z1 :: some (.int a) :: lv) st h nc ns = (am_W G (am_M G d) 128 K 98 (z0 :: z1 :: some (.int a) :: lv) (.int a :: st) h nc ns) := am_u e_128_97
theorem e_128_98 : pg_code 128 98 = some (.aload_n 0, 1, 0, 0) := by decide +kernel
theorem u_128_98 {a : Nat} {lv : am_L} {st : List Value} : am_W G (am_M G d) 128 K 98 (some (.ref a) :: lv) st h nc ns = (am_W G (am_M G d) 128 K 99 (some (.ref a) :: lv) (.ref a :: st) h nc ns) := am_u e_128_98
theorem e_128_99 : pg_code 128 99 = some (.getfield 23, 3, 7, 8) := by decide +kernel
theorem u_128_99 {a : Nat} {lv : am_L} {st : List Value} : am_W G (am_M G d) 128 K 99 lv (.ref a :: st) h nc ns = (f_gf G d 128 K 102 lv st h nc ns (h a) 7 8) := am_u e_128_99
theorem e_128_102 : pg_code 128 102 = some (.iload_n 3, 1, 0, 0) := by decide +kernel
theorem u_128_102 {a : Int32} {z0 : Option Value} {z1 : Option Value} {z2 : Option Value} {lv : am_L} {st : List Value} : am_W G (am_M G d) 128 K 102 (z0 :: z1 :: z2 :: some (.int a) :: lv) st h nc ns = (am_W G (am_M G d) 128 K 103 (z0 :: z1 :: z2 :: some (.int a) :: lv) (.int a :: st) h nc ns) := am_u e_128_102
theorem e_128_103 : pg_code 128 103 = some (.invokestatic 116, 3, 91, 1) := by decide +kernel
theorem u_128_103 {v0 : Value} {lv : am_L} {st : List Value} : am_W G (am_M G d) 128 K 103 lv (v0 :: st) h nc ns = ((am_words st ≤ 8 ∧ nc + 0 ≤ 0 ∧ ns + 0 ≤ 0) ∧ am_M G d 91 [v0] h (am_back 128 K (am_W G (am_M G d) 128 K) 91 103 lv st nc ns)) := (am_u e_128_103).trans (f_st_eq (G := G) (d := d) (k := 128) (K := K) (pc := 103) (lv := lv) (st := st) (h := h) (nc := nc) (ns := ns) (x := 91) (X := am_W G (am_M G d) 128 K) [v0] (by decide) rfl)
theorem e_128_106 : pg_code 128 106 = some (.iaload, 1, 0, 0) := by decide +kernel
theorem u_128_106 {a : Nat} {j : Int32} {lv : am_L} {st : List Value} : am_W G (am_M G d) 128 K 106 lv (.int j :: .ref a :: st) h nc ns = (f_ia G d 128 K 107 lv st h nc ns (h a) .int j) := am_u e_128_106
theorem e_128_107 : pg_code 128 107 = some (.iload_n 1, 1, 0, 0) := by decide +kernel
theorem u_128_107 {a : Int32} {z0 : Option Value} {lv : am_L} {st : List Value} : am_W G (am_M G d) 128 K 107 (z0 :: some (.int a) :: lv) st h nc ns = (am_W G (am_M G d) 128 K 108 (z0 :: some (.int a) :: lv) (.int a :: st) h nc ns) := am_u e_128_107
theorem e_128_108 : pg_code 128 108 = some (.bipush 6, 2, 0, 0) := by decide +kernel
theorem u_128_108 {lv : am_L} {st : List Value} : am_W G (am_M G d) 128 K 108 lv st h nc ns = (am_W G (am_M G d) 128 K 110 lv (.int 6 :: st) h nc ns) := am_u e_128_108
theorem e_128_110 : pg_code 128 110 = some (.isub, 1, 0, 0) := by decide +kernel
theorem u_128_110 {a b : Int32} {lv : am_L} {st : List Value} : am_W G (am_M G d) 128 K 110 lv (.int b :: .int a :: st) h nc ns = (am_W G (am_M G d) 128 K 111 lv (.int (a - b) :: st) h nc ns) := am_u e_128_110
theorem e_128_111 : pg_code 128 111 = some (.if_icmp .ne 7, 3, 118, 0) := by decide +kernel
theorem u_128_111 {a b : Int32} {lv : am_L} {st : List Value} : am_W G (am_M G d) 128 K 111 lv (.int b :: .int a :: st) h nc ns = (am_br (¬ a = b) (am_W G (am_M G d) 128 K 118 lv st h nc ns) (am_W G (am_M G d) 128 K 114 lv st h nc ns)) := am_u e_128_111
theorem e_128_114 : pg_code 128 114 = some (.iconst 1, 1, 0, 0) := by decide +kernel
theorem u_128_114 {lv : am_L} {st : List Value} : am_W G (am_M G d) 128 K 114 lv st h nc ns = (am_W G (am_M G d) 128 K 115 lv (.int 1 :: st) h nc ns) := am_u e_128_114
theorem e_128_115 : pg_code 128 115 = some (.goto 4, 3, 119, 0) := by decide +kernel
theorem u_128_115 {lv : am_L} {st : List Value} : am_W G (am_M G d) 128 K 115 lv st h nc ns = (am_W G (am_M G d) 128 K 119 lv st h nc ns) := am_u e_128_115
theorem e_128_118 : pg_code 128 118 = some (.iconst 0, 1, 0, 0) := by decide +kernel
theorem u_128_118 {lv : am_L} {st : List Value} : am_W G (am_M G d) 128 K 118 lv st h nc ns = (am_W G (am_M G d) 128 K 119 lv (.int 0 :: st) h nc ns) := am_u e_128_118
theorem e_128_119 : pg_code 128 119 = some (.iadd, 1, 0, 0) := by decide +kernel
theorem u_128_119 {a b : Int32} {lv : am_L} {st : List Value} : am_W G (am_M G d) 128 K 119 lv (.int b :: .int a :: st) h nc ns = (am_W G (am_M G d) 128 K 120 lv (.int (a + b) :: st) h nc ns) := am_u e_128_119
theorem e_128_120 : pg_code 128 120 = some (.istore_n 2, 1, 0, 0) := by decide +kernel
theorem u_128_120 {a : Int32} {lv : am_L} {st : List Value} : am_W G (am_M G d) 128 K 120 lv (.int a :: st) h nc ns = (am_W G (am_M G d) 128 K 121 (am_st1 lv 2 (.int a)) st h nc ns) := (am_u e_128_120).trans (f_t (by decide +kernel))
theorem e_128_121 : pg_code 128 121 = some (.iinc 3 1, 3, 0, 0) := by decide +kernel
theorem u_128_121 {a : Int32} {z0 : Option Value} {z1 : Option Value} {z2 : Option Value} {lv : am_L} {st : List Value} : am_W G (am_M G d) 128 K 121 (z0 :: z1 :: z2 :: some (.int a) :: lv) st h nc ns = (am_W G (am_M G d) 128 K 124 (am_st1 (z0 :: z1 :: z2 :: some (.int a) :: lv) 3 (.int (a + Int32.ofInt 1))) st h nc ns) := (am_u e_128_121).trans (f_t (by decide +kernel))
theorem e_128_124 : pg_code 128 124 = some (.goto (-35), 3, 89, 0) := by decide +kernel
theorem u_128_124 {lv : am_L} {st : List Value} : am_W G (am_M G d) 128 K 124 lv st h nc ns = (am_W G (am_M G d) 128 K 89 lv st h nc ns) := am_u e_128_124
theorem e_128_127 : pg_code 128 127 = some (.iload_n 2, 1, 0, 0) := by decide +kernel
theorem u_128_127 {a : Int32} {z0 : Option Value} {z1 : Option Value} {lv : am_L} {st : List Value} : am_W G (am_M G d) 128 K 127 (z0 :: z1 :: some (.int a) :: lv) st h nc ns = (am_W G (am_M G d) 128 K 128 (z0 :: z1 :: some (.int a) :: lv) (.int a :: st) h nc ns) := am_u e_128_127
theorem e_128_128 : pg_code 128 128 = some (.ireturn, 1, 0, 0) := by decide +kernel
theorem u_128_128 {a : Int32} {lv : am_L} : am_W G (am_M G d) 128 K 128 lv [.int a] h nc ns = (K (.inl (some (.int a))) h) := (am_u e_128_128).trans (f_t ⟨rfl, .int, rfl, rfl⟩)
end Steps

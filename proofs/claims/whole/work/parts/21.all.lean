-- PRINTED by wip/whole/gen.py: all of it together
def ck_cP (x : Nat) : Prop := (pg_tab x = [] → Cond.code (pg_name x) (pg_bytes x) (pg_max x) (pg_ret x) ∈ pg_ws) ∧ am_okM am_NM x
theorem cs_0 : ∀ a, a < 0 → ck_cP a := lt_0
theorem cs_1 : ∀ a, a < 1 → ck_cP a := lt_s cs_0 cm_0
theorem cs_2 : ∀ a, a < 2 → ck_cP a := lt_s cs_1 cm_1
theorem cs_3 : ∀ a, a < 3 → ck_cP a := lt_s cs_2 cm_2
theorem cs_4 : ∀ a, a < 4 → ck_cP a := lt_s cs_3 cm_3
theorem cs_5 : ∀ a, a < 5 → ck_cP a := lt_s cs_4 cm_4
theorem cs_6 : ∀ a, a < 6 → ck_cP a := lt_s cs_5 cm_5
theorem cs_7 : ∀ a, a < 7 → ck_cP a := lt_s cs_6 cm_6
theorem cs_8 : ∀ a, a < 8 → ck_cP a := lt_s cs_7 cm_7
theorem cs_9 : ∀ a, a < 9 → ck_cP a := lt_s cs_8 cm_8
theorem cs_10 : ∀ a, a < 10 → ck_cP a := lt_s cs_9 cm_9
theorem cs_11 : ∀ a, a < 11 → ck_cP a := lt_s cs_10 cm_10
theorem cs_12 : ∀ a, a < 12 → ck_cP a := lt_s cs_11 cm_11
theorem cs_13 : ∀ a, a < 13 → ck_cP a := lt_s cs_12 cm_12
theorem cs_14 : ∀ a, a < 14 → ck_cP a := lt_s cs_13 cm_13
theorem cs_15 : ∀ a, a < 15 → ck_cP a := lt_s cs_14 cm_14
theorem cs_16 : ∀ a, a < 16 → ck_cP a := lt_s cs_15 cm_15
theorem cs_17 : ∀ a, a < 17 → ck_cP a := lt_s cs_16 cm_16
theorem cs_18 : ∀ a, a < 18 → ck_cP a := lt_s cs_17 cm_17
theorem cs_19 : ∀ a, a < 19 → ck_cP a := lt_s cs_18 cm_18
theorem cs_20 : ∀ a, a < 20 → ck_cP a := lt_s cs_19 cm_19
theorem cs_21 : ∀ a, a < 21 → ck_cP a := lt_s cs_20 cm_20
theorem cs_22 : ∀ a, a < 22 → ck_cP a := lt_s cs_21 cm_21
theorem cs_23 : ∀ a, a < 23 → ck_cP a := lt_s cs_22 cm_22
theorem cs_24 : ∀ a, a < 24 → ck_cP a := lt_s cs_23 cm_23
theorem cs_25 : ∀ a, a < 25 → ck_cP a := lt_s cs_24 cm_24
theorem cs_26 : ∀ a, a < 26 → ck_cP a := lt_s cs_25 cm_25
theorem cs_27 : ∀ a, a < 27 → ck_cP a := lt_s cs_26 cm_26
theorem cs_28 : ∀ a, a < 28 → ck_cP a := lt_s cs_27 cm_27
theorem cs_29 : ∀ a, a < 29 → ck_cP a := lt_s cs_28 cm_28
theorem cs_30 : ∀ a, a < 30 → ck_cP a := lt_s cs_29 cm_29
theorem cs_31 : ∀ a, a < 31 → ck_cP a := lt_s cs_30 cm_30
theorem cs_32 : ∀ a, a < 32 → ck_cP a := lt_s cs_31 cm_31
theorem cs_33 : ∀ a, a < 33 → ck_cP a := lt_s cs_32 cm_32
theorem cs_34 : ∀ a, a < 34 → ck_cP a := lt_s cs_33 cm_33
theorem cs_35 : ∀ a, a < 35 → ck_cP a := lt_s cs_34 cm_34
theorem cs_36 : ∀ a, a < 36 → ck_cP a := lt_s cs_35 cm_35
theorem cs_37 : ∀ a, a < 37 → ck_cP a := lt_s cs_36 cm_36
theorem cs_38 : ∀ a, a < 38 → ck_cP a := lt_s cs_37 cm_37
theorem cs_39 : ∀ a, a < 39 → ck_cP a := lt_s cs_38 cm_38
theorem cs_40 : ∀ a, a < 40 → ck_cP a := lt_s cs_39 cm_39
theorem cs_41 : ∀ a, a < 41 → ck_cP a := lt_s cs_40 cm_40
theorem cs_42 : ∀ a, a < 42 → ck_cP a := lt_s cs_41 cm_41
theorem cs_43 : ∀ a, a < 43 → ck_cP a := lt_s cs_42 cm_42
theorem cs_44 : ∀ a, a < 44 → ck_cP a := lt_s cs_43 cm_43
theorem cs_45 : ∀ a, a < 45 → ck_cP a := lt_s cs_44 cm_44
theorem cs_46 : ∀ a, a < 46 → ck_cP a := lt_s cs_45 cm_45
theorem cs_47 : ∀ a, a < 47 → ck_cP a := lt_s cs_46 cm_46
theorem cs_48 : ∀ a, a < 48 → ck_cP a := lt_s cs_47 cm_47
theorem cs_49 : ∀ a, a < 49 → ck_cP a := lt_s cs_48 cm_48
theorem cs_50 : ∀ a, a < 50 → ck_cP a := lt_s cs_49 cm_49
theorem cs_51 : ∀ a, a < 51 → ck_cP a := lt_s cs_50 cm_50
theorem cs_52 : ∀ a, a < 52 → ck_cP a := lt_s cs_51 cm_51
theorem cs_53 : ∀ a, a < 53 → ck_cP a := lt_s cs_52 cm_52
theorem cs_54 : ∀ a, a < 54 → ck_cP a := lt_s cs_53 cm_53
theorem cs_55 : ∀ a, a < 55 → ck_cP a := lt_s cs_54 cm_54
theorem cs_56 : ∀ a, a < 56 → ck_cP a := lt_s cs_55 cm_55
theorem cs_57 : ∀ a, a < 57 → ck_cP a := lt_s cs_56 cm_56
theorem cs_58 : ∀ a, a < 58 → ck_cP a := lt_s cs_57 cm_57
theorem cs_59 : ∀ a, a < 59 → ck_cP a := lt_s cs_58 cm_58
theorem cs_60 : ∀ a, a < 60 → ck_cP a := lt_s cs_59 cm_59
theorem cs_61 : ∀ a, a < 61 → ck_cP a := lt_s cs_60 cm_60
theorem cs_62 : ∀ a, a < 62 → ck_cP a := lt_s cs_61 cm_61
theorem cs_63 : ∀ a, a < 63 → ck_cP a := lt_s cs_62 cm_62
theorem cs_64 : ∀ a, a < 64 → ck_cP a := lt_s cs_63 cm_63
theorem cs_65 : ∀ a, a < 65 → ck_cP a := lt_s cs_64 cm_64
theorem cs_66 : ∀ a, a < 66 → ck_cP a := lt_s cs_65 cm_65
theorem cs_67 : ∀ a, a < 67 → ck_cP a := lt_s cs_66 cm_66
theorem cs_68 : ∀ a, a < 68 → ck_cP a := lt_s cs_67 cm_67
theorem cs_69 : ∀ a, a < 69 → ck_cP a := lt_s cs_68 cm_68
theorem cs_70 : ∀ a, a < 70 → ck_cP a := lt_s cs_69 cm_69
theorem cs_71 : ∀ a, a < 71 → ck_cP a := lt_s cs_70 cm_70
theorem cs_72 : ∀ a, a < 72 → ck_cP a := lt_s cs_71 cm_71
theorem cs_73 : ∀ a, a < 73 → ck_cP a := lt_s cs_72 cm_72
theorem cs_74 : ∀ a, a < 74 → ck_cP a := lt_s cs_73 cm_73
theorem cs_75 : ∀ a, a < 75 → ck_cP a := lt_s cs_74 cm_74
theorem cs_76 : ∀ a, a < 76 → ck_cP a := lt_s cs_75 cm_75
theorem cs_77 : ∀ a, a < 77 → ck_cP a := lt_s cs_76 cm_76
theorem cs_78 : ∀ a, a < 78 → ck_cP a := lt_s cs_77 cm_77
theorem cs_79 : ∀ a, a < 79 → ck_cP a := lt_s cs_78 cm_78
theorem cs_80 : ∀ a, a < 80 → ck_cP a := lt_s cs_79 cm_79
theorem cs_81 : ∀ a, a < 81 → ck_cP a := lt_s cs_80 cm_80
theorem cs_82 : ∀ a, a < 82 → ck_cP a := lt_s cs_81 cm_81
theorem cs_83 : ∀ a, a < 83 → ck_cP a := lt_s cs_82 cm_82
theorem cs_84 : ∀ a, a < 84 → ck_cP a := lt_s cs_83 cm_83
theorem cs_85 : ∀ a, a < 85 → ck_cP a := lt_s cs_84 cm_84
theorem cs_86 : ∀ a, a < 86 → ck_cP a := lt_s cs_85 cm_85
theorem cs_87 : ∀ a, a < 87 → ck_cP a := lt_s cs_86 cm_86
theorem cs_88 : ∀ a, a < 88 → ck_cP a := lt_s cs_87 cm_87
theorem cs_89 : ∀ a, a < 89 → ck_cP a := lt_s cs_88 cm_88
theorem cs_90 : ∀ a, a < 90 → ck_cP a := lt_s cs_89 cm_89
theorem cs_91 : ∀ a, a < 91 → ck_cP a := lt_s cs_90 cm_90
theorem cs_92 : ∀ a, a < 92 → ck_cP a := lt_s cs_91 cm_91
theorem cs_93 : ∀ a, a < 93 → ck_cP a := lt_s cs_92 cm_92
theorem cs_94 : ∀ a, a < 94 → ck_cP a := lt_s cs_93 cm_93
theorem cs_95 : ∀ a, a < 95 → ck_cP a := lt_s cs_94 cm_94
theorem cs_96 : ∀ a, a < 96 → ck_cP a := lt_s cs_95 cm_95
theorem cs_97 : ∀ a, a < 97 → ck_cP a := lt_s cs_96 cm_96
theorem cs_98 : ∀ a, a < 98 → ck_cP a := lt_s cs_97 cm_97
theorem cs_99 : ∀ a, a < 99 → ck_cP a := lt_s cs_98 cm_98
theorem cs_100 : ∀ a, a < 100 → ck_cP a := lt_s cs_99 cm_99
theorem cs_101 : ∀ a, a < 101 → ck_cP a := lt_s cs_100 cm_100
theorem cs_102 : ∀ a, a < 102 → ck_cP a := lt_s cs_101 cm_101
theorem cs_103 : ∀ a, a < 103 → ck_cP a := lt_s cs_102 cm_102
theorem cs_104 : ∀ a, a < 104 → ck_cP a := lt_s cs_103 cm_103
theorem cs_105 : ∀ a, a < 105 → ck_cP a := lt_s cs_104 cm_104
theorem cs_106 : ∀ a, a < 106 → ck_cP a := lt_s cs_105 cm_105
theorem cs_107 : ∀ a, a < 107 → ck_cP a := lt_s cs_106 cm_106
theorem cs_108 : ∀ a, a < 108 → ck_cP a := lt_s cs_107 cm_107
theorem cs_109 : ∀ a, a < 109 → ck_cP a := lt_s cs_108 cm_108
theorem cs_110 : ∀ a, a < 110 → ck_cP a := lt_s cs_109 cm_109
theorem cs_111 : ∀ a, a < 111 → ck_cP a := lt_s cs_110 cm_110
theorem cs_112 : ∀ a, a < 112 → ck_cP a := lt_s cs_111 cm_111
theorem cs_113 : ∀ a, a < 113 → ck_cP a := lt_s cs_112 cm_112
theorem cs_114 : ∀ a, a < 114 → ck_cP a := lt_s cs_113 cm_113
theorem cs_115 : ∀ a, a < 115 → ck_cP a := lt_s cs_114 cm_114
theorem cs_116 : ∀ a, a < 116 → ck_cP a := lt_s cs_115 cm_115
theorem cs_117 : ∀ a, a < 117 → ck_cP a := lt_s cs_116 cm_116
theorem cs_118 : ∀ a, a < 118 → ck_cP a := lt_s cs_117 cm_117
theorem cs_119 : ∀ a, a < 119 → ck_cP a := lt_s cs_118 cm_118
theorem cs_120 : ∀ a, a < 120 → ck_cP a := lt_s cs_119 cm_119
theorem cs_121 : ∀ a, a < 121 → ck_cP a := lt_s cs_120 cm_120
theorem cs_122 : ∀ a, a < 122 → ck_cP a := lt_s cs_121 cm_121
theorem cs_123 : ∀ a, a < 123 → ck_cP a := lt_s cs_122 cm_122
theorem cs_124 : ∀ a, a < 124 → ck_cP a := lt_s cs_123 cm_123
theorem cs_125 : ∀ a, a < 125 → ck_cP a := lt_s cs_124 cm_124
theorem cs_126 : ∀ a, a < 126 → ck_cP a := lt_s cs_125 cm_125
theorem cs_127 : ∀ a, a < 127 → ck_cP a := lt_s cs_126 cm_126
theorem cs_128 : ∀ a, a < 128 → ck_cP a := lt_s cs_127 cm_127
theorem cs_129 : ∀ a, a < 129 → ck_cP a := lt_s cs_128 cm_128
theorem ck_codes_ok : ck_codes := cs_129
set_option maxRecDepth 100000 in
theorem ta_500 : ((Bundle.ownAtoms "SheetNeeds" 145 (pg_exn 500) ck_names).all ck_wok) = true := by decide +kernel
theorem tf_500 : Bundle.fit (pg_exn 500) = true := by decide +kernel
set_option maxRecDepth 100000 in
theorem ta_501 : ((Bundle.ownAtoms "SheetNeeds" 79 (pg_exn 501) ck_names).all ck_wok) = true := by decide +kernel
theorem tf_501 : Bundle.fit (pg_exn 501) = true := by decide +kernel
set_option maxRecDepth 100000 in
theorem ta_502 : ((Bundle.ownAtoms "SheetNeeds" 91 (pg_exn 502) ck_names).all ck_wok) = true := by decide +kernel
theorem tf_502 : Bundle.fit (pg_exn 502) = true := by decide +kernel
set_option maxRecDepth 100000 in
theorem ta_503 : ((Bundle.ownAtoms "SheetNeeds" 54 (pg_exn 503) ck_names).all ck_wok) = true := by decide +kernel
theorem tf_503 : Bundle.fit (pg_exn 503) = true := by decide +kernel
theorem tn_fit : ∀ n ∈ ck_names, Bundle.fit n = true := by decide +kernel
theorem tw_38_12 : am_ok am_NM 38 12 (.new 50) 3 503 0 := ck_T.ok (is := 52) (ic := 54) (p1 := 416) (p2 := 53) (p3 := 417) (text := "there are sixty sources") tf_503 tn_fit (fun w hw => ck_wok.ok (List.all_eq_true.mp ta_503 w hw)) (by decide +kernel)
theorem tw_42_29 : am_ok am_NM 42 29 (.new 75) 3 501 0 := ck_T.ok (is := 77) (ic := 79) (p1 := 509) (p2 := 54) (p3 := 510) (text := "no such op or operand") tf_501 tn_fit (fun w hw => ck_wok.ok (List.all_eq_true.mp ta_501 w hw)) (by decide +kernel)
theorem tw_42_47 : am_ok am_NM 42 47 (.new 50) 3 503 0 := ck_T.ok (is := 80) (ic := 54) (p1 := 416) (p2 := 53) (p3 := 417) (text := "there are 150 cells") tf_503 tn_fit (fun w hw => ck_wok.ok (List.all_eq_true.mp ta_503 w hw)) (by decide +kernel)
theorem tw_47_15 : am_ok am_NM 47 15 (.new 87) 3 502 0 := ck_T.ok (is := 89) (ic := 91) (p1 := 539) (p2 := 55) (p3 := 540) (text := "no such source") tf_502 tn_fit (fun w hw => ck_wok.ok (List.all_eq_true.mp ta_502 w hw)) (by decide +kernel)
theorem tw_49_29 : am_ok am_NM 49 29 (.new 75) 3 501 0 := ck_T.ok (is := 104) (ic := 79) (p1 := 509) (p2 := 54) (p3 := 510) (text := "no such op, source or cell") tf_501 tn_fit (fun w hw => ck_wok.ok (List.all_eq_true.mp ta_501 w hw)) (by decide +kernel)
theorem tw_50_18 : am_ok am_NM 50 18 (.new 87) 3 502 0 := ck_T.ok (is := 219) (ic := 91) (p1 := 539) (p2 := 55) (p3 := 540) (text := "no such cell") tf_502 tn_fit (fun w hw => ck_wok.ok (List.all_eq_true.mp ta_502 w hw)) (by decide +kernel)
theorem tw_54_17 : am_ok am_NM 54 17 (.new 141) 3 500 0 := ck_T.ok (is := 143) (ic := 145) (p1 := 584) (p2 := 58) (p3 := 585) (text := "the cell is not good") tf_500 tn_fit (fun w hw => ck_wok.ok (List.all_eq_true.mp ta_500 w hw)) (by decide +kernel)
theorem tw_58_12 : am_ok am_NM 58 12 (.new 87) 3 502 0 := ck_T.ok (is := 149) (ic := 91) (p1 := 539) (p2 := 55) (p3 := 540) (text := "no such worked cell") tf_502 tn_fit (fun w hw => ck_wok.ok (List.all_eq_true.mp ta_502 w hw)) (by decide +kernel)
theorem tw_60_71 : am_ok am_NM 60 71 (.new 87) 3 502 0 := ck_T.ok (is := 160) (ic := 91) (p1 := 539) (p2 := 55) (p3 := 540) (text := "no such part of a formula") tf_502 tn_fit (fun w hw => ck_wok.ok (List.all_eq_true.mp ta_502 w hw)) (by decide +kernel)
theorem tw_62_8 : am_ok am_NM 62 8 (.new 50) 3 503 0 := ck_T.ok (is := 165) (ic := 54) (p1 := 416) (p2 := 53) (p3 := 417) (text := "there are four people") tf_503 tn_fit (fun w hw => ck_wok.ok (List.all_eq_true.mp ta_503 w hw)) (by decide +kernel)
theorem tw_65_29 : am_ok am_NM 65 29 (.new 87) 3 502 0 := ck_T.ok (is := 176) (ic := 91) (p1 := 539) (p2 := 55) (p3 := 540) (text := "the copy has no such cell") tf_502 tn_fit (fun w hw => ck_wok.ok (List.all_eq_true.mp ta_502 w hw)) (by decide +kernel)
theorem tw_65_59 : am_ok am_NM 65 59 (.new 75) 3 501 0 := ck_T.ok (is := 178) (ic := 79) (p1 := 509) (p2 := 54) (p3 := 510) (text := "no such op, source or cell of the copy") tf_501 tn_fit (fun w hw => ck_wok.ok (List.all_eq_true.mp ta_501 w hw)) (by decide +kernel)
theorem tw_66_12 : am_ok am_NM 66 12 (.new 87) 3 502 0 := ck_T.ok (is := 221) (ic := 91) (p1 := 539) (p2 := 55) (p3 := 540) (text := "no such person") tf_502 tn_fit (fun w hw => ck_wok.ok (List.all_eq_true.mp ta_502 w hw)) (by decide +kernel)
theorem tw_76_30 : am_ok am_NM 76 30 (.new 87) 3 502 0 := ck_T.ok (is := 205) (ic := 91) (p1 := 539) (p2 := 55) (p3 := 540) (text := "no such used source") tf_502 tn_fit (fun w hw => ck_wok.ok (List.all_eq_true.mp ta_502 w hw)) (by decide +kernel)
theorem tw_81_22 : am_ok am_NM 81 22 (.new 87) 3 502 0 := ck_T.ok (is := 210) (ic := 91) (p1 := 539) (p2 := 55) (p3 := 540) (text := "no such cell of the circle") tf_502 tn_fit (fun w hw => ck_wok.ok (List.all_eq_true.mp ta_502 w hw)) (by decide +kernel)
def al_P (k : Nat) : Prop := am_tabok k ∧ ∀ pc i len x y, pg_code k pc = some (i, len, x, y) → am_ok am_NM k pc i len x y
theorem tb_0 : am_tabok 0 := fun q hq => absurd (show q ∈ ([] : List (Nat × Nat × Nat × Nat × Nat)) from hq) List.not_mem_nil
theorem tq_0 : (pc_0.all (fun q => !ck_isT q.2.1 q.2.2.2.1)) = true := by decide +kernel
theorem al_0 : al_P 0 := ⟨tb_0, fun pc i len x y h => ck_lookup (P := fun pc v => am_ok am_NM 0 pc v.1 v.2.1 v.2.2.1 v.2.2.2) (ck_list2 ck_codes_ok (hs := ph_0) (by decide +kernel) ch_0 (fun q hq ht => absurd ht (by have := List.all_eq_true.mp tq_0 q hq; simpa using this))) h⟩
theorem tb_1 : am_tabok 1 := fun q hq => absurd (show q ∈ ([] : List (Nat × Nat × Nat × Nat × Nat)) from hq) List.not_mem_nil
theorem tq_1 : (pc_1.all (fun q => !ck_isT q.2.1 q.2.2.2.1)) = true := by decide +kernel
theorem al_1 : al_P 1 := ⟨tb_1, fun pc i len x y h => ck_lookup (P := fun pc v => am_ok am_NM 1 pc v.1 v.2.1 v.2.2.1 v.2.2.2) (ck_list2 ck_codes_ok (hs := ph_1) (by decide +kernel) ch_1 (fun q hq ht => absurd ht (by have := List.all_eq_true.mp tq_1 q hq; simpa using this))) h⟩
theorem tb_2 : am_tabok 2 := fun q hq => absurd (show q ∈ ([] : List (Nat × Nat × Nat × Nat × Nat)) from hq) List.not_mem_nil
theorem tq_2 : (pc_2.all (fun q => !ck_isT q.2.1 q.2.2.2.1)) = true := by decide +kernel
theorem al_2 : al_P 2 := ⟨tb_2, fun pc i len x y h => ck_lookup (P := fun pc v => am_ok am_NM 2 pc v.1 v.2.1 v.2.2.1 v.2.2.2) (ck_list2 ck_codes_ok (hs := ph_2) (by decide +kernel) ch_2 (fun q hq ht => absurd ht (by have := List.all_eq_true.mp tq_2 q hq; simpa using this))) h⟩
theorem tb_3 : am_tabok 3 := fun q hq => absurd (show q ∈ ([] : List (Nat × Nat × Nat × Nat × Nat)) from hq) List.not_mem_nil
theorem tq_3 : (pc_3.all (fun q => !ck_isT q.2.1 q.2.2.2.1)) = true := by decide +kernel
theorem al_3 : al_P 3 := ⟨tb_3, fun pc i len x y h => ck_lookup (P := fun pc v => am_ok am_NM 3 pc v.1 v.2.1 v.2.2.1 v.2.2.2) (ck_list2 ck_codes_ok (hs := ph_3) (by decide +kernel) ch_3 (fun q hq ht => absurd ht (by have := List.all_eq_true.mp tq_3 q hq; simpa using this))) h⟩
theorem tb_4 : am_tabok 4 := fun q hq => absurd (show q ∈ ([] : List (Nat × Nat × Nat × Nat × Nat)) from hq) List.not_mem_nil
theorem tq_4 : (pc_4.all (fun q => !ck_isT q.2.1 q.2.2.2.1)) = true := by decide +kernel
theorem al_4 : al_P 4 := ⟨tb_4, fun pc i len x y h => ck_lookup (P := fun pc v => am_ok am_NM 4 pc v.1 v.2.1 v.2.2.1 v.2.2.2) (ck_list2 ck_codes_ok (hs := ph_4) (by decide +kernel) ch_4 (fun q hq ht => absurd ht (by have := List.all_eq_true.mp tq_4 q hq; simpa using this))) h⟩
theorem tb_5 : am_tabok 5 := fun q hq => absurd (show q ∈ ([] : List (Nat × Nat × Nat × Nat × Nat)) from hq) List.not_mem_nil
theorem tq_5 : (pc_5.all (fun q => !ck_isT q.2.1 q.2.2.2.1)) = true := by decide +kernel
theorem al_5 : al_P 5 := ⟨tb_5, fun pc i len x y h => ck_lookup (P := fun pc v => am_ok am_NM 5 pc v.1 v.2.1 v.2.2.1 v.2.2.2) (ck_list2 ck_codes_ok (hs := ph_5) (by decide +kernel) ch_5 (fun q hq ht => absurd ht (by have := List.all_eq_true.mp tq_5 q hq; simpa using this))) h⟩
theorem tb_6 : am_tabok 6 := fun q hq => absurd (show q ∈ ([] : List (Nat × Nat × Nat × Nat × Nat)) from hq) List.not_mem_nil
theorem tq_6 : (pc_6.all (fun q => !ck_isT q.2.1 q.2.2.2.1)) = true := by decide +kernel
theorem al_6 : al_P 6 := ⟨tb_6, fun pc i len x y h => ck_lookup (P := fun pc v => am_ok am_NM 6 pc v.1 v.2.1 v.2.2.1 v.2.2.2) (ck_list2 ck_codes_ok (hs := ph_6) (by decide +kernel) ch_6 (fun q hq ht => absurd ht (by have := List.all_eq_true.mp tq_6 q hq; simpa using this))) h⟩
theorem tb_7 : am_tabok 7 := fun q hq => absurd (show q ∈ ([] : List (Nat × Nat × Nat × Nat × Nat)) from hq) List.not_mem_nil
theorem tq_7 : (pc_7.all (fun q => !ck_isT q.2.1 q.2.2.2.1)) = true := by decide +kernel
theorem al_7 : al_P 7 := ⟨tb_7, fun pc i len x y h => ck_lookup (P := fun pc v => am_ok am_NM 7 pc v.1 v.2.1 v.2.2.1 v.2.2.2) (ck_list2 ck_codes_ok (hs := ph_7) (by decide +kernel) ch_7 (fun q hq ht => absurd ht (by have := List.all_eq_true.mp tq_7 q hq; simpa using this))) h⟩
theorem tb_8 : am_tabok 8 := fun q hq => absurd (show q ∈ ([] : List (Nat × Nat × Nat × Nat × Nat)) from hq) List.not_mem_nil
theorem tq_8 : (pc_8.all (fun q => !ck_isT q.2.1 q.2.2.2.1)) = true := by decide +kernel
theorem al_8 : al_P 8 := ⟨tb_8, fun pc i len x y h => ck_lookup (P := fun pc v => am_ok am_NM 8 pc v.1 v.2.1 v.2.2.1 v.2.2.2) (ck_list2 ck_codes_ok (hs := ph_8) (by decide +kernel) ch_8 (fun q hq ht => absurd ht (by have := List.all_eq_true.mp tq_8 q hq; simpa using this))) h⟩
theorem tb_9 : am_tabok 9 := fun q hq => absurd (show q ∈ ([] : List (Nat × Nat × Nat × Nat × Nat)) from hq) List.not_mem_nil
theorem tq_9 : (pc_9.all (fun q => !ck_isT q.2.1 q.2.2.2.1)) = true := by decide +kernel
theorem al_9 : al_P 9 := ⟨tb_9, fun pc i len x y h => ck_lookup (P := fun pc v => am_ok am_NM 9 pc v.1 v.2.1 v.2.2.1 v.2.2.2) (ck_list2 ck_codes_ok (hs := ph_9) (by decide +kernel) ch_9 (fun q hq ht => absurd ht (by have := List.all_eq_true.mp tq_9 q hq; simpa using this))) h⟩
theorem tb_10 : am_tabok 10 := fun q hq => absurd (show q ∈ ([] : List (Nat × Nat × Nat × Nat × Nat)) from hq) List.not_mem_nil
theorem tq_10 : (pc_10.all (fun q => !ck_isT q.2.1 q.2.2.2.1)) = true := by decide +kernel
theorem al_10 : al_P 10 := ⟨tb_10, fun pc i len x y h => ck_lookup (P := fun pc v => am_ok am_NM 10 pc v.1 v.2.1 v.2.2.1 v.2.2.2) (ck_list2 ck_codes_ok (hs := ph_10) (by decide +kernel) ch_10 (fun q hq ht => absurd ht (by have := List.all_eq_true.mp tq_10 q hq; simpa using this))) h⟩
theorem tb_11 : am_tabok 11 := fun q hq => absurd (show q ∈ ([] : List (Nat × Nat × Nat × Nat × Nat)) from hq) List.not_mem_nil
theorem tq_11 : (pc_11.all (fun q => !ck_isT q.2.1 q.2.2.2.1)) = true := by decide +kernel
theorem al_11 : al_P 11 := ⟨tb_11, fun pc i len x y h => ck_lookup (P := fun pc v => am_ok am_NM 11 pc v.1 v.2.1 v.2.2.1 v.2.2.2) (ck_list2 ck_codes_ok (hs := ph_11) (by decide +kernel) ch_11 (fun q hq ht => absurd ht (by have := List.all_eq_true.mp tq_11 q hq; simpa using this))) h⟩
theorem tb_12 : am_tabok 12 := fun q hq => absurd (show q ∈ ([] : List (Nat × Nat × Nat × Nat × Nat)) from hq) List.not_mem_nil
theorem tq_12 : (pc_12.all (fun q => !ck_isT q.2.1 q.2.2.2.1)) = true := by decide +kernel
theorem al_12 : al_P 12 := ⟨tb_12, fun pc i len x y h => ck_lookup (P := fun pc v => am_ok am_NM 12 pc v.1 v.2.1 v.2.2.1 v.2.2.2) (ck_list2 ck_codes_ok (hs := ph_12) (by decide +kernel) ch_12 (fun q hq ht => absurd ht (by have := List.all_eq_true.mp tq_12 q hq; simpa using this))) h⟩
theorem tb_13 : am_tabok 13 := fun q hq => absurd (show q ∈ ([] : List (Nat × Nat × Nat × Nat × Nat)) from hq) List.not_mem_nil
theorem tq_13 : (pc_13.all (fun q => !ck_isT q.2.1 q.2.2.2.1)) = true := by decide +kernel
theorem al_13 : al_P 13 := ⟨tb_13, fun pc i len x y h => ck_lookup (P := fun pc v => am_ok am_NM 13 pc v.1 v.2.1 v.2.2.1 v.2.2.2) (ck_list2 ck_codes_ok (hs := ph_13) (by decide +kernel) ch_13 (fun q hq ht => absurd ht (by have := List.all_eq_true.mp tq_13 q hq; simpa using this))) h⟩
theorem tb_14 : am_tabok 14 := fun q hq => absurd (show q ∈ ([] : List (Nat × Nat × Nat × Nat × Nat)) from hq) List.not_mem_nil
theorem tq_14 : (pc_14.all (fun q => !ck_isT q.2.1 q.2.2.2.1)) = true := by decide +kernel
theorem al_14 : al_P 14 := ⟨tb_14, fun pc i len x y h => ck_lookup (P := fun pc v => am_ok am_NM 14 pc v.1 v.2.1 v.2.2.1 v.2.2.2) (ck_list2 ck_codes_ok (hs := ph_14) (by decide +kernel) ch_14 (fun q hq ht => absurd ht (by have := List.all_eq_true.mp tq_14 q hq; simpa using this))) h⟩
theorem tb_15 : am_tabok 15 := fun q hq => absurd (show q ∈ ([] : List (Nat × Nat × Nat × Nat × Nat)) from hq) List.not_mem_nil
theorem tq_15 : (pc_15.all (fun q => !ck_isT q.2.1 q.2.2.2.1)) = true := by decide +kernel
theorem al_15 : al_P 15 := ⟨tb_15, fun pc i len x y h => ck_lookup (P := fun pc v => am_ok am_NM 15 pc v.1 v.2.1 v.2.2.1 v.2.2.2) (ck_list2 ck_codes_ok (hs := ph_15) (by decide +kernel) ch_15 (fun q hq ht => absurd ht (by have := List.all_eq_true.mp tq_15 q hq; simpa using this))) h⟩
theorem tb_16 : am_tabok 16 := fun q hq => absurd (show q ∈ ([] : List (Nat × Nat × Nat × Nat × Nat)) from hq) List.not_mem_nil
theorem tq_16 : (pc_16.all (fun q => !ck_isT q.2.1 q.2.2.2.1)) = true := by decide +kernel
theorem al_16 : al_P 16 := ⟨tb_16, fun pc i len x y h => ck_lookup (P := fun pc v => am_ok am_NM 16 pc v.1 v.2.1 v.2.2.1 v.2.2.2) (ck_list2 ck_codes_ok (hs := ph_16) (by decide +kernel) ch_16 (fun q hq ht => absurd ht (by have := List.all_eq_true.mp tq_16 q hq; simpa using this))) h⟩
theorem tb_17 : am_tabok 17 := fun q hq => absurd (show q ∈ ([] : List (Nat × Nat × Nat × Nat × Nat)) from hq) List.not_mem_nil
theorem tq_17 : (pc_17.all (fun q => !ck_isT q.2.1 q.2.2.2.1)) = true := by decide +kernel
theorem al_17 : al_P 17 := ⟨tb_17, fun pc i len x y h => ck_lookup (P := fun pc v => am_ok am_NM 17 pc v.1 v.2.1 v.2.2.1 v.2.2.2) (ck_list2 ck_codes_ok (hs := ph_17) (by decide +kernel) ch_17 (fun q hq ht => absurd ht (by have := List.all_eq_true.mp tq_17 q hq; simpa using this))) h⟩
theorem tb_18 : am_tabok 18 := fun q hq => absurd (show q ∈ ([] : List (Nat × Nat × Nat × Nat × Nat)) from hq) List.not_mem_nil
theorem tq_18 : (pc_18.all (fun q => !ck_isT q.2.1 q.2.2.2.1)) = true := by decide +kernel
theorem al_18 : al_P 18 := ⟨tb_18, fun pc i len x y h => ck_lookup (P := fun pc v => am_ok am_NM 18 pc v.1 v.2.1 v.2.2.1 v.2.2.2) (ck_list2 ck_codes_ok (hs := ph_18) (by decide +kernel) ch_18 (fun q hq ht => absurd ht (by have := List.all_eq_true.mp tq_18 q hq; simpa using this))) h⟩
theorem tb_19 : am_tabok 19 := fun q hq => absurd (show q ∈ ([] : List (Nat × Nat × Nat × Nat × Nat)) from hq) List.not_mem_nil
theorem tq_19 : (pc_19.all (fun q => !ck_isT q.2.1 q.2.2.2.1)) = true := by decide +kernel
theorem al_19 : al_P 19 := ⟨tb_19, fun pc i len x y h => ck_lookup (P := fun pc v => am_ok am_NM 19 pc v.1 v.2.1 v.2.2.1 v.2.2.2) (ck_list2 ck_codes_ok (hs := ph_19) (by decide +kernel) ch_19 (fun q hq ht => absurd ht (by have := List.all_eq_true.mp tq_19 q hq; simpa using this))) h⟩
theorem tb_20 : am_tabok 20 := fun q hq => absurd (show q ∈ ([] : List (Nat × Nat × Nat × Nat × Nat)) from hq) List.not_mem_nil
theorem tq_20 : (pc_20.all (fun q => !ck_isT q.2.1 q.2.2.2.1)) = true := by decide +kernel
theorem al_20 : al_P 20 := ⟨tb_20, fun pc i len x y h => ck_lookup (P := fun pc v => am_ok am_NM 20 pc v.1 v.2.1 v.2.2.1 v.2.2.2) (ck_list2 ck_codes_ok (hs := ph_20) (by decide +kernel) ch_20 (fun q hq ht => absurd ht (by have := List.all_eq_true.mp tq_20 q hq; simpa using this))) h⟩
theorem tb_21 : am_tabok 21 := fun q hq => absurd (show q ∈ ([] : List (Nat × Nat × Nat × Nat × Nat)) from hq) List.not_mem_nil
theorem tq_21 : (pc_21.all (fun q => !ck_isT q.2.1 q.2.2.2.1)) = true := by decide +kernel
theorem al_21 : al_P 21 := ⟨tb_21, fun pc i len x y h => ck_lookup (P := fun pc v => am_ok am_NM 21 pc v.1 v.2.1 v.2.2.1 v.2.2.2) (ck_list2 ck_codes_ok (hs := ph_21) (by decide +kernel) ch_21 (fun q hq ht => absurd ht (by have := List.all_eq_true.mp tq_21 q hq; simpa using this))) h⟩
theorem tb_22 : am_tabok 22 := fun q hq => absurd (show q ∈ ([] : List (Nat × Nat × Nat × Nat × Nat)) from hq) List.not_mem_nil
theorem tq_22 : (pc_22.all (fun q => !ck_isT q.2.1 q.2.2.2.1)) = true := by decide +kernel
theorem al_22 : al_P 22 := ⟨tb_22, fun pc i len x y h => ck_lookup (P := fun pc v => am_ok am_NM 22 pc v.1 v.2.1 v.2.2.1 v.2.2.2) (ck_list2 ck_codes_ok (hs := ph_22) (by decide +kernel) ch_22 (fun q hq ht => absurd ht (by have := List.all_eq_true.mp tq_22 q hq; simpa using this))) h⟩
theorem tb_23 : am_tabok 23 := fun q hq => absurd (show q ∈ ([] : List (Nat × Nat × Nat × Nat × Nat)) from hq) List.not_mem_nil
theorem tq_23 : (pc_23.all (fun q => !ck_isT q.2.1 q.2.2.2.1)) = true := by decide +kernel
theorem al_23 : al_P 23 := ⟨tb_23, fun pc i len x y h => ck_lookup (P := fun pc v => am_ok am_NM 23 pc v.1 v.2.1 v.2.2.1 v.2.2.2) (ck_list2 ck_codes_ok (hs := ph_23) (by decide +kernel) ch_23 (fun q hq ht => absurd ht (by have := List.all_eq_true.mp tq_23 q hq; simpa using this))) h⟩
theorem tb_24 : am_tabok 24 := fun q hq => absurd (show q ∈ ([] : List (Nat × Nat × Nat × Nat × Nat)) from hq) List.not_mem_nil
theorem tq_24 : (pc_24.all (fun q => !ck_isT q.2.1 q.2.2.2.1)) = true := by decide +kernel
theorem al_24 : al_P 24 := ⟨tb_24, fun pc i len x y h => ck_lookup (P := fun pc v => am_ok am_NM 24 pc v.1 v.2.1 v.2.2.1 v.2.2.2) (ck_list2 ck_codes_ok (hs := ph_24) (by decide +kernel) ch_24 (fun q hq ht => absurd ht (by have := List.all_eq_true.mp tq_24 q hq; simpa using this))) h⟩
theorem tb_25 : am_tabok 25 := fun q hq => absurd (show q ∈ ([] : List (Nat × Nat × Nat × Nat × Nat)) from hq) List.not_mem_nil
theorem tq_25 : (pc_25.all (fun q => !ck_isT q.2.1 q.2.2.2.1)) = true := by decide +kernel
theorem al_25 : al_P 25 := ⟨tb_25, fun pc i len x y h => ck_lookup (P := fun pc v => am_ok am_NM 25 pc v.1 v.2.1 v.2.2.1 v.2.2.2) (ck_list2 ck_codes_ok (hs := ph_25) (by decide +kernel) ch_25 (fun q hq ht => absurd ht (by have := List.all_eq_true.mp tq_25 q hq; simpa using this))) h⟩
theorem tb_26 : am_tabok 26 := fun q hq => absurd (show q ∈ ([] : List (Nat × Nat × Nat × Nat × Nat)) from hq) List.not_mem_nil
theorem tq_26 : (pc_26.all (fun q => !ck_isT q.2.1 q.2.2.2.1)) = true := by decide +kernel
theorem al_26 : al_P 26 := ⟨tb_26, fun pc i len x y h => ck_lookup (P := fun pc v => am_ok am_NM 26 pc v.1 v.2.1 v.2.2.1 v.2.2.2) (ck_list2 ck_codes_ok (hs := ph_26) (by decide +kernel) ch_26 (fun q hq ht => absurd ht (by have := List.all_eq_true.mp tq_26 q hq; simpa using this))) h⟩
theorem tb_27 : am_tabok 27 := fun q hq => absurd (show q ∈ ([] : List (Nat × Nat × Nat × Nat × Nat)) from hq) List.not_mem_nil
theorem tq_27 : (pc_27.all (fun q => !ck_isT q.2.1 q.2.2.2.1)) = true := by decide +kernel
theorem al_27 : al_P 27 := ⟨tb_27, fun pc i len x y h => ck_lookup (P := fun pc v => am_ok am_NM 27 pc v.1 v.2.1 v.2.2.1 v.2.2.2) (ck_list2 ck_codes_ok (hs := ph_27) (by decide +kernel) ch_27 (fun q hq ht => absurd ht (by have := List.all_eq_true.mp tq_27 q hq; simpa using this))) h⟩
theorem tb_28 : am_tabok 28 := fun q hq => absurd (show q ∈ ([] : List (Nat × Nat × Nat × Nat × Nat)) from hq) List.not_mem_nil
theorem tq_28 : (pc_28.all (fun q => !ck_isT q.2.1 q.2.2.2.1)) = true := by decide +kernel
theorem al_28 : al_P 28 := ⟨tb_28, fun pc i len x y h => ck_lookup (P := fun pc v => am_ok am_NM 28 pc v.1 v.2.1 v.2.2.1 v.2.2.2) (ck_list2 ck_codes_ok (hs := ph_28) (by decide +kernel) ch_28 (fun q hq ht => absurd ht (by have := List.all_eq_true.mp tq_28 q hq; simpa using this))) h⟩
theorem tb_29 : am_tabok 29 := fun q hq => absurd (show q ∈ ([] : List (Nat × Nat × Nat × Nat × Nat)) from hq) List.not_mem_nil
theorem tq_29 : (pc_29.all (fun q => !ck_isT q.2.1 q.2.2.2.1)) = true := by decide +kernel
theorem al_29 : al_P 29 := ⟨tb_29, fun pc i len x y h => ck_lookup (P := fun pc v => am_ok am_NM 29 pc v.1 v.2.1 v.2.2.1 v.2.2.2) (ck_list2 ck_codes_ok (hs := ph_29) (by decide +kernel) ch_29 (fun q hq ht => absurd ht (by have := List.all_eq_true.mp tq_29 q hq; simpa using this))) h⟩
theorem tb_30 : am_tabok 30 := fun q hq => absurd (show q ∈ ([] : List (Nat × Nat × Nat × Nat × Nat)) from hq) List.not_mem_nil
theorem tq_30 : (pc_30.all (fun q => !ck_isT q.2.1 q.2.2.2.1)) = true := by decide +kernel
theorem al_30 : al_P 30 := ⟨tb_30, fun pc i len x y h => ck_lookup (P := fun pc v => am_ok am_NM 30 pc v.1 v.2.1 v.2.2.1 v.2.2.2) (ck_list2 ck_codes_ok (hs := ph_30) (by decide +kernel) ch_30 (fun q hq ht => absurd ht (by have := List.all_eq_true.mp tq_30 q hq; simpa using this))) h⟩
theorem tb_31 : am_tabok 31 := fun q hq => absurd (show q ∈ ([] : List (Nat × Nat × Nat × Nat × Nat)) from hq) List.not_mem_nil
theorem tq_31 : (pc_31.all (fun q => !ck_isT q.2.1 q.2.2.2.1)) = true := by decide +kernel
theorem al_31 : al_P 31 := ⟨tb_31, fun pc i len x y h => ck_lookup (P := fun pc v => am_ok am_NM 31 pc v.1 v.2.1 v.2.2.1 v.2.2.2) (ck_list2 ck_codes_ok (hs := ph_31) (by decide +kernel) ch_31 (fun q hq ht => absurd ht (by have := List.all_eq_true.mp tq_31 q hq; simpa using this))) h⟩
theorem tb_32 : am_tabok 32 := fun q hq => absurd (show q ∈ ([] : List (Nat × Nat × Nat × Nat × Nat)) from hq) List.not_mem_nil
theorem tq_32 : (pc_32.all (fun q => !ck_isT q.2.1 q.2.2.2.1)) = true := by decide +kernel
theorem al_32 : al_P 32 := ⟨tb_32, fun pc i len x y h => ck_lookup (P := fun pc v => am_ok am_NM 32 pc v.1 v.2.1 v.2.2.1 v.2.2.2) (ck_list2 ck_codes_ok (hs := ph_32) (by decide +kernel) ch_32 (fun q hq ht => absurd ht (by have := List.all_eq_true.mp tq_32 q hq; simpa using this))) h⟩
theorem tb_33 : am_tabok 33 := fun q hq => absurd (show q ∈ ([] : List (Nat × Nat × Nat × Nat × Nat)) from hq) List.not_mem_nil
theorem tq_33 : (pc_33.all (fun q => !ck_isT q.2.1 q.2.2.2.1)) = true := by decide +kernel
theorem al_33 : al_P 33 := ⟨tb_33, fun pc i len x y h => ck_lookup (P := fun pc v => am_ok am_NM 33 pc v.1 v.2.1 v.2.2.1 v.2.2.2) (ck_list2 ck_codes_ok (hs := ph_33) (by decide +kernel) ch_33 (fun q hq ht => absurd ht (by have := List.all_eq_true.mp tq_33 q hq; simpa using this))) h⟩
theorem tb_34 : am_tabok 34 := fun q hq => absurd (show q ∈ ([] : List (Nat × Nat × Nat × Nat × Nat)) from hq) List.not_mem_nil
theorem tq_34 : (pc_34.all (fun q => !ck_isT q.2.1 q.2.2.2.1)) = true := by decide +kernel
theorem al_34 : al_P 34 := ⟨tb_34, fun pc i len x y h => ck_lookup (P := fun pc v => am_ok am_NM 34 pc v.1 v.2.1 v.2.2.1 v.2.2.2) (ck_list2 ck_codes_ok (hs := ph_34) (by decide +kernel) ch_34 (fun q hq ht => absurd ht (by have := List.all_eq_true.mp tq_34 q hq; simpa using this))) h⟩
theorem tb_35 : am_tabok 35 := fun q hq => absurd (show q ∈ ([] : List (Nat × Nat × Nat × Nat × Nat)) from hq) List.not_mem_nil
theorem tq_35 : (pc_35.all (fun q => !ck_isT q.2.1 q.2.2.2.1)) = true := by decide +kernel
theorem al_35 : al_P 35 := ⟨tb_35, fun pc i len x y h => ck_lookup (P := fun pc v => am_ok am_NM 35 pc v.1 v.2.1 v.2.2.1 v.2.2.2) (ck_list2 ck_codes_ok (hs := ph_35) (by decide +kernel) ch_35 (fun q hq ht => absurd ht (by have := List.all_eq_true.mp tq_35 q hq; simpa using this))) h⟩
theorem tb_36 : am_tabok 36 := fun q hq => absurd (show q ∈ ([] : List (Nat × Nat × Nat × Nat × Nat)) from hq) List.not_mem_nil
theorem tq_36 : (pc_36.all (fun q => !ck_isT q.2.1 q.2.2.2.1)) = true := by decide +kernel
theorem al_36 : al_P 36 := ⟨tb_36, fun pc i len x y h => ck_lookup (P := fun pc v => am_ok am_NM 36 pc v.1 v.2.1 v.2.2.1 v.2.2.2) (ck_list2 ck_codes_ok (hs := ph_36) (by decide +kernel) ch_36 (fun q hq ht => absurd ht (by have := List.all_eq_true.mp tq_36 q hq; simpa using this))) h⟩
theorem tb_37 : am_tabok 37 := by unfold am_tabok; decide +kernel
theorem tq_37 : (pc_37.all (fun q => !ck_isT q.2.1 q.2.2.2.1)) = true := by decide +kernel
theorem al_37 : al_P 37 := ⟨tb_37, fun pc i len x y h => ck_lookup (P := fun pc v => am_ok am_NM 37 pc v.1 v.2.1 v.2.2.1 v.2.2.2) (ck_list2 ck_codes_ok (hs := ph_37) (by decide +kernel) ch_37 (fun q hq ht => absurd ht (by have := List.all_eq_true.mp tq_37 q hq; simpa using this))) h⟩
theorem tb_38 : am_tabok 38 := fun q hq => absurd (show q ∈ ([] : List (Nat × Nat × Nat × Nat × Nat)) from hq) List.not_mem_nil
theorem th_38 : pc_38.filter (fun q => ck_isT q.2.1 q.2.2.2.1) = [(12, .new 50, 3, 503, 0)] := by decide +kernel
theorem al_38 : al_P 38 := ⟨tb_38, fun pc i len x y h => ck_lookup (P := fun pc v => am_ok am_NM 38 pc v.1 v.2.1 v.2.2.1 v.2.2.2) (ck_list2 ck_codes_ok (hs := ph_38) (by decide +kernel) ch_38 (fun q hq ht => by
    have h1 : q ∈ pc_38.filter (fun q => ck_isT q.2.1 q.2.2.2.1) := List.mem_filter.mpr ⟨hq, ht⟩
    rw [th_38] at h1
    rcases List.mem_cons.mp h1 with rfl | h1
    · exact tw_38_12
    cases h1)) h⟩
theorem tb_39 : am_tabok 39 := fun q hq => absurd (show q ∈ ([] : List (Nat × Nat × Nat × Nat × Nat)) from hq) List.not_mem_nil
theorem tq_39 : (pc_39.all (fun q => !ck_isT q.2.1 q.2.2.2.1)) = true := by decide +kernel
theorem al_39 : al_P 39 := ⟨tb_39, fun pc i len x y h => ck_lookup (P := fun pc v => am_ok am_NM 39 pc v.1 v.2.1 v.2.2.1 v.2.2.2) (ck_list2 ck_codes_ok (hs := ph_39) (by decide +kernel) ch_39 (fun q hq ht => absurd ht (by have := List.all_eq_true.mp tq_39 q hq; simpa using this))) h⟩
theorem tb_40 : am_tabok 40 := fun q hq => absurd (show q ∈ ([] : List (Nat × Nat × Nat × Nat × Nat)) from hq) List.not_mem_nil
theorem tq_40 : (pc_40.all (fun q => !ck_isT q.2.1 q.2.2.2.1)) = true := by decide +kernel
theorem al_40 : al_P 40 := ⟨tb_40, fun pc i len x y h => ck_lookup (P := fun pc v => am_ok am_NM 40 pc v.1 v.2.1 v.2.2.1 v.2.2.2) (ck_list2 ck_codes_ok (hs := ph_40) (by decide +kernel) ch_40 (fun q hq ht => absurd ht (by have := List.all_eq_true.mp tq_40 q hq; simpa using this))) h⟩
theorem tb_41 : am_tabok 41 := by unfold am_tabok; decide +kernel
theorem tq_41 : (pc_41.all (fun q => !ck_isT q.2.1 q.2.2.2.1)) = true := by decide +kernel
theorem al_41 : al_P 41 := ⟨tb_41, fun pc i len x y h => ck_lookup (P := fun pc v => am_ok am_NM 41 pc v.1 v.2.1 v.2.2.1 v.2.2.2) (ck_list2 ck_codes_ok (hs := ph_41) (by decide +kernel) ch_41 (fun q hq ht => absurd ht (by have := List.all_eq_true.mp tq_41 q hq; simpa using this))) h⟩
theorem tb_42 : am_tabok 42 := fun q hq => absurd (show q ∈ ([] : List (Nat × Nat × Nat × Nat × Nat)) from hq) List.not_mem_nil
theorem th_42 : pc_42.filter (fun q => ck_isT q.2.1 q.2.2.2.1) = [(29, .new 75, 3, 501, 0), (47, .new 50, 3, 503, 0)] := by decide +kernel
theorem al_42 : al_P 42 := ⟨tb_42, fun pc i len x y h => ck_lookup (P := fun pc v => am_ok am_NM 42 pc v.1 v.2.1 v.2.2.1 v.2.2.2) (ck_list2 ck_codes_ok (hs := ph_42) (by decide +kernel) ch_42 (fun q hq ht => by
    have h1 : q ∈ pc_42.filter (fun q => ck_isT q.2.1 q.2.2.2.1) := List.mem_filter.mpr ⟨hq, ht⟩
    rw [th_42] at h1
    rcases List.mem_cons.mp h1 with rfl | h1
    · exact tw_42_29
    rcases List.mem_cons.mp h1 with rfl | h1
    · exact tw_42_47
    cases h1)) h⟩
theorem tb_43 : am_tabok 43 := fun q hq => absurd (show q ∈ ([] : List (Nat × Nat × Nat × Nat × Nat)) from hq) List.not_mem_nil
theorem tq_43 : (pc_43.all (fun q => !ck_isT q.2.1 q.2.2.2.1)) = true := by decide +kernel
theorem al_43 : al_P 43 := ⟨tb_43, fun pc i len x y h => ck_lookup (P := fun pc v => am_ok am_NM 43 pc v.1 v.2.1 v.2.2.1 v.2.2.2) (ck_list2 ck_codes_ok (hs := ph_43) (by decide +kernel) ch_43 (fun q hq ht => absurd ht (by have := List.all_eq_true.mp tq_43 q hq; simpa using this))) h⟩
theorem tb_44 : am_tabok 44 := fun q hq => absurd (show q ∈ ([] : List (Nat × Nat × Nat × Nat × Nat)) from hq) List.not_mem_nil
theorem tq_44 : (pc_44.all (fun q => !ck_isT q.2.1 q.2.2.2.1)) = true := by decide +kernel
theorem al_44 : al_P 44 := ⟨tb_44, fun pc i len x y h => ck_lookup (P := fun pc v => am_ok am_NM 44 pc v.1 v.2.1 v.2.2.1 v.2.2.2) (ck_list2 ck_codes_ok (hs := ph_44) (by decide +kernel) ch_44 (fun q hq ht => absurd ht (by have := List.all_eq_true.mp tq_44 q hq; simpa using this))) h⟩
theorem tb_45 : am_tabok 45 := fun q hq => absurd (show q ∈ ([] : List (Nat × Nat × Nat × Nat × Nat)) from hq) List.not_mem_nil
theorem tq_45 : (pc_45.all (fun q => !ck_isT q.2.1 q.2.2.2.1)) = true := by decide +kernel
theorem al_45 : al_P 45 := ⟨tb_45, fun pc i len x y h => ck_lookup (P := fun pc v => am_ok am_NM 45 pc v.1 v.2.1 v.2.2.1 v.2.2.2) (ck_list2 ck_codes_ok (hs := ph_45) (by decide +kernel) ch_45 (fun q hq ht => absurd ht (by have := List.all_eq_true.mp tq_45 q hq; simpa using this))) h⟩
theorem tb_46 : am_tabok 46 := by unfold am_tabok; decide +kernel
theorem tq_46 : (pc_46.all (fun q => !ck_isT q.2.1 q.2.2.2.1)) = true := by decide +kernel
theorem al_46 : al_P 46 := ⟨tb_46, fun pc i len x y h => ck_lookup (P := fun pc v => am_ok am_NM 46 pc v.1 v.2.1 v.2.2.1 v.2.2.2) (ck_list2 ck_codes_ok (hs := ph_46) (by decide +kernel) ch_46 (fun q hq ht => absurd ht (by have := List.all_eq_true.mp tq_46 q hq; simpa using this))) h⟩
theorem tb_47 : am_tabok 47 := fun q hq => absurd (show q ∈ ([] : List (Nat × Nat × Nat × Nat × Nat)) from hq) List.not_mem_nil
theorem th_47 : pc_47.filter (fun q => ck_isT q.2.1 q.2.2.2.1) = [(15, .new 87, 3, 502, 0)] := by decide +kernel
theorem al_47 : al_P 47 := ⟨tb_47, fun pc i len x y h => ck_lookup (P := fun pc v => am_ok am_NM 47 pc v.1 v.2.1 v.2.2.1 v.2.2.2) (ck_list2 ck_codes_ok (hs := ph_47) (by decide +kernel) ch_47 (fun q hq ht => by
    have h1 : q ∈ pc_47.filter (fun q => ck_isT q.2.1 q.2.2.2.1) := List.mem_filter.mpr ⟨hq, ht⟩
    rw [th_47] at h1
    rcases List.mem_cons.mp h1 with rfl | h1
    · exact tw_47_15
    cases h1)) h⟩
theorem tb_48 : am_tabok 48 := by unfold am_tabok; decide +kernel
theorem tq_48 : (pc_48.all (fun q => !ck_isT q.2.1 q.2.2.2.1)) = true := by decide +kernel
theorem al_48 : al_P 48 := ⟨tb_48, fun pc i len x y h => ck_lookup (P := fun pc v => am_ok am_NM 48 pc v.1 v.2.1 v.2.2.1 v.2.2.2) (ck_list2 ck_codes_ok (hs := ph_48) (by decide +kernel) ch_48 (fun q hq ht => absurd ht (by have := List.all_eq_true.mp tq_48 q hq; simpa using this))) h⟩
theorem tb_49 : am_tabok 49 := fun q hq => absurd (show q ∈ ([] : List (Nat × Nat × Nat × Nat × Nat)) from hq) List.not_mem_nil
theorem th_49 : pc_49.filter (fun q => ck_isT q.2.1 q.2.2.2.1) = [(29, .new 75, 3, 501, 0)] := by decide +kernel
theorem al_49 : al_P 49 := ⟨tb_49, fun pc i len x y h => ck_lookup (P := fun pc v => am_ok am_NM 49 pc v.1 v.2.1 v.2.2.1 v.2.2.2) (ck_list2 ck_codes_ok (hs := ph_49) (by decide +kernel) ch_49 (fun q hq ht => by
    have h1 : q ∈ pc_49.filter (fun q => ck_isT q.2.1 q.2.2.2.1) := List.mem_filter.mpr ⟨hq, ht⟩
    rw [th_49] at h1
    rcases List.mem_cons.mp h1 with rfl | h1
    · exact tw_49_29
    cases h1)) h⟩
theorem tb_50 : am_tabok 50 := fun q hq => absurd (show q ∈ ([] : List (Nat × Nat × Nat × Nat × Nat)) from hq) List.not_mem_nil
theorem th_50 : pc_50.filter (fun q => ck_isT q.2.1 q.2.2.2.1) = [(18, .new 87, 3, 502, 0)] := by decide +kernel
theorem al_50 : al_P 50 := ⟨tb_50, fun pc i len x y h => ck_lookup (P := fun pc v => am_ok am_NM 50 pc v.1 v.2.1 v.2.2.1 v.2.2.2) (ck_list2 ck_codes_ok (hs := ph_50) (by decide +kernel) ch_50 (fun q hq ht => by
    have h1 : q ∈ pc_50.filter (fun q => ck_isT q.2.1 q.2.2.2.1) := List.mem_filter.mpr ⟨hq, ht⟩
    rw [th_50] at h1
    rcases List.mem_cons.mp h1 with rfl | h1
    · exact tw_50_18
    cases h1)) h⟩
theorem tb_51 : am_tabok 51 := by unfold am_tabok; decide +kernel
theorem tq_51 : (pc_51.all (fun q => !ck_isT q.2.1 q.2.2.2.1)) = true := by decide +kernel
theorem al_51 : al_P 51 := ⟨tb_51, fun pc i len x y h => ck_lookup (P := fun pc v => am_ok am_NM 51 pc v.1 v.2.1 v.2.2.1 v.2.2.2) (ck_list2 ck_codes_ok (hs := ph_51) (by decide +kernel) ch_51 (fun q hq ht => absurd ht (by have := List.all_eq_true.mp tq_51 q hq; simpa using this))) h⟩
theorem tb_52 : am_tabok 52 := fun q hq => absurd (show q ∈ ([] : List (Nat × Nat × Nat × Nat × Nat)) from hq) List.not_mem_nil
theorem tq_52 : (pc_52.all (fun q => !ck_isT q.2.1 q.2.2.2.1)) = true := by decide +kernel
theorem al_52 : al_P 52 := ⟨tb_52, fun pc i len x y h => ck_lookup (P := fun pc v => am_ok am_NM 52 pc v.1 v.2.1 v.2.2.1 v.2.2.2) (ck_list2 ck_codes_ok (hs := ph_52) (by decide +kernel) ch_52 (fun q hq ht => absurd ht (by have := List.all_eq_true.mp tq_52 q hq; simpa using this))) h⟩
theorem tb_53 : am_tabok 53 := by unfold am_tabok; decide +kernel
theorem tq_53 : (pc_53.all (fun q => !ck_isT q.2.1 q.2.2.2.1)) = true := by decide +kernel
theorem al_53 : al_P 53 := ⟨tb_53, fun pc i len x y h => ck_lookup (P := fun pc v => am_ok am_NM 53 pc v.1 v.2.1 v.2.2.1 v.2.2.2) (ck_list2 ck_codes_ok (hs := ph_53) (by decide +kernel) ch_53 (fun q hq ht => absurd ht (by have := List.all_eq_true.mp tq_53 q hq; simpa using this))) h⟩
theorem tb_54 : am_tabok 54 := fun q hq => absurd (show q ∈ ([] : List (Nat × Nat × Nat × Nat × Nat)) from hq) List.not_mem_nil
theorem th_54 : pc_54.filter (fun q => ck_isT q.2.1 q.2.2.2.1) = [(17, .new 141, 3, 500, 0)] := by decide +kernel
theorem al_54 : al_P 54 := ⟨tb_54, fun pc i len x y h => ck_lookup (P := fun pc v => am_ok am_NM 54 pc v.1 v.2.1 v.2.2.1 v.2.2.2) (ck_list2 ck_codes_ok (hs := ph_54) (by decide +kernel) ch_54 (fun q hq ht => by
    have h1 : q ∈ pc_54.filter (fun q => ck_isT q.2.1 q.2.2.2.1) := List.mem_filter.mpr ⟨hq, ht⟩
    rw [th_54] at h1
    rcases List.mem_cons.mp h1 with rfl | h1
    · exact tw_54_17
    cases h1)) h⟩
theorem tb_55 : am_tabok 55 := by unfold am_tabok; decide +kernel
theorem tq_55 : (pc_55.all (fun q => !ck_isT q.2.1 q.2.2.2.1)) = true := by decide +kernel
theorem al_55 : al_P 55 := ⟨tb_55, fun pc i len x y h => ck_lookup (P := fun pc v => am_ok am_NM 55 pc v.1 v.2.1 v.2.2.1 v.2.2.2) (ck_list2 ck_codes_ok (hs := ph_55) (by decide +kernel) ch_55 (fun q hq ht => absurd ht (by have := List.all_eq_true.mp tq_55 q hq; simpa using this))) h⟩
theorem tb_56 : am_tabok 56 := fun q hq => absurd (show q ∈ ([] : List (Nat × Nat × Nat × Nat × Nat)) from hq) List.not_mem_nil
theorem tq_56 : (pc_56.all (fun q => !ck_isT q.2.1 q.2.2.2.1)) = true := by decide +kernel
theorem al_56 : al_P 56 := ⟨tb_56, fun pc i len x y h => ck_lookup (P := fun pc v => am_ok am_NM 56 pc v.1 v.2.1 v.2.2.1 v.2.2.2) (ck_list2 ck_codes_ok (hs := ph_56) (by decide +kernel) ch_56 (fun q hq ht => absurd ht (by have := List.all_eq_true.mp tq_56 q hq; simpa using this))) h⟩
theorem tb_57 : am_tabok 57 := by unfold am_tabok; decide +kernel
theorem tq_57 : (pc_57.all (fun q => !ck_isT q.2.1 q.2.2.2.1)) = true := by decide +kernel
theorem al_57 : al_P 57 := ⟨tb_57, fun pc i len x y h => ck_lookup (P := fun pc v => am_ok am_NM 57 pc v.1 v.2.1 v.2.2.1 v.2.2.2) (ck_list2 ck_codes_ok (hs := ph_57) (by decide +kernel) ch_57 (fun q hq ht => absurd ht (by have := List.all_eq_true.mp tq_57 q hq; simpa using this))) h⟩
theorem tb_58 : am_tabok 58 := fun q hq => absurd (show q ∈ ([] : List (Nat × Nat × Nat × Nat × Nat)) from hq) List.not_mem_nil
theorem th_58 : pc_58.filter (fun q => ck_isT q.2.1 q.2.2.2.1) = [(12, .new 87, 3, 502, 0)] := by decide +kernel
theorem al_58 : al_P 58 := ⟨tb_58, fun pc i len x y h => ck_lookup (P := fun pc v => am_ok am_NM 58 pc v.1 v.2.1 v.2.2.1 v.2.2.2) (ck_list2 ck_codes_ok (hs := ph_58) (by decide +kernel) ch_58 (fun q hq ht => by
    have h1 : q ∈ pc_58.filter (fun q => ck_isT q.2.1 q.2.2.2.1) := List.mem_filter.mpr ⟨hq, ht⟩
    rw [th_58] at h1
    rcases List.mem_cons.mp h1 with rfl | h1
    · exact tw_58_12
    cases h1)) h⟩
theorem tb_59 : am_tabok 59 := by unfold am_tabok; decide +kernel
theorem tq_59 : (pc_59.all (fun q => !ck_isT q.2.1 q.2.2.2.1)) = true := by decide +kernel
theorem al_59 : al_P 59 := ⟨tb_59, fun pc i len x y h => ck_lookup (P := fun pc v => am_ok am_NM 59 pc v.1 v.2.1 v.2.2.1 v.2.2.2) (ck_list2 ck_codes_ok (hs := ph_59) (by decide +kernel) ch_59 (fun q hq ht => absurd ht (by have := List.all_eq_true.mp tq_59 q hq; simpa using this))) h⟩
theorem tb_60 : am_tabok 60 := fun q hq => absurd (show q ∈ ([] : List (Nat × Nat × Nat × Nat × Nat)) from hq) List.not_mem_nil
theorem th_60 : pc_60.filter (fun q => ck_isT q.2.1 q.2.2.2.1) = [(71, .new 87, 3, 502, 0)] := by decide +kernel
theorem al_60 : al_P 60 := ⟨tb_60, fun pc i len x y h => ck_lookup (P := fun pc v => am_ok am_NM 60 pc v.1 v.2.1 v.2.2.1 v.2.2.2) (ck_list2 ck_codes_ok (hs := ph_60) (by decide +kernel) ch_60 (fun q hq ht => by
    have h1 : q ∈ pc_60.filter (fun q => ck_isT q.2.1 q.2.2.2.1) := List.mem_filter.mpr ⟨hq, ht⟩
    rw [th_60] at h1
    rcases List.mem_cons.mp h1 with rfl | h1
    · exact tw_60_71
    cases h1)) h⟩
theorem tb_61 : am_tabok 61 := by unfold am_tabok; decide +kernel
theorem tq_61 : (pc_61.all (fun q => !ck_isT q.2.1 q.2.2.2.1)) = true := by decide +kernel
theorem al_61 : al_P 61 := ⟨tb_61, fun pc i len x y h => ck_lookup (P := fun pc v => am_ok am_NM 61 pc v.1 v.2.1 v.2.2.1 v.2.2.2) (ck_list2 ck_codes_ok (hs := ph_61) (by decide +kernel) ch_61 (fun q hq ht => absurd ht (by have := List.all_eq_true.mp tq_61 q hq; simpa using this))) h⟩
theorem tb_62 : am_tabok 62 := fun q hq => absurd (show q ∈ ([] : List (Nat × Nat × Nat × Nat × Nat)) from hq) List.not_mem_nil
theorem th_62 : pc_62.filter (fun q => ck_isT q.2.1 q.2.2.2.1) = [(8, .new 50, 3, 503, 0)] := by decide +kernel
theorem al_62 : al_P 62 := ⟨tb_62, fun pc i len x y h => ck_lookup (P := fun pc v => am_ok am_NM 62 pc v.1 v.2.1 v.2.2.1 v.2.2.2) (ck_list2 ck_codes_ok (hs := ph_62) (by decide +kernel) ch_62 (fun q hq ht => by
    have h1 : q ∈ pc_62.filter (fun q => ck_isT q.2.1 q.2.2.2.1) := List.mem_filter.mpr ⟨hq, ht⟩
    rw [th_62] at h1
    rcases List.mem_cons.mp h1 with rfl | h1
    · exact tw_62_8
    cases h1)) h⟩
theorem tb_63 : am_tabok 63 := fun q hq => absurd (show q ∈ ([] : List (Nat × Nat × Nat × Nat × Nat)) from hq) List.not_mem_nil
theorem tq_63 : (pc_63.all (fun q => !ck_isT q.2.1 q.2.2.2.1)) = true := by decide +kernel
theorem al_63 : al_P 63 := ⟨tb_63, fun pc i len x y h => ck_lookup (P := fun pc v => am_ok am_NM 63 pc v.1 v.2.1 v.2.2.1 v.2.2.2) (ck_list2 ck_codes_ok (hs := ph_63) (by decide +kernel) ch_63 (fun q hq ht => absurd ht (by have := List.all_eq_true.mp tq_63 q hq; simpa using this))) h⟩
theorem tb_64 : am_tabok 64 := by unfold am_tabok; decide +kernel
theorem tq_64 : (pc_64.all (fun q => !ck_isT q.2.1 q.2.2.2.1)) = true := by decide +kernel
theorem al_64 : al_P 64 := ⟨tb_64, fun pc i len x y h => ck_lookup (P := fun pc v => am_ok am_NM 64 pc v.1 v.2.1 v.2.2.1 v.2.2.2) (ck_list2 ck_codes_ok (hs := ph_64) (by decide +kernel) ch_64 (fun q hq ht => absurd ht (by have := List.all_eq_true.mp tq_64 q hq; simpa using this))) h⟩
theorem tb_65 : am_tabok 65 := fun q hq => absurd (show q ∈ ([] : List (Nat × Nat × Nat × Nat × Nat)) from hq) List.not_mem_nil
theorem th_65 : pc_65.filter (fun q => ck_isT q.2.1 q.2.2.2.1) = [(29, .new 87, 3, 502, 0), (59, .new 75, 3, 501, 0)] := by decide +kernel
theorem al_65 : al_P 65 := ⟨tb_65, fun pc i len x y h => ck_lookup (P := fun pc v => am_ok am_NM 65 pc v.1 v.2.1 v.2.2.1 v.2.2.2) (ck_list2 ck_codes_ok (hs := ph_65) (by decide +kernel) ch_65 (fun q hq ht => by
    have h1 : q ∈ pc_65.filter (fun q => ck_isT q.2.1 q.2.2.2.1) := List.mem_filter.mpr ⟨hq, ht⟩
    rw [th_65] at h1
    rcases List.mem_cons.mp h1 with rfl | h1
    · exact tw_65_29
    rcases List.mem_cons.mp h1 with rfl | h1
    · exact tw_65_59
    cases h1)) h⟩
theorem tb_66 : am_tabok 66 := fun q hq => absurd (show q ∈ ([] : List (Nat × Nat × Nat × Nat × Nat)) from hq) List.not_mem_nil
theorem th_66 : pc_66.filter (fun q => ck_isT q.2.1 q.2.2.2.1) = [(12, .new 87, 3, 502, 0)] := by decide +kernel
theorem al_66 : al_P 66 := ⟨tb_66, fun pc i len x y h => ck_lookup (P := fun pc v => am_ok am_NM 66 pc v.1 v.2.1 v.2.2.1 v.2.2.2) (ck_list2 ck_codes_ok (hs := ph_66) (by decide +kernel) ch_66 (fun q hq ht => by
    have h1 : q ∈ pc_66.filter (fun q => ck_isT q.2.1 q.2.2.2.1) := List.mem_filter.mpr ⟨hq, ht⟩
    rw [th_66] at h1
    rcases List.mem_cons.mp h1 with rfl | h1
    · exact tw_66_12
    cases h1)) h⟩
theorem tb_67 : am_tabok 67 := by unfold am_tabok; decide +kernel
theorem tq_67 : (pc_67.all (fun q => !ck_isT q.2.1 q.2.2.2.1)) = true := by decide +kernel
theorem al_67 : al_P 67 := ⟨tb_67, fun pc i len x y h => ck_lookup (P := fun pc v => am_ok am_NM 67 pc v.1 v.2.1 v.2.2.1 v.2.2.2) (ck_list2 ck_codes_ok (hs := ph_67) (by decide +kernel) ch_67 (fun q hq ht => absurd ht (by have := List.all_eq_true.mp tq_67 q hq; simpa using this))) h⟩
theorem tb_68 : am_tabok 68 := fun q hq => absurd (show q ∈ ([] : List (Nat × Nat × Nat × Nat × Nat)) from hq) List.not_mem_nil
theorem tq_68 : (pc_68.all (fun q => !ck_isT q.2.1 q.2.2.2.1)) = true := by decide +kernel
theorem al_68 : al_P 68 := ⟨tb_68, fun pc i len x y h => ck_lookup (P := fun pc v => am_ok am_NM 68 pc v.1 v.2.1 v.2.2.1 v.2.2.2) (ck_list2 ck_codes_ok (hs := ph_68) (by decide +kernel) ch_68 (fun q hq ht => absurd ht (by have := List.all_eq_true.mp tq_68 q hq; simpa using this))) h⟩
theorem tb_69 : am_tabok 69 := fun q hq => absurd (show q ∈ ([] : List (Nat × Nat × Nat × Nat × Nat)) from hq) List.not_mem_nil
theorem tq_69 : (pc_69.all (fun q => !ck_isT q.2.1 q.2.2.2.1)) = true := by decide +kernel
theorem al_69 : al_P 69 := ⟨tb_69, fun pc i len x y h => ck_lookup (P := fun pc v => am_ok am_NM 69 pc v.1 v.2.1 v.2.2.1 v.2.2.2) (ck_list2 ck_codes_ok (hs := ph_69) (by decide +kernel) ch_69 (fun q hq ht => absurd ht (by have := List.all_eq_true.mp tq_69 q hq; simpa using this))) h⟩
theorem tb_70 : am_tabok 70 := fun q hq => absurd (show q ∈ ([] : List (Nat × Nat × Nat × Nat × Nat)) from hq) List.not_mem_nil
theorem tq_70 : (pc_70.all (fun q => !ck_isT q.2.1 q.2.2.2.1)) = true := by decide +kernel
theorem al_70 : al_P 70 := ⟨tb_70, fun pc i len x y h => ck_lookup (P := fun pc v => am_ok am_NM 70 pc v.1 v.2.1 v.2.2.1 v.2.2.2) (ck_list2 ck_codes_ok (hs := ph_70) (by decide +kernel) ch_70 (fun q hq ht => absurd ht (by have := List.all_eq_true.mp tq_70 q hq; simpa using this))) h⟩
theorem tb_71 : am_tabok 71 := fun q hq => absurd (show q ∈ ([] : List (Nat × Nat × Nat × Nat × Nat)) from hq) List.not_mem_nil
theorem tq_71 : (pc_71.all (fun q => !ck_isT q.2.1 q.2.2.2.1)) = true := by decide +kernel
theorem al_71 : al_P 71 := ⟨tb_71, fun pc i len x y h => ck_lookup (P := fun pc v => am_ok am_NM 71 pc v.1 v.2.1 v.2.2.1 v.2.2.2) (ck_list2 ck_codes_ok (hs := ph_71) (by decide +kernel) ch_71 (fun q hq ht => absurd ht (by have := List.all_eq_true.mp tq_71 q hq; simpa using this))) h⟩
theorem tb_72 : am_tabok 72 := by unfold am_tabok; decide +kernel
theorem tq_72 : (pc_72.all (fun q => !ck_isT q.2.1 q.2.2.2.1)) = true := by decide +kernel
theorem al_72 : al_P 72 := ⟨tb_72, fun pc i len x y h => ck_lookup (P := fun pc v => am_ok am_NM 72 pc v.1 v.2.1 v.2.2.1 v.2.2.2) (ck_list2 ck_codes_ok (hs := ph_72) (by decide +kernel) ch_72 (fun q hq ht => absurd ht (by have := List.all_eq_true.mp tq_72 q hq; simpa using this))) h⟩
theorem tb_73 : am_tabok 73 := fun q hq => absurd (show q ∈ ([] : List (Nat × Nat × Nat × Nat × Nat)) from hq) List.not_mem_nil
theorem tq_73 : (pc_73.all (fun q => !ck_isT q.2.1 q.2.2.2.1)) = true := by decide +kernel
theorem al_73 : al_P 73 := ⟨tb_73, fun pc i len x y h => ck_lookup (P := fun pc v => am_ok am_NM 73 pc v.1 v.2.1 v.2.2.1 v.2.2.2) (ck_list2 ck_codes_ok (hs := ph_73) (by decide +kernel) ch_73 (fun q hq ht => absurd ht (by have := List.all_eq_true.mp tq_73 q hq; simpa using this))) h⟩
theorem tb_74 : am_tabok 74 := fun q hq => absurd (show q ∈ ([] : List (Nat × Nat × Nat × Nat × Nat)) from hq) List.not_mem_nil
theorem tq_74 : (pc_74.all (fun q => !ck_isT q.2.1 q.2.2.2.1)) = true := by decide +kernel
theorem al_74 : al_P 74 := ⟨tb_74, fun pc i len x y h => ck_lookup (P := fun pc v => am_ok am_NM 74 pc v.1 v.2.1 v.2.2.1 v.2.2.2) (ck_list2 ck_codes_ok (hs := ph_74) (by decide +kernel) ch_74 (fun q hq ht => absurd ht (by have := List.all_eq_true.mp tq_74 q hq; simpa using this))) h⟩
theorem tb_75 : am_tabok 75 := by unfold am_tabok; decide +kernel
theorem tq_75 : (pc_75.all (fun q => !ck_isT q.2.1 q.2.2.2.1)) = true := by decide +kernel
theorem al_75 : al_P 75 := ⟨tb_75, fun pc i len x y h => ck_lookup (P := fun pc v => am_ok am_NM 75 pc v.1 v.2.1 v.2.2.1 v.2.2.2) (ck_list2 ck_codes_ok (hs := ph_75) (by decide +kernel) ch_75 (fun q hq ht => absurd ht (by have := List.all_eq_true.mp tq_75 q hq; simpa using this))) h⟩
theorem tb_76 : am_tabok 76 := fun q hq => absurd (show q ∈ ([] : List (Nat × Nat × Nat × Nat × Nat)) from hq) List.not_mem_nil
theorem th_76 : pc_76.filter (fun q => ck_isT q.2.1 q.2.2.2.1) = [(30, .new 87, 3, 502, 0)] := by decide +kernel
theorem al_76 : al_P 76 := ⟨tb_76, fun pc i len x y h => ck_lookup (P := fun pc v => am_ok am_NM 76 pc v.1 v.2.1 v.2.2.1 v.2.2.2) (ck_list2 ck_codes_ok (hs := ph_76) (by decide +kernel) ch_76 (fun q hq ht => by
    have h1 : q ∈ pc_76.filter (fun q => ck_isT q.2.1 q.2.2.2.1) := List.mem_filter.mpr ⟨hq, ht⟩
    rw [th_76] at h1
    rcases List.mem_cons.mp h1 with rfl | h1
    · exact tw_76_30
    cases h1)) h⟩
theorem tb_77 : am_tabok 77 := fun q hq => absurd (show q ∈ ([] : List (Nat × Nat × Nat × Nat × Nat)) from hq) List.not_mem_nil
theorem tq_77 : (pc_77.all (fun q => !ck_isT q.2.1 q.2.2.2.1)) = true := by decide +kernel
theorem al_77 : al_P 77 := ⟨tb_77, fun pc i len x y h => ck_lookup (P := fun pc v => am_ok am_NM 77 pc v.1 v.2.1 v.2.2.1 v.2.2.2) (ck_list2 ck_codes_ok (hs := ph_77) (by decide +kernel) ch_77 (fun q hq ht => absurd ht (by have := List.all_eq_true.mp tq_77 q hq; simpa using this))) h⟩
theorem tb_78 : am_tabok 78 := fun q hq => absurd (show q ∈ ([] : List (Nat × Nat × Nat × Nat × Nat)) from hq) List.not_mem_nil
theorem tq_78 : (pc_78.all (fun q => !ck_isT q.2.1 q.2.2.2.1)) = true := by decide +kernel
theorem al_78 : al_P 78 := ⟨tb_78, fun pc i len x y h => ck_lookup (P := fun pc v => am_ok am_NM 78 pc v.1 v.2.1 v.2.2.1 v.2.2.2) (ck_list2 ck_codes_ok (hs := ph_78) (by decide +kernel) ch_78 (fun q hq ht => absurd ht (by have := List.all_eq_true.mp tq_78 q hq; simpa using this))) h⟩
theorem tb_79 : am_tabok 79 := fun q hq => absurd (show q ∈ ([] : List (Nat × Nat × Nat × Nat × Nat)) from hq) List.not_mem_nil
theorem tq_79 : (pc_79.all (fun q => !ck_isT q.2.1 q.2.2.2.1)) = true := by decide +kernel
theorem al_79 : al_P 79 := ⟨tb_79, fun pc i len x y h => ck_lookup (P := fun pc v => am_ok am_NM 79 pc v.1 v.2.1 v.2.2.1 v.2.2.2) (ck_list2 ck_codes_ok (hs := ph_79) (by decide +kernel) ch_79 (fun q hq ht => absurd ht (by have := List.all_eq_true.mp tq_79 q hq; simpa using this))) h⟩
theorem tb_80 : am_tabok 80 := by unfold am_tabok; decide +kernel
theorem tq_80 : (pc_80.all (fun q => !ck_isT q.2.1 q.2.2.2.1)) = true := by decide +kernel
theorem al_80 : al_P 80 := ⟨tb_80, fun pc i len x y h => ck_lookup (P := fun pc v => am_ok am_NM 80 pc v.1 v.2.1 v.2.2.1 v.2.2.2) (ck_list2 ck_codes_ok (hs := ph_80) (by decide +kernel) ch_80 (fun q hq ht => absurd ht (by have := List.all_eq_true.mp tq_80 q hq; simpa using this))) h⟩
theorem tb_81 : am_tabok 81 := fun q hq => absurd (show q ∈ ([] : List (Nat × Nat × Nat × Nat × Nat)) from hq) List.not_mem_nil
theorem th_81 : pc_81.filter (fun q => ck_isT q.2.1 q.2.2.2.1) = [(22, .new 87, 3, 502, 0)] := by decide +kernel
theorem al_81 : al_P 81 := ⟨tb_81, fun pc i len x y h => ck_lookup (P := fun pc v => am_ok am_NM 81 pc v.1 v.2.1 v.2.2.1 v.2.2.2) (ck_list2 ck_codes_ok (hs := ph_81) (by decide +kernel) ch_81 (fun q hq ht => by
    have h1 : q ∈ pc_81.filter (fun q => ck_isT q.2.1 q.2.2.2.1) := List.mem_filter.mpr ⟨hq, ht⟩
    rw [th_81] at h1
    rcases List.mem_cons.mp h1 with rfl | h1
    · exact tw_81_22
    cases h1)) h⟩
theorem tb_82 : am_tabok 82 := fun q hq => absurd (show q ∈ ([] : List (Nat × Nat × Nat × Nat × Nat)) from hq) List.not_mem_nil
theorem tq_82 : (pc_82.all (fun q => !ck_isT q.2.1 q.2.2.2.1)) = true := by decide +kernel
theorem al_82 : al_P 82 := ⟨tb_82, fun pc i len x y h => ck_lookup (P := fun pc v => am_ok am_NM 82 pc v.1 v.2.1 v.2.2.1 v.2.2.2) (ck_list2 ck_codes_ok (hs := ph_82) (by decide +kernel) ch_82 (fun q hq ht => absurd ht (by have := List.all_eq_true.mp tq_82 q hq; simpa using this))) h⟩
theorem tb_83 : am_tabok 83 := fun q hq => absurd (show q ∈ ([] : List (Nat × Nat × Nat × Nat × Nat)) from hq) List.not_mem_nil
theorem tq_83 : (pc_83.all (fun q => !ck_isT q.2.1 q.2.2.2.1)) = true := by decide +kernel
theorem al_83 : al_P 83 := ⟨tb_83, fun pc i len x y h => ck_lookup (P := fun pc v => am_ok am_NM 83 pc v.1 v.2.1 v.2.2.1 v.2.2.2) (ck_list2 ck_codes_ok (hs := ph_83) (by decide +kernel) ch_83 (fun q hq ht => absurd ht (by have := List.all_eq_true.mp tq_83 q hq; simpa using this))) h⟩
theorem tb_84 : am_tabok 84 := fun q hq => absurd (show q ∈ ([] : List (Nat × Nat × Nat × Nat × Nat)) from hq) List.not_mem_nil
theorem tq_84 : (pc_84.all (fun q => !ck_isT q.2.1 q.2.2.2.1)) = true := by decide +kernel
theorem al_84 : al_P 84 := ⟨tb_84, fun pc i len x y h => ck_lookup (P := fun pc v => am_ok am_NM 84 pc v.1 v.2.1 v.2.2.1 v.2.2.2) (ck_list2 ck_codes_ok (hs := ph_84) (by decide +kernel) ch_84 (fun q hq ht => absurd ht (by have := List.all_eq_true.mp tq_84 q hq; simpa using this))) h⟩
theorem tb_85 : am_tabok 85 := fun q hq => absurd (show q ∈ ([] : List (Nat × Nat × Nat × Nat × Nat)) from hq) List.not_mem_nil
theorem tq_85 : (pc_85.all (fun q => !ck_isT q.2.1 q.2.2.2.1)) = true := by decide +kernel
theorem al_85 : al_P 85 := ⟨tb_85, fun pc i len x y h => ck_lookup (P := fun pc v => am_ok am_NM 85 pc v.1 v.2.1 v.2.2.1 v.2.2.2) (ck_list2 ck_codes_ok (hs := ph_85) (by decide +kernel) ch_85 (fun q hq ht => absurd ht (by have := List.all_eq_true.mp tq_85 q hq; simpa using this))) h⟩
theorem tb_86 : am_tabok 86 := fun q hq => absurd (show q ∈ ([] : List (Nat × Nat × Nat × Nat × Nat)) from hq) List.not_mem_nil
theorem tq_86 : (pc_86.all (fun q => !ck_isT q.2.1 q.2.2.2.1)) = true := by decide +kernel
theorem al_86 : al_P 86 := ⟨tb_86, fun pc i len x y h => ck_lookup (P := fun pc v => am_ok am_NM 86 pc v.1 v.2.1 v.2.2.1 v.2.2.2) (ck_list2 ck_codes_ok (hs := ph_86) (by decide +kernel) ch_86 (fun q hq ht => absurd ht (by have := List.all_eq_true.mp tq_86 q hq; simpa using this))) h⟩
theorem tb_87 : am_tabok 87 := fun q hq => absurd (show q ∈ ([] : List (Nat × Nat × Nat × Nat × Nat)) from hq) List.not_mem_nil
theorem tq_87 : (pc_87.all (fun q => !ck_isT q.2.1 q.2.2.2.1)) = true := by decide +kernel
theorem al_87 : al_P 87 := ⟨tb_87, fun pc i len x y h => ck_lookup (P := fun pc v => am_ok am_NM 87 pc v.1 v.2.1 v.2.2.1 v.2.2.2) (ck_list2 ck_codes_ok (hs := ph_87) (by decide +kernel) ch_87 (fun q hq ht => absurd ht (by have := List.all_eq_true.mp tq_87 q hq; simpa using this))) h⟩
theorem tb_88 : am_tabok 88 := fun q hq => absurd (show q ∈ ([] : List (Nat × Nat × Nat × Nat × Nat)) from hq) List.not_mem_nil
theorem tq_88 : (pc_88.all (fun q => !ck_isT q.2.1 q.2.2.2.1)) = true := by decide +kernel
theorem al_88 : al_P 88 := ⟨tb_88, fun pc i len x y h => ck_lookup (P := fun pc v => am_ok am_NM 88 pc v.1 v.2.1 v.2.2.1 v.2.2.2) (ck_list2 ck_codes_ok (hs := ph_88) (by decide +kernel) ch_88 (fun q hq ht => absurd ht (by have := List.all_eq_true.mp tq_88 q hq; simpa using this))) h⟩
theorem tb_89 : am_tabok 89 := fun q hq => absurd (show q ∈ ([] : List (Nat × Nat × Nat × Nat × Nat)) from hq) List.not_mem_nil
theorem tq_89 : (pc_89.all (fun q => !ck_isT q.2.1 q.2.2.2.1)) = true := by decide +kernel
theorem al_89 : al_P 89 := ⟨tb_89, fun pc i len x y h => ck_lookup (P := fun pc v => am_ok am_NM 89 pc v.1 v.2.1 v.2.2.1 v.2.2.2) (ck_list2 ck_codes_ok (hs := ph_89) (by decide +kernel) ch_89 (fun q hq ht => absurd ht (by have := List.all_eq_true.mp tq_89 q hq; simpa using this))) h⟩
theorem tb_90 : am_tabok 90 := fun q hq => absurd (show q ∈ ([] : List (Nat × Nat × Nat × Nat × Nat)) from hq) List.not_mem_nil
theorem tq_90 : (pc_90.all (fun q => !ck_isT q.2.1 q.2.2.2.1)) = true := by decide +kernel
theorem al_90 : al_P 90 := ⟨tb_90, fun pc i len x y h => ck_lookup (P := fun pc v => am_ok am_NM 90 pc v.1 v.2.1 v.2.2.1 v.2.2.2) (ck_list2 ck_codes_ok (hs := ph_90) (by decide +kernel) ch_90 (fun q hq ht => absurd ht (by have := List.all_eq_true.mp tq_90 q hq; simpa using this))) h⟩
theorem tb_91 : am_tabok 91 := fun q hq => absurd (show q ∈ ([] : List (Nat × Nat × Nat × Nat × Nat)) from hq) List.not_mem_nil
theorem tq_91 : (pc_91.all (fun q => !ck_isT q.2.1 q.2.2.2.1)) = true := by decide +kernel
theorem al_91 : al_P 91 := ⟨tb_91, fun pc i len x y h => ck_lookup (P := fun pc v => am_ok am_NM 91 pc v.1 v.2.1 v.2.2.1 v.2.2.2) (ck_list2 ck_codes_ok (hs := ph_91) (by decide +kernel) ch_91 (fun q hq ht => absurd ht (by have := List.all_eq_true.mp tq_91 q hq; simpa using this))) h⟩
theorem tb_92 : am_tabok 92 := fun q hq => absurd (show q ∈ ([] : List (Nat × Nat × Nat × Nat × Nat)) from hq) List.not_mem_nil
theorem tq_92 : (pc_92.all (fun q => !ck_isT q.2.1 q.2.2.2.1)) = true := by decide +kernel
theorem al_92 : al_P 92 := ⟨tb_92, fun pc i len x y h => ck_lookup (P := fun pc v => am_ok am_NM 92 pc v.1 v.2.1 v.2.2.1 v.2.2.2) (ck_list2 ck_codes_ok (hs := ph_92) (by decide +kernel) ch_92 (fun q hq ht => absurd ht (by have := List.all_eq_true.mp tq_92 q hq; simpa using this))) h⟩
theorem tb_93 : am_tabok 93 := fun q hq => absurd (show q ∈ ([] : List (Nat × Nat × Nat × Nat × Nat)) from hq) List.not_mem_nil
theorem tq_93 : (pc_93.all (fun q => !ck_isT q.2.1 q.2.2.2.1)) = true := by decide +kernel
theorem al_93 : al_P 93 := ⟨tb_93, fun pc i len x y h => ck_lookup (P := fun pc v => am_ok am_NM 93 pc v.1 v.2.1 v.2.2.1 v.2.2.2) (ck_list2 ck_codes_ok (hs := ph_93) (by decide +kernel) ch_93 (fun q hq ht => absurd ht (by have := List.all_eq_true.mp tq_93 q hq; simpa using this))) h⟩
theorem tb_94 : am_tabok 94 := fun q hq => absurd (show q ∈ ([] : List (Nat × Nat × Nat × Nat × Nat)) from hq) List.not_mem_nil
theorem tq_94 : (pc_94.all (fun q => !ck_isT q.2.1 q.2.2.2.1)) = true := by decide +kernel
theorem al_94 : al_P 94 := ⟨tb_94, fun pc i len x y h => ck_lookup (P := fun pc v => am_ok am_NM 94 pc v.1 v.2.1 v.2.2.1 v.2.2.2) (ck_list2 ck_codes_ok (hs := ph_94) (by decide +kernel) ch_94 (fun q hq ht => absurd ht (by have := List.all_eq_true.mp tq_94 q hq; simpa using this))) h⟩
theorem tb_95 : am_tabok 95 := fun q hq => absurd (show q ∈ ([] : List (Nat × Nat × Nat × Nat × Nat)) from hq) List.not_mem_nil
theorem tq_95 : (pc_95.all (fun q => !ck_isT q.2.1 q.2.2.2.1)) = true := by decide +kernel
theorem al_95 : al_P 95 := ⟨tb_95, fun pc i len x y h => ck_lookup (P := fun pc v => am_ok am_NM 95 pc v.1 v.2.1 v.2.2.1 v.2.2.2) (ck_list2 ck_codes_ok (hs := ph_95) (by decide +kernel) ch_95 (fun q hq ht => absurd ht (by have := List.all_eq_true.mp tq_95 q hq; simpa using this))) h⟩
theorem tb_96 : am_tabok 96 := fun q hq => absurd (show q ∈ ([] : List (Nat × Nat × Nat × Nat × Nat)) from hq) List.not_mem_nil
theorem tq_96 : (pc_96.all (fun q => !ck_isT q.2.1 q.2.2.2.1)) = true := by decide +kernel
theorem al_96 : al_P 96 := ⟨tb_96, fun pc i len x y h => ck_lookup (P := fun pc v => am_ok am_NM 96 pc v.1 v.2.1 v.2.2.1 v.2.2.2) (ck_list2 ck_codes_ok (hs := ph_96) (by decide +kernel) ch_96 (fun q hq ht => absurd ht (by have := List.all_eq_true.mp tq_96 q hq; simpa using this))) h⟩
theorem tb_97 : am_tabok 97 := fun q hq => absurd (show q ∈ ([] : List (Nat × Nat × Nat × Nat × Nat)) from hq) List.not_mem_nil
theorem tq_97 : (pc_97.all (fun q => !ck_isT q.2.1 q.2.2.2.1)) = true := by decide +kernel
theorem al_97 : al_P 97 := ⟨tb_97, fun pc i len x y h => ck_lookup (P := fun pc v => am_ok am_NM 97 pc v.1 v.2.1 v.2.2.1 v.2.2.2) (ck_list2 ck_codes_ok (hs := ph_97) (by decide +kernel) ch_97 (fun q hq ht => absurd ht (by have := List.all_eq_true.mp tq_97 q hq; simpa using this))) h⟩
theorem tb_98 : am_tabok 98 := fun q hq => absurd (show q ∈ ([] : List (Nat × Nat × Nat × Nat × Nat)) from hq) List.not_mem_nil
theorem tq_98 : (pc_98.all (fun q => !ck_isT q.2.1 q.2.2.2.1)) = true := by decide +kernel
theorem al_98 : al_P 98 := ⟨tb_98, fun pc i len x y h => ck_lookup (P := fun pc v => am_ok am_NM 98 pc v.1 v.2.1 v.2.2.1 v.2.2.2) (ck_list2 ck_codes_ok (hs := ph_98) (by decide +kernel) ch_98 (fun q hq ht => absurd ht (by have := List.all_eq_true.mp tq_98 q hq; simpa using this))) h⟩
theorem tb_99 : am_tabok 99 := fun q hq => absurd (show q ∈ ([] : List (Nat × Nat × Nat × Nat × Nat)) from hq) List.not_mem_nil
theorem tq_99 : (pc_99.all (fun q => !ck_isT q.2.1 q.2.2.2.1)) = true := by decide +kernel
theorem al_99 : al_P 99 := ⟨tb_99, fun pc i len x y h => ck_lookup (P := fun pc v => am_ok am_NM 99 pc v.1 v.2.1 v.2.2.1 v.2.2.2) (ck_list2 ck_codes_ok (hs := ph_99) (by decide +kernel) ch_99 (fun q hq ht => absurd ht (by have := List.all_eq_true.mp tq_99 q hq; simpa using this))) h⟩
theorem tb_100 : am_tabok 100 := fun q hq => absurd (show q ∈ ([] : List (Nat × Nat × Nat × Nat × Nat)) from hq) List.not_mem_nil
theorem tq_100 : (pc_100.all (fun q => !ck_isT q.2.1 q.2.2.2.1)) = true := by decide +kernel
theorem al_100 : al_P 100 := ⟨tb_100, fun pc i len x y h => ck_lookup (P := fun pc v => am_ok am_NM 100 pc v.1 v.2.1 v.2.2.1 v.2.2.2) (ck_list2 ck_codes_ok (hs := ph_100) (by decide +kernel) ch_100 (fun q hq ht => absurd ht (by have := List.all_eq_true.mp tq_100 q hq; simpa using this))) h⟩
theorem tb_101 : am_tabok 101 := fun q hq => absurd (show q ∈ ([] : List (Nat × Nat × Nat × Nat × Nat)) from hq) List.not_mem_nil
theorem tq_101 : (pc_101.all (fun q => !ck_isT q.2.1 q.2.2.2.1)) = true := by decide +kernel
theorem al_101 : al_P 101 := ⟨tb_101, fun pc i len x y h => ck_lookup (P := fun pc v => am_ok am_NM 101 pc v.1 v.2.1 v.2.2.1 v.2.2.2) (ck_list2 ck_codes_ok (hs := ph_101) (by decide +kernel) ch_101 (fun q hq ht => absurd ht (by have := List.all_eq_true.mp tq_101 q hq; simpa using this))) h⟩
theorem tb_102 : am_tabok 102 := fun q hq => absurd (show q ∈ ([] : List (Nat × Nat × Nat × Nat × Nat)) from hq) List.not_mem_nil
theorem tq_102 : (pc_102.all (fun q => !ck_isT q.2.1 q.2.2.2.1)) = true := by decide +kernel
theorem al_102 : al_P 102 := ⟨tb_102, fun pc i len x y h => ck_lookup (P := fun pc v => am_ok am_NM 102 pc v.1 v.2.1 v.2.2.1 v.2.2.2) (ck_list2 ck_codes_ok (hs := ph_102) (by decide +kernel) ch_102 (fun q hq ht => absurd ht (by have := List.all_eq_true.mp tq_102 q hq; simpa using this))) h⟩
theorem tb_103 : am_tabok 103 := fun q hq => absurd (show q ∈ ([] : List (Nat × Nat × Nat × Nat × Nat)) from hq) List.not_mem_nil
theorem tq_103 : (pc_103.all (fun q => !ck_isT q.2.1 q.2.2.2.1)) = true := by decide +kernel
theorem al_103 : al_P 103 := ⟨tb_103, fun pc i len x y h => ck_lookup (P := fun pc v => am_ok am_NM 103 pc v.1 v.2.1 v.2.2.1 v.2.2.2) (ck_list2 ck_codes_ok (hs := ph_103) (by decide +kernel) ch_103 (fun q hq ht => absurd ht (by have := List.all_eq_true.mp tq_103 q hq; simpa using this))) h⟩
theorem tb_104 : am_tabok 104 := fun q hq => absurd (show q ∈ ([] : List (Nat × Nat × Nat × Nat × Nat)) from hq) List.not_mem_nil
theorem tq_104 : (pc_104.all (fun q => !ck_isT q.2.1 q.2.2.2.1)) = true := by decide +kernel
theorem al_104 : al_P 104 := ⟨tb_104, fun pc i len x y h => ck_lookup (P := fun pc v => am_ok am_NM 104 pc v.1 v.2.1 v.2.2.1 v.2.2.2) (ck_list2 ck_codes_ok (hs := ph_104) (by decide +kernel) ch_104 (fun q hq ht => absurd ht (by have := List.all_eq_true.mp tq_104 q hq; simpa using this))) h⟩
theorem tb_105 : am_tabok 105 := fun q hq => absurd (show q ∈ ([] : List (Nat × Nat × Nat × Nat × Nat)) from hq) List.not_mem_nil
theorem tq_105 : (pc_105.all (fun q => !ck_isT q.2.1 q.2.2.2.1)) = true := by decide +kernel
theorem al_105 : al_P 105 := ⟨tb_105, fun pc i len x y h => ck_lookup (P := fun pc v => am_ok am_NM 105 pc v.1 v.2.1 v.2.2.1 v.2.2.2) (ck_list2 ck_codes_ok (hs := ph_105) (by decide +kernel) ch_105 (fun q hq ht => absurd ht (by have := List.all_eq_true.mp tq_105 q hq; simpa using this))) h⟩
theorem tb_106 : am_tabok 106 := fun q hq => absurd (show q ∈ ([] : List (Nat × Nat × Nat × Nat × Nat)) from hq) List.not_mem_nil
theorem tq_106 : (pc_106.all (fun q => !ck_isT q.2.1 q.2.2.2.1)) = true := by decide +kernel
theorem al_106 : al_P 106 := ⟨tb_106, fun pc i len x y h => ck_lookup (P := fun pc v => am_ok am_NM 106 pc v.1 v.2.1 v.2.2.1 v.2.2.2) (ck_list2 ck_codes_ok (hs := ph_106) (by decide +kernel) ch_106 (fun q hq ht => absurd ht (by have := List.all_eq_true.mp tq_106 q hq; simpa using this))) h⟩
theorem tb_107 : am_tabok 107 := fun q hq => absurd (show q ∈ ([] : List (Nat × Nat × Nat × Nat × Nat)) from hq) List.not_mem_nil
theorem tq_107 : (pc_107.all (fun q => !ck_isT q.2.1 q.2.2.2.1)) = true := by decide +kernel
theorem al_107 : al_P 107 := ⟨tb_107, fun pc i len x y h => ck_lookup (P := fun pc v => am_ok am_NM 107 pc v.1 v.2.1 v.2.2.1 v.2.2.2) (ck_list2 ck_codes_ok (hs := ph_107) (by decide +kernel) ch_107 (fun q hq ht => absurd ht (by have := List.all_eq_true.mp tq_107 q hq; simpa using this))) h⟩
theorem tb_108 : am_tabok 108 := fun q hq => absurd (show q ∈ ([] : List (Nat × Nat × Nat × Nat × Nat)) from hq) List.not_mem_nil
theorem tq_108 : (pc_108.all (fun q => !ck_isT q.2.1 q.2.2.2.1)) = true := by decide +kernel
theorem al_108 : al_P 108 := ⟨tb_108, fun pc i len x y h => ck_lookup (P := fun pc v => am_ok am_NM 108 pc v.1 v.2.1 v.2.2.1 v.2.2.2) (ck_list2 ck_codes_ok (hs := ph_108) (by decide +kernel) ch_108 (fun q hq ht => absurd ht (by have := List.all_eq_true.mp tq_108 q hq; simpa using this))) h⟩
theorem tb_109 : am_tabok 109 := fun q hq => absurd (show q ∈ ([] : List (Nat × Nat × Nat × Nat × Nat)) from hq) List.not_mem_nil
theorem tq_109 : (pc_109.all (fun q => !ck_isT q.2.1 q.2.2.2.1)) = true := by decide +kernel
theorem al_109 : al_P 109 := ⟨tb_109, fun pc i len x y h => ck_lookup (P := fun pc v => am_ok am_NM 109 pc v.1 v.2.1 v.2.2.1 v.2.2.2) (ck_list2 ck_codes_ok (hs := ph_109) (by decide +kernel) ch_109 (fun q hq ht => absurd ht (by have := List.all_eq_true.mp tq_109 q hq; simpa using this))) h⟩
theorem tb_110 : am_tabok 110 := fun q hq => absurd (show q ∈ ([] : List (Nat × Nat × Nat × Nat × Nat)) from hq) List.not_mem_nil
theorem tq_110 : (pc_110.all (fun q => !ck_isT q.2.1 q.2.2.2.1)) = true := by decide +kernel
theorem al_110 : al_P 110 := ⟨tb_110, fun pc i len x y h => ck_lookup (P := fun pc v => am_ok am_NM 110 pc v.1 v.2.1 v.2.2.1 v.2.2.2) (ck_list2 ck_codes_ok (hs := ph_110) (by decide +kernel) ch_110 (fun q hq ht => absurd ht (by have := List.all_eq_true.mp tq_110 q hq; simpa using this))) h⟩
theorem tb_111 : am_tabok 111 := fun q hq => absurd (show q ∈ ([] : List (Nat × Nat × Nat × Nat × Nat)) from hq) List.not_mem_nil
theorem tq_111 : (pc_111.all (fun q => !ck_isT q.2.1 q.2.2.2.1)) = true := by decide +kernel
theorem al_111 : al_P 111 := ⟨tb_111, fun pc i len x y h => ck_lookup (P := fun pc v => am_ok am_NM 111 pc v.1 v.2.1 v.2.2.1 v.2.2.2) (ck_list2 ck_codes_ok (hs := ph_111) (by decide +kernel) ch_111 (fun q hq ht => absurd ht (by have := List.all_eq_true.mp tq_111 q hq; simpa using this))) h⟩
theorem tb_112 : am_tabok 112 := fun q hq => absurd (show q ∈ ([] : List (Nat × Nat × Nat × Nat × Nat)) from hq) List.not_mem_nil
theorem tq_112 : (pc_112.all (fun q => !ck_isT q.2.1 q.2.2.2.1)) = true := by decide +kernel
theorem al_112 : al_P 112 := ⟨tb_112, fun pc i len x y h => ck_lookup (P := fun pc v => am_ok am_NM 112 pc v.1 v.2.1 v.2.2.1 v.2.2.2) (ck_list2 ck_codes_ok (hs := ph_112) (by decide +kernel) ch_112 (fun q hq ht => absurd ht (by have := List.all_eq_true.mp tq_112 q hq; simpa using this))) h⟩
theorem tb_113 : am_tabok 113 := fun q hq => absurd (show q ∈ ([] : List (Nat × Nat × Nat × Nat × Nat)) from hq) List.not_mem_nil
theorem tq_113 : (pc_113.all (fun q => !ck_isT q.2.1 q.2.2.2.1)) = true := by decide +kernel
theorem al_113 : al_P 113 := ⟨tb_113, fun pc i len x y h => ck_lookup (P := fun pc v => am_ok am_NM 113 pc v.1 v.2.1 v.2.2.1 v.2.2.2) (ck_list2 ck_codes_ok (hs := ph_113) (by decide +kernel) ch_113 (fun q hq ht => absurd ht (by have := List.all_eq_true.mp tq_113 q hq; simpa using this))) h⟩
theorem tb_114 : am_tabok 114 := fun q hq => absurd (show q ∈ ([] : List (Nat × Nat × Nat × Nat × Nat)) from hq) List.not_mem_nil
theorem tq_114 : (pc_114.all (fun q => !ck_isT q.2.1 q.2.2.2.1)) = true := by decide +kernel
theorem al_114 : al_P 114 := ⟨tb_114, fun pc i len x y h => ck_lookup (P := fun pc v => am_ok am_NM 114 pc v.1 v.2.1 v.2.2.1 v.2.2.2) (ck_list2 ck_codes_ok (hs := ph_114) (by decide +kernel) ch_114 (fun q hq ht => absurd ht (by have := List.all_eq_true.mp tq_114 q hq; simpa using this))) h⟩
theorem tb_115 : am_tabok 115 := fun q hq => absurd (show q ∈ ([] : List (Nat × Nat × Nat × Nat × Nat)) from hq) List.not_mem_nil
theorem tq_115 : (pc_115.all (fun q => !ck_isT q.2.1 q.2.2.2.1)) = true := by decide +kernel
theorem al_115 : al_P 115 := ⟨tb_115, fun pc i len x y h => ck_lookup (P := fun pc v => am_ok am_NM 115 pc v.1 v.2.1 v.2.2.1 v.2.2.2) (ck_list2 ck_codes_ok (hs := ph_115) (by decide +kernel) ch_115 (fun q hq ht => absurd ht (by have := List.all_eq_true.mp tq_115 q hq; simpa using this))) h⟩
theorem tb_116 : am_tabok 116 := fun q hq => absurd (show q ∈ ([] : List (Nat × Nat × Nat × Nat × Nat)) from hq) List.not_mem_nil
theorem tq_116 : (pc_116.all (fun q => !ck_isT q.2.1 q.2.2.2.1)) = true := by decide +kernel
theorem al_116 : al_P 116 := ⟨tb_116, fun pc i len x y h => ck_lookup (P := fun pc v => am_ok am_NM 116 pc v.1 v.2.1 v.2.2.1 v.2.2.2) (ck_list2 ck_codes_ok (hs := ph_116) (by decide +kernel) ch_116 (fun q hq ht => absurd ht (by have := List.all_eq_true.mp tq_116 q hq; simpa using this))) h⟩
theorem tb_117 : am_tabok 117 := fun q hq => absurd (show q ∈ ([] : List (Nat × Nat × Nat × Nat × Nat)) from hq) List.not_mem_nil
theorem tq_117 : (pc_117.all (fun q => !ck_isT q.2.1 q.2.2.2.1)) = true := by decide +kernel
theorem al_117 : al_P 117 := ⟨tb_117, fun pc i len x y h => ck_lookup (P := fun pc v => am_ok am_NM 117 pc v.1 v.2.1 v.2.2.1 v.2.2.2) (ck_list2 ck_codes_ok (hs := ph_117) (by decide +kernel) ch_117 (fun q hq ht => absurd ht (by have := List.all_eq_true.mp tq_117 q hq; simpa using this))) h⟩
theorem tb_118 : am_tabok 118 := fun q hq => absurd (show q ∈ ([] : List (Nat × Nat × Nat × Nat × Nat)) from hq) List.not_mem_nil
theorem tq_118 : (pc_118.all (fun q => !ck_isT q.2.1 q.2.2.2.1)) = true := by decide +kernel
theorem al_118 : al_P 118 := ⟨tb_118, fun pc i len x y h => ck_lookup (P := fun pc v => am_ok am_NM 118 pc v.1 v.2.1 v.2.2.1 v.2.2.2) (ck_list2 ck_codes_ok (hs := ph_118) (by decide +kernel) ch_118 (fun q hq ht => absurd ht (by have := List.all_eq_true.mp tq_118 q hq; simpa using this))) h⟩
theorem tb_119 : am_tabok 119 := fun q hq => absurd (show q ∈ ([] : List (Nat × Nat × Nat × Nat × Nat)) from hq) List.not_mem_nil
theorem tq_119 : (pc_119.all (fun q => !ck_isT q.2.1 q.2.2.2.1)) = true := by decide +kernel
theorem al_119 : al_P 119 := ⟨tb_119, fun pc i len x y h => ck_lookup (P := fun pc v => am_ok am_NM 119 pc v.1 v.2.1 v.2.2.1 v.2.2.2) (ck_list2 ck_codes_ok (hs := ph_119) (by decide +kernel) ch_119 (fun q hq ht => absurd ht (by have := List.all_eq_true.mp tq_119 q hq; simpa using this))) h⟩
theorem tb_120 : am_tabok 120 := fun q hq => absurd (show q ∈ ([] : List (Nat × Nat × Nat × Nat × Nat)) from hq) List.not_mem_nil
theorem tq_120 : (pc_120.all (fun q => !ck_isT q.2.1 q.2.2.2.1)) = true := by decide +kernel
theorem al_120 : al_P 120 := ⟨tb_120, fun pc i len x y h => ck_lookup (P := fun pc v => am_ok am_NM 120 pc v.1 v.2.1 v.2.2.1 v.2.2.2) (ck_list2 ck_codes_ok (hs := ph_120) (by decide +kernel) ch_120 (fun q hq ht => absurd ht (by have := List.all_eq_true.mp tq_120 q hq; simpa using this))) h⟩
theorem tb_121 : am_tabok 121 := fun q hq => absurd (show q ∈ ([] : List (Nat × Nat × Nat × Nat × Nat)) from hq) List.not_mem_nil
theorem tq_121 : (pc_121.all (fun q => !ck_isT q.2.1 q.2.2.2.1)) = true := by decide +kernel
theorem al_121 : al_P 121 := ⟨tb_121, fun pc i len x y h => ck_lookup (P := fun pc v => am_ok am_NM 121 pc v.1 v.2.1 v.2.2.1 v.2.2.2) (ck_list2 ck_codes_ok (hs := ph_121) (by decide +kernel) ch_121 (fun q hq ht => absurd ht (by have := List.all_eq_true.mp tq_121 q hq; simpa using this))) h⟩
theorem tb_122 : am_tabok 122 := fun q hq => absurd (show q ∈ ([] : List (Nat × Nat × Nat × Nat × Nat)) from hq) List.not_mem_nil
theorem tq_122 : (pc_122.all (fun q => !ck_isT q.2.1 q.2.2.2.1)) = true := by decide +kernel
theorem al_122 : al_P 122 := ⟨tb_122, fun pc i len x y h => ck_lookup (P := fun pc v => am_ok am_NM 122 pc v.1 v.2.1 v.2.2.1 v.2.2.2) (ck_list2 ck_codes_ok (hs := ph_122) (by decide +kernel) ch_122 (fun q hq ht => absurd ht (by have := List.all_eq_true.mp tq_122 q hq; simpa using this))) h⟩
theorem tb_123 : am_tabok 123 := fun q hq => absurd (show q ∈ ([] : List (Nat × Nat × Nat × Nat × Nat)) from hq) List.not_mem_nil
theorem tq_123 : (pc_123.all (fun q => !ck_isT q.2.1 q.2.2.2.1)) = true := by decide +kernel
theorem al_123 : al_P 123 := ⟨tb_123, fun pc i len x y h => ck_lookup (P := fun pc v => am_ok am_NM 123 pc v.1 v.2.1 v.2.2.1 v.2.2.2) (ck_list2 ck_codes_ok (hs := ph_123) (by decide +kernel) ch_123 (fun q hq ht => absurd ht (by have := List.all_eq_true.mp tq_123 q hq; simpa using this))) h⟩
theorem tb_124 : am_tabok 124 := fun q hq => absurd (show q ∈ ([] : List (Nat × Nat × Nat × Nat × Nat)) from hq) List.not_mem_nil
theorem tq_124 : (pc_124.all (fun q => !ck_isT q.2.1 q.2.2.2.1)) = true := by decide +kernel
theorem al_124 : al_P 124 := ⟨tb_124, fun pc i len x y h => ck_lookup (P := fun pc v => am_ok am_NM 124 pc v.1 v.2.1 v.2.2.1 v.2.2.2) (ck_list2 ck_codes_ok (hs := ph_124) (by decide +kernel) ch_124 (fun q hq ht => absurd ht (by have := List.all_eq_true.mp tq_124 q hq; simpa using this))) h⟩
theorem tb_125 : am_tabok 125 := fun q hq => absurd (show q ∈ ([] : List (Nat × Nat × Nat × Nat × Nat)) from hq) List.not_mem_nil
theorem tq_125 : (pc_125.all (fun q => !ck_isT q.2.1 q.2.2.2.1)) = true := by decide +kernel
theorem al_125 : al_P 125 := ⟨tb_125, fun pc i len x y h => ck_lookup (P := fun pc v => am_ok am_NM 125 pc v.1 v.2.1 v.2.2.1 v.2.2.2) (ck_list2 ck_codes_ok (hs := ph_125) (by decide +kernel) ch_125 (fun q hq ht => absurd ht (by have := List.all_eq_true.mp tq_125 q hq; simpa using this))) h⟩
theorem tb_126 : am_tabok 126 := fun q hq => absurd (show q ∈ ([] : List (Nat × Nat × Nat × Nat × Nat)) from hq) List.not_mem_nil
theorem tq_126 : (pc_126.all (fun q => !ck_isT q.2.1 q.2.2.2.1)) = true := by decide +kernel
theorem al_126 : al_P 126 := ⟨tb_126, fun pc i len x y h => ck_lookup (P := fun pc v => am_ok am_NM 126 pc v.1 v.2.1 v.2.2.1 v.2.2.2) (ck_list2 ck_codes_ok (hs := ph_126) (by decide +kernel) ch_126 (fun q hq ht => absurd ht (by have := List.all_eq_true.mp tq_126 q hq; simpa using this))) h⟩
theorem tb_127 : am_tabok 127 := fun q hq => absurd (show q ∈ ([] : List (Nat × Nat × Nat × Nat × Nat)) from hq) List.not_mem_nil
theorem tq_127 : (pc_127.all (fun q => !ck_isT q.2.1 q.2.2.2.1)) = true := by decide +kernel
theorem al_127 : al_P 127 := ⟨tb_127, fun pc i len x y h => ck_lookup (P := fun pc v => am_ok am_NM 127 pc v.1 v.2.1 v.2.2.1 v.2.2.2) (ck_list2 ck_codes_ok (hs := ph_127) (by decide +kernel) ch_127 (fun q hq ht => absurd ht (by have := List.all_eq_true.mp tq_127 q hq; simpa using this))) h⟩
theorem tb_128 : am_tabok 128 := fun q hq => absurd (show q ∈ ([] : List (Nat × Nat × Nat × Nat × Nat)) from hq) List.not_mem_nil
theorem tq_128 : (pc_128.all (fun q => !ck_isT q.2.1 q.2.2.2.1)) = true := by decide +kernel
theorem al_128 : al_P 128 := ⟨tb_128, fun pc i len x y h => ck_lookup (P := fun pc v => am_ok am_NM 128 pc v.1 v.2.1 v.2.2.1 v.2.2.2) (ck_list2 ck_codes_ok (hs := ph_128) (by decide +kernel) ch_128 (fun q hq ht => absurd ht (by have := List.all_eq_true.mp tq_128 q hq; simpa using this))) h⟩
theorem tb_129 : am_tabok 129 := fun q hq => absurd (show q ∈ ([] : List (Nat × Nat × Nat × Nat × Nat)) from hq) List.not_mem_nil
theorem tq_129_0 : (pc_129_0.all (fun q => !ck_isT q.2.1 q.2.2.2.1)) = true := by decide +kernel
theorem tq_129_1 : (pc_129_1.all (fun q => !ck_isT q.2.1 q.2.2.2.1)) = true := by decide +kernel
theorem tq_129_2 : (pc_129_2.all (fun q => !ck_isT q.2.1 q.2.2.2.1)) = true := by decide +kernel
theorem tq_129_3 : (pc_129_3.all (fun q => !ck_isT q.2.1 q.2.2.2.1)) = true := by decide +kernel
theorem tq_129_4 : (pc_129_4.all (fun q => !ck_isT q.2.1 q.2.2.2.1)) = true := by decide +kernel
theorem tq_129_5 : (pc_129_5.all (fun q => !ck_isT q.2.1 q.2.2.2.1)) = true := by decide +kernel
theorem tq_129_6 : (pc_129_6.all (fun q => !ck_isT q.2.1 q.2.2.2.1)) = true := by decide +kernel
theorem tq_129_7 : (pc_129_7.all (fun q => !ck_isT q.2.1 q.2.2.2.1)) = true := by decide +kernel
theorem tq_129_8 : (pc_129_8.all (fun q => !ck_isT q.2.1 q.2.2.2.1)) = true := by decide +kernel
theorem tq_129_9 : (pc_129_9.all (fun q => !ck_isT q.2.1 q.2.2.2.1)) = true := by decide +kernel
theorem tq_129_10 : (pc_129_10.all (fun q => !ck_isT q.2.1 q.2.2.2.1)) = true := by decide +kernel
theorem tq_129_11 : (pc_129_11.all (fun q => !ck_isT q.2.1 q.2.2.2.1)) = true := by decide +kernel
theorem tq_129_12 : (pc_129_12.all (fun q => !ck_isT q.2.1 q.2.2.2.1)) = true := by decide +kernel
theorem tq_129_13 : (pc_129_13.all (fun q => !ck_isT q.2.1 q.2.2.2.1)) = true := by decide +kernel
theorem tq_129_14 : (pc_129_14.all (fun q => !ck_isT q.2.1 q.2.2.2.1)) = true := by decide +kernel
theorem tq_129_15 : (pc_129_15.all (fun q => !ck_isT q.2.1 q.2.2.2.1)) = true := by decide +kernel
theorem tq_129_16 : (pc_129_16.all (fun q => !ck_isT q.2.1 q.2.2.2.1)) = true := by decide +kernel
theorem tq_129_17 : (pc_129_17.all (fun q => !ck_isT q.2.1 q.2.2.2.1)) = true := by decide +kernel
theorem tq_129_18 : (pc_129_18.all (fun q => !ck_isT q.2.1 q.2.2.2.1)) = true := by decide +kernel
theorem tq_129_19 : (pc_129_19.all (fun q => !ck_isT q.2.1 q.2.2.2.1)) = true := by decide +kernel
theorem tl_129 : ∀ q ∈ pc_129, am_ok am_NM 129 q.1 q.2.1 q.2.2.1 q.2.2.2.1 q.2.2.2.2 := by
  unfold pc_129
  have h0 : ∀ q ∈ pc_129_0, am_ok am_NM 129 q.1 q.2.1 q.2.2.1 q.2.2.2.1 q.2.2.2.2 := ck_list2 ck_codes_ok (hs := ph_129_0) (by decide +kernel) ch_129_0 (fun q hq ht => absurd ht (by have := List.all_eq_true.mp tq_129_0 q hq; simpa using this))
  have h1 : ∀ q ∈ pc_129_1, am_ok am_NM 129 q.1 q.2.1 q.2.2.1 q.2.2.2.1 q.2.2.2.2 := ck_list2 ck_codes_ok (hs := ph_129_1) (by decide +kernel) ch_129_1 (fun q hq ht => absurd ht (by have := List.all_eq_true.mp tq_129_1 q hq; simpa using this))
  have h2 : ∀ q ∈ pc_129_2, am_ok am_NM 129 q.1 q.2.1 q.2.2.1 q.2.2.2.1 q.2.2.2.2 := ck_list2 ck_codes_ok (hs := ph_129_2) (by decide +kernel) ch_129_2 (fun q hq ht => absurd ht (by have := List.all_eq_true.mp tq_129_2 q hq; simpa using this))
  have h3 : ∀ q ∈ pc_129_3, am_ok am_NM 129 q.1 q.2.1 q.2.2.1 q.2.2.2.1 q.2.2.2.2 := ck_list2 ck_codes_ok (hs := ph_129_3) (by decide +kernel) ch_129_3 (fun q hq ht => absurd ht (by have := List.all_eq_true.mp tq_129_3 q hq; simpa using this))
  have h4 : ∀ q ∈ pc_129_4, am_ok am_NM 129 q.1 q.2.1 q.2.2.1 q.2.2.2.1 q.2.2.2.2 := ck_list2 ck_codes_ok (hs := ph_129_4) (by decide +kernel) ch_129_4 (fun q hq ht => absurd ht (by have := List.all_eq_true.mp tq_129_4 q hq; simpa using this))
  have h5 : ∀ q ∈ pc_129_5, am_ok am_NM 129 q.1 q.2.1 q.2.2.1 q.2.2.2.1 q.2.2.2.2 := ck_list2 ck_codes_ok (hs := ph_129_5) (by decide +kernel) ch_129_5 (fun q hq ht => absurd ht (by have := List.all_eq_true.mp tq_129_5 q hq; simpa using this))
  have h6 : ∀ q ∈ pc_129_6, am_ok am_NM 129 q.1 q.2.1 q.2.2.1 q.2.2.2.1 q.2.2.2.2 := ck_list2 ck_codes_ok (hs := ph_129_6) (by decide +kernel) ch_129_6 (fun q hq ht => absurd ht (by have := List.all_eq_true.mp tq_129_6 q hq; simpa using this))
  have h7 : ∀ q ∈ pc_129_7, am_ok am_NM 129 q.1 q.2.1 q.2.2.1 q.2.2.2.1 q.2.2.2.2 := ck_list2 ck_codes_ok (hs := ph_129_7) (by decide +kernel) ch_129_7 (fun q hq ht => absurd ht (by have := List.all_eq_true.mp tq_129_7 q hq; simpa using this))
  have h8 : ∀ q ∈ pc_129_8, am_ok am_NM 129 q.1 q.2.1 q.2.2.1 q.2.2.2.1 q.2.2.2.2 := ck_list2 ck_codes_ok (hs := ph_129_8) (by decide +kernel) ch_129_8 (fun q hq ht => absurd ht (by have := List.all_eq_true.mp tq_129_8 q hq; simpa using this))
  have h9 : ∀ q ∈ pc_129_9, am_ok am_NM 129 q.1 q.2.1 q.2.2.1 q.2.2.2.1 q.2.2.2.2 := ck_list2 ck_codes_ok (hs := ph_129_9) (by decide +kernel) ch_129_9 (fun q hq ht => absurd ht (by have := List.all_eq_true.mp tq_129_9 q hq; simpa using this))
  have h10 : ∀ q ∈ pc_129_10, am_ok am_NM 129 q.1 q.2.1 q.2.2.1 q.2.2.2.1 q.2.2.2.2 := ck_list2 ck_codes_ok (hs := ph_129_10) (by decide +kernel) ch_129_10 (fun q hq ht => absurd ht (by have := List.all_eq_true.mp tq_129_10 q hq; simpa using this))
  have h11 : ∀ q ∈ pc_129_11, am_ok am_NM 129 q.1 q.2.1 q.2.2.1 q.2.2.2.1 q.2.2.2.2 := ck_list2 ck_codes_ok (hs := ph_129_11) (by decide +kernel) ch_129_11 (fun q hq ht => absurd ht (by have := List.all_eq_true.mp tq_129_11 q hq; simpa using this))
  have h12 : ∀ q ∈ pc_129_12, am_ok am_NM 129 q.1 q.2.1 q.2.2.1 q.2.2.2.1 q.2.2.2.2 := ck_list2 ck_codes_ok (hs := ph_129_12) (by decide +kernel) ch_129_12 (fun q hq ht => absurd ht (by have := List.all_eq_true.mp tq_129_12 q hq; simpa using this))
  have h13 : ∀ q ∈ pc_129_13, am_ok am_NM 129 q.1 q.2.1 q.2.2.1 q.2.2.2.1 q.2.2.2.2 := ck_list2 ck_codes_ok (hs := ph_129_13) (by decide +kernel) ch_129_13 (fun q hq ht => absurd ht (by have := List.all_eq_true.mp tq_129_13 q hq; simpa using this))
  have h14 : ∀ q ∈ pc_129_14, am_ok am_NM 129 q.1 q.2.1 q.2.2.1 q.2.2.2.1 q.2.2.2.2 := ck_list2 ck_codes_ok (hs := ph_129_14) (by decide +kernel) ch_129_14 (fun q hq ht => absurd ht (by have := List.all_eq_true.mp tq_129_14 q hq; simpa using this))
  have h15 : ∀ q ∈ pc_129_15, am_ok am_NM 129 q.1 q.2.1 q.2.2.1 q.2.2.2.1 q.2.2.2.2 := ck_list2 ck_codes_ok (hs := ph_129_15) (by decide +kernel) ch_129_15 (fun q hq ht => absurd ht (by have := List.all_eq_true.mp tq_129_15 q hq; simpa using this))
  have h16 : ∀ q ∈ pc_129_16, am_ok am_NM 129 q.1 q.2.1 q.2.2.1 q.2.2.2.1 q.2.2.2.2 := ck_list2 ck_codes_ok (hs := ph_129_16) (by decide +kernel) ch_129_16 (fun q hq ht => absurd ht (by have := List.all_eq_true.mp tq_129_16 q hq; simpa using this))
  have h17 : ∀ q ∈ pc_129_17, am_ok am_NM 129 q.1 q.2.1 q.2.2.1 q.2.2.2.1 q.2.2.2.2 := ck_list2 ck_codes_ok (hs := ph_129_17) (by decide +kernel) ch_129_17 (fun q hq ht => absurd ht (by have := List.all_eq_true.mp tq_129_17 q hq; simpa using this))
  have h18 : ∀ q ∈ pc_129_18, am_ok am_NM 129 q.1 q.2.1 q.2.2.1 q.2.2.2.1 q.2.2.2.2 := ck_list2 ck_codes_ok (hs := ph_129_18) (by decide +kernel) ch_129_18 (fun q hq ht => absurd ht (by have := List.all_eq_true.mp tq_129_18 q hq; simpa using this))
  have h19 : ∀ q ∈ pc_129_19, am_ok am_NM 129 q.1 q.2.1 q.2.2.1 q.2.2.2.1 q.2.2.2.2 := ck_list2 ck_codes_ok (hs := ph_129_19) (by decide +kernel) ch_129_19 (fun q hq ht => absurd ht (by have := List.all_eq_true.mp tq_129_19 q hq; simpa using this))
  exact List.forall_mem_append.mpr ⟨h0, List.forall_mem_append.mpr ⟨h1, List.forall_mem_append.mpr ⟨h2, List.forall_mem_append.mpr ⟨h3, List.forall_mem_append.mpr ⟨h4, List.forall_mem_append.mpr ⟨h5, List.forall_mem_append.mpr ⟨h6, List.forall_mem_append.mpr ⟨h7, List.forall_mem_append.mpr ⟨h8, List.forall_mem_append.mpr ⟨h9, List.forall_mem_append.mpr ⟨h10, List.forall_mem_append.mpr ⟨h11, List.forall_mem_append.mpr ⟨h12, List.forall_mem_append.mpr ⟨h13, List.forall_mem_append.mpr ⟨h14, List.forall_mem_append.mpr ⟨h15, List.forall_mem_append.mpr ⟨h16, List.forall_mem_append.mpr ⟨h17, List.forall_mem_append.mpr ⟨h18, h19⟩⟩⟩⟩⟩⟩⟩⟩⟩⟩⟩⟩⟩⟩⟩⟩⟩⟩⟩
theorem al_129 : al_P 129 := ⟨tb_129, fun pc i len x y h => ck_lookup (P := fun pc v => am_ok am_NM 129 pc v.1 v.2.1 v.2.2.1 v.2.2.2) tl_129 h⟩
theorem ax_0 : ∀ a, a < 0 → al_P a := lt_0
theorem ax_1 : ∀ a, a < 1 → al_P a := lt_s ax_0 al_0
theorem ax_2 : ∀ a, a < 2 → al_P a := lt_s ax_1 al_1
theorem ax_3 : ∀ a, a < 3 → al_P a := lt_s ax_2 al_2
theorem ax_4 : ∀ a, a < 4 → al_P a := lt_s ax_3 al_3
theorem ax_5 : ∀ a, a < 5 → al_P a := lt_s ax_4 al_4
theorem ax_6 : ∀ a, a < 6 → al_P a := lt_s ax_5 al_5
theorem ax_7 : ∀ a, a < 7 → al_P a := lt_s ax_6 al_6
theorem ax_8 : ∀ a, a < 8 → al_P a := lt_s ax_7 al_7
theorem ax_9 : ∀ a, a < 9 → al_P a := lt_s ax_8 al_8
theorem ax_10 : ∀ a, a < 10 → al_P a := lt_s ax_9 al_9
theorem ax_11 : ∀ a, a < 11 → al_P a := lt_s ax_10 al_10
theorem ax_12 : ∀ a, a < 12 → al_P a := lt_s ax_11 al_11
theorem ax_13 : ∀ a, a < 13 → al_P a := lt_s ax_12 al_12
theorem ax_14 : ∀ a, a < 14 → al_P a := lt_s ax_13 al_13
theorem ax_15 : ∀ a, a < 15 → al_P a := lt_s ax_14 al_14
theorem ax_16 : ∀ a, a < 16 → al_P a := lt_s ax_15 al_15
theorem ax_17 : ∀ a, a < 17 → al_P a := lt_s ax_16 al_16
theorem ax_18 : ∀ a, a < 18 → al_P a := lt_s ax_17 al_17
theorem ax_19 : ∀ a, a < 19 → al_P a := lt_s ax_18 al_18
theorem ax_20 : ∀ a, a < 20 → al_P a := lt_s ax_19 al_19
theorem ax_21 : ∀ a, a < 21 → al_P a := lt_s ax_20 al_20
theorem ax_22 : ∀ a, a < 22 → al_P a := lt_s ax_21 al_21
theorem ax_23 : ∀ a, a < 23 → al_P a := lt_s ax_22 al_22
theorem ax_24 : ∀ a, a < 24 → al_P a := lt_s ax_23 al_23
theorem ax_25 : ∀ a, a < 25 → al_P a := lt_s ax_24 al_24
theorem ax_26 : ∀ a, a < 26 → al_P a := lt_s ax_25 al_25
theorem ax_27 : ∀ a, a < 27 → al_P a := lt_s ax_26 al_26
theorem ax_28 : ∀ a, a < 28 → al_P a := lt_s ax_27 al_27
theorem ax_29 : ∀ a, a < 29 → al_P a := lt_s ax_28 al_28
theorem ax_30 : ∀ a, a < 30 → al_P a := lt_s ax_29 al_29
theorem ax_31 : ∀ a, a < 31 → al_P a := lt_s ax_30 al_30
theorem ax_32 : ∀ a, a < 32 → al_P a := lt_s ax_31 al_31
theorem ax_33 : ∀ a, a < 33 → al_P a := lt_s ax_32 al_32
theorem ax_34 : ∀ a, a < 34 → al_P a := lt_s ax_33 al_33
theorem ax_35 : ∀ a, a < 35 → al_P a := lt_s ax_34 al_34
theorem ax_36 : ∀ a, a < 36 → al_P a := lt_s ax_35 al_35
theorem ax_37 : ∀ a, a < 37 → al_P a := lt_s ax_36 al_36
theorem ax_38 : ∀ a, a < 38 → al_P a := lt_s ax_37 al_37
theorem ax_39 : ∀ a, a < 39 → al_P a := lt_s ax_38 al_38
theorem ax_40 : ∀ a, a < 40 → al_P a := lt_s ax_39 al_39
theorem ax_41 : ∀ a, a < 41 → al_P a := lt_s ax_40 al_40
theorem ax_42 : ∀ a, a < 42 → al_P a := lt_s ax_41 al_41
theorem ax_43 : ∀ a, a < 43 → al_P a := lt_s ax_42 al_42
theorem ax_44 : ∀ a, a < 44 → al_P a := lt_s ax_43 al_43
theorem ax_45 : ∀ a, a < 45 → al_P a := lt_s ax_44 al_44
theorem ax_46 : ∀ a, a < 46 → al_P a := lt_s ax_45 al_45
theorem ax_47 : ∀ a, a < 47 → al_P a := lt_s ax_46 al_46
theorem ax_48 : ∀ a, a < 48 → al_P a := lt_s ax_47 al_47
theorem ax_49 : ∀ a, a < 49 → al_P a := lt_s ax_48 al_48
theorem ax_50 : ∀ a, a < 50 → al_P a := lt_s ax_49 al_49
theorem ax_51 : ∀ a, a < 51 → al_P a := lt_s ax_50 al_50
theorem ax_52 : ∀ a, a < 52 → al_P a := lt_s ax_51 al_51
theorem ax_53 : ∀ a, a < 53 → al_P a := lt_s ax_52 al_52
theorem ax_54 : ∀ a, a < 54 → al_P a := lt_s ax_53 al_53
theorem ax_55 : ∀ a, a < 55 → al_P a := lt_s ax_54 al_54
theorem ax_56 : ∀ a, a < 56 → al_P a := lt_s ax_55 al_55
theorem ax_57 : ∀ a, a < 57 → al_P a := lt_s ax_56 al_56
theorem ax_58 : ∀ a, a < 58 → al_P a := lt_s ax_57 al_57
theorem ax_59 : ∀ a, a < 59 → al_P a := lt_s ax_58 al_58
theorem ax_60 : ∀ a, a < 60 → al_P a := lt_s ax_59 al_59
theorem ax_61 : ∀ a, a < 61 → al_P a := lt_s ax_60 al_60
theorem ax_62 : ∀ a, a < 62 → al_P a := lt_s ax_61 al_61
theorem ax_63 : ∀ a, a < 63 → al_P a := lt_s ax_62 al_62
theorem ax_64 : ∀ a, a < 64 → al_P a := lt_s ax_63 al_63
theorem ax_65 : ∀ a, a < 65 → al_P a := lt_s ax_64 al_64
theorem ax_66 : ∀ a, a < 66 → al_P a := lt_s ax_65 al_65
theorem ax_67 : ∀ a, a < 67 → al_P a := lt_s ax_66 al_66
theorem ax_68 : ∀ a, a < 68 → al_P a := lt_s ax_67 al_67
theorem ax_69 : ∀ a, a < 69 → al_P a := lt_s ax_68 al_68
theorem ax_70 : ∀ a, a < 70 → al_P a := lt_s ax_69 al_69
theorem ax_71 : ∀ a, a < 71 → al_P a := lt_s ax_70 al_70
theorem ax_72 : ∀ a, a < 72 → al_P a := lt_s ax_71 al_71
theorem ax_73 : ∀ a, a < 73 → al_P a := lt_s ax_72 al_72
theorem ax_74 : ∀ a, a < 74 → al_P a := lt_s ax_73 al_73
theorem ax_75 : ∀ a, a < 75 → al_P a := lt_s ax_74 al_74
theorem ax_76 : ∀ a, a < 76 → al_P a := lt_s ax_75 al_75
theorem ax_77 : ∀ a, a < 77 → al_P a := lt_s ax_76 al_76
theorem ax_78 : ∀ a, a < 78 → al_P a := lt_s ax_77 al_77
theorem ax_79 : ∀ a, a < 79 → al_P a := lt_s ax_78 al_78
theorem ax_80 : ∀ a, a < 80 → al_P a := lt_s ax_79 al_79
theorem ax_81 : ∀ a, a < 81 → al_P a := lt_s ax_80 al_80
theorem ax_82 : ∀ a, a < 82 → al_P a := lt_s ax_81 al_81
theorem ax_83 : ∀ a, a < 83 → al_P a := lt_s ax_82 al_82
theorem ax_84 : ∀ a, a < 84 → al_P a := lt_s ax_83 al_83
theorem ax_85 : ∀ a, a < 85 → al_P a := lt_s ax_84 al_84
theorem ax_86 : ∀ a, a < 86 → al_P a := lt_s ax_85 al_85
theorem ax_87 : ∀ a, a < 87 → al_P a := lt_s ax_86 al_86
theorem ax_88 : ∀ a, a < 88 → al_P a := lt_s ax_87 al_87
theorem ax_89 : ∀ a, a < 89 → al_P a := lt_s ax_88 al_88
theorem ax_90 : ∀ a, a < 90 → al_P a := lt_s ax_89 al_89
theorem ax_91 : ∀ a, a < 91 → al_P a := lt_s ax_90 al_90
theorem ax_92 : ∀ a, a < 92 → al_P a := lt_s ax_91 al_91
theorem ax_93 : ∀ a, a < 93 → al_P a := lt_s ax_92 al_92
theorem ax_94 : ∀ a, a < 94 → al_P a := lt_s ax_93 al_93
theorem ax_95 : ∀ a, a < 95 → al_P a := lt_s ax_94 al_94
theorem ax_96 : ∀ a, a < 96 → al_P a := lt_s ax_95 al_95
theorem ax_97 : ∀ a, a < 97 → al_P a := lt_s ax_96 al_96
theorem ax_98 : ∀ a, a < 98 → al_P a := lt_s ax_97 al_97
theorem ax_99 : ∀ a, a < 99 → al_P a := lt_s ax_98 al_98
theorem ax_100 : ∀ a, a < 100 → al_P a := lt_s ax_99 al_99
theorem ax_101 : ∀ a, a < 101 → al_P a := lt_s ax_100 al_100
theorem ax_102 : ∀ a, a < 102 → al_P a := lt_s ax_101 al_101
theorem ax_103 : ∀ a, a < 103 → al_P a := lt_s ax_102 al_102
theorem ax_104 : ∀ a, a < 104 → al_P a := lt_s ax_103 al_103
theorem ax_105 : ∀ a, a < 105 → al_P a := lt_s ax_104 al_104
theorem ax_106 : ∀ a, a < 106 → al_P a := lt_s ax_105 al_105
theorem ax_107 : ∀ a, a < 107 → al_P a := lt_s ax_106 al_106
theorem ax_108 : ∀ a, a < 108 → al_P a := lt_s ax_107 al_107
theorem ax_109 : ∀ a, a < 109 → al_P a := lt_s ax_108 al_108
theorem ax_110 : ∀ a, a < 110 → al_P a := lt_s ax_109 al_109
theorem ax_111 : ∀ a, a < 111 → al_P a := lt_s ax_110 al_110
theorem ax_112 : ∀ a, a < 112 → al_P a := lt_s ax_111 al_111
theorem ax_113 : ∀ a, a < 113 → al_P a := lt_s ax_112 al_112
theorem ax_114 : ∀ a, a < 114 → al_P a := lt_s ax_113 al_113
theorem ax_115 : ∀ a, a < 115 → al_P a := lt_s ax_114 al_114
theorem ax_116 : ∀ a, a < 116 → al_P a := lt_s ax_115 al_115
theorem ax_117 : ∀ a, a < 117 → al_P a := lt_s ax_116 al_116
theorem ax_118 : ∀ a, a < 118 → al_P a := lt_s ax_117 al_117
theorem ax_119 : ∀ a, a < 119 → al_P a := lt_s ax_118 al_118
theorem ax_120 : ∀ a, a < 120 → al_P a := lt_s ax_119 al_119
theorem ax_121 : ∀ a, a < 121 → al_P a := lt_s ax_120 al_120
theorem ax_122 : ∀ a, a < 122 → al_P a := lt_s ax_121 al_121
theorem ax_123 : ∀ a, a < 123 → al_P a := lt_s ax_122 al_122
theorem ax_124 : ∀ a, a < 124 → al_P a := lt_s ax_123 al_123
theorem ax_125 : ∀ a, a < 125 → al_P a := lt_s ax_124 al_124
theorem ax_126 : ∀ a, a < 126 → al_P a := lt_s ax_125 al_125
theorem ax_127 : ∀ a, a < 127 → al_P a := lt_s ax_126 al_126
theorem ax_128 : ∀ a, a < 128 → al_P a := lt_s ax_127 al_127
theorem ax_129 : ∀ a, a < 129 → al_P a := lt_s ax_128 al_128
theorem ax_130 : ∀ a, a < 130 → al_P a := lt_s ax_129 al_129
set_option maxRecDepth 100000 in
theorem ac_0 : am_clsok 0 (pg_cname 0) pg_T0 (pg_nf 0) := ⟨by decide +kernel, by decide +kernel, by decide +kernel, rfl, rfl, by decide +kernel, by decide +kernel⟩
set_option maxRecDepth 100000 in
theorem ac_1 : am_clsok 1 (pg_cname 1) pg_T1 (pg_nf 1) := ⟨by decide +kernel, by decide +kernel, by decide +kernel, rfl, rfl, by decide +kernel, by decide +kernel⟩
set_option maxRecDepth 100000 in
theorem ac_2 : am_clsok 2 (pg_cname 2) pg_T2 (pg_nf 2) := ⟨by decide +kernel, by decide +kernel, by decide +kernel, rfl, rfl, by decide +kernel, by decide +kernel⟩
set_option maxRecDepth 100000 in
theorem ac_3 : am_clsok 3 (pg_cname 3) pg_T3 (pg_nf 3) := ⟨by decide +kernel, by decide +kernel, by decide +kernel, rfl, rfl, by decide +kernel, by decide +kernel⟩
set_option maxRecDepth 100000 in
theorem ac_4 : am_clsok 4 (pg_cname 4) pg_T4 (pg_nf 4) := ⟨by decide +kernel, by decide +kernel, by decide +kernel, rfl, rfl, by decide +kernel, by decide +kernel⟩
set_option maxRecDepth 100000 in
theorem ac_5 : am_clsok 5 (pg_cname 5) pg_T5 (pg_nf 5) := ⟨by decide +kernel, by decide +kernel, by decide +kernel, rfl, rfl, by decide +kernel, by decide +kernel⟩
set_option maxRecDepth 100000 in
theorem ac_6 : am_clsok 6 (pg_cname 6) pg_T6 (pg_nf 6) := ⟨by decide +kernel, by decide +kernel, by decide +kernel, rfl, rfl, by decide +kernel, by decide +kernel⟩
set_option maxRecDepth 100000 in
theorem ac_7 : am_clsok 7 (pg_cname 7) pg_T7 (pg_nf 7) := ⟨by decide +kernel, by decide +kernel, by decide +kernel, rfl, rfl, by decide +kernel, by decide +kernel⟩
theorem am_clsall_ok : am_clsall := by
  intro ci q hq
  match ci, hq with
  | 0, hq => cases hq; exact ac_0
  | 1, hq => cases hq; exact ac_1
  | 2, hq => cases hq; exact ac_2
  | 3, hq => cases hq; exact ac_3
  | 4, hq => cases hq; exact ac_4
  | 5, hq => cases hq; exact ac_5
  | 6, hq => cases hq; exact ac_6
  | 7, hq => cases hq; exact ac_7
  | n + 8, hq => exact absurd hq (by simp [pg_classes])
theorem am_all_ok : am_all am_NM := ⟨am_clsall_ok, fun k hk => ax_130 k hk⟩

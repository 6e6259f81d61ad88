-- PRINTED by wip/whole/gen.py: a row an instruction: where the machine stands behind it
section Steps
variable {G : am_G} {d : Nat} {K : am_K} {h : am_H} {nc ns : Nat}
theorem e_129_0 : pg_code 129 0 = some (.new 8, 3, 0, 0) := by decide +kernel
theorem e_129_3 : pg_code 129 3 = some (.dup, 1, 0, 0) := by decide +kernel
theorem u_129_3 {a : Nat} {lv : am_L} {st : List Value} : am_W G (am_M G d) 129 K 3 lv (.ref a :: st) h nc ns = (am_W G (am_M G d) 129 K 4 lv (.ref a :: .ref a :: st) h nc ns) := (am_u e_129_3).trans (f_t rfl)
theorem e_129_4 : pg_code 129 4 = some (.invokespecial 72, 3, 0, 1) := by decide +kernel
theorem u_129_4 {a : Nat} {lv : am_L} {st : List Value} : am_W G (am_M G d) 129 K 4 lv (.ref a :: st) h nc ns = ((am_words st ≤ 8 ∧ nc + 321 ≤ 601024 ∧ ns + 36713 ≤ 7293034 ∧ f_rc (h a) 0) ∧ am_M G d 0 [.ref a] h (am_back 129 K (am_W G (am_M G d) 129 K) 0 4 lv st nc ns)) := (am_u e_129_4).trans (f_iv_eq (a := a) (G := G) (d := d) (k := 129) (K := K) (pc := 4) (lv := lv) (st := st) (h := h) (nc := nc) (ns := ns) (x := 0) (X := am_W G (am_M G d) 129 K) [] (by decide) rfl)
theorem e_129_7 : pg_code 129 7 = some (.astore_n 1, 1, 0, 0) := by decide +kernel
theorem u_129_7 {a : Nat} {lv : am_L} {st : List Value} : am_W G (am_M G d) 129 K 7 lv (.ref a :: st) h nc ns = (am_W G (am_M G d) 129 K 8 (am_st1 lv 1 (.ref a)) st h nc ns) := (am_u e_129_7).trans (f_t (by decide +kernel))
theorem e_129_8 : pg_code 129 8 = some (.new 73, 3, 7, 0) := by decide +kernel
theorem e_129_11 : pg_code 129 11 = some (.dup, 1, 0, 0) := by decide +kernel
theorem u_129_11 {a : Nat} {lv : am_L} {st : List Value} : am_W G (am_M G d) 129 K 11 lv (.ref a :: st) h nc ns = (am_W G (am_M G d) 129 K 12 lv (.ref a :: .ref a :: st) h nc ns) := (am_u e_129_11).trans (f_t rfl)
theorem e_129_12 : pg_code 129 12 = some (.invokespecial 75, 3, 82, 1) := by decide +kernel
theorem u_129_12 {a : Nat} {lv : am_L} {st : List Value} : am_W G (am_M G d) 129 K 12 lv (.ref a :: st) h nc ns = ((am_words st ≤ 8 ∧ nc + 26 ≤ 601024 ∧ ns + 38434 ≤ 7293034 ∧ f_rc (h a) 7) ∧ am_M G d 82 [.ref a] h (am_back 129 K (am_W G (am_M G d) 129 K) 82 12 lv st nc ns)) := (am_u e_129_12).trans (f_iv_eq (a := a) (G := G) (d := d) (k := 129) (K := K) (pc := 12) (lv := lv) (st := st) (h := h) (nc := nc) (ns := ns) (x := 82) (X := am_W G (am_M G d) 129 K) [] (by decide) rfl)
theorem e_129_15 : pg_code 129 15 = some (.astore_n 2, 1, 0, 0) := by decide +kernel
theorem u_129_15 {a : Nat} {lv : am_L} {st : List Value} : am_W G (am_M G d) 129 K 15 lv (.ref a :: st) h nc ns = (am_W G (am_M G d) 129 K 16 (am_st1 lv 2 (.ref a)) st h nc ns) := (am_u e_129_15).trans (f_t (by decide +kernel))
theorem e_129_16 : pg_code 129 16 = some (.iconst 1, 1, 0, 0) := by decide +kernel
theorem u_129_16 {lv : am_L} {st : List Value} : am_W G (am_M G d) 129 K 16 lv st h nc ns = (am_W G (am_M G d) 129 K 17 lv (.int 1 :: st) h nc ns) := am_u e_129_16
theorem e_129_17 : pg_code 129 17 = some (.newarray .long, 2, 0, 0) := by decide +kernel
theorem e_129_19 : pg_code 129 19 = some (.astore_n 3, 1, 0, 0) := by decide +kernel
theorem u_129_19 {a : Nat} {lv : am_L} {st : List Value} : am_W G (am_M G d) 129 K 19 lv (.ref a :: st) h nc ns = (am_W G (am_M G d) 129 K 20 (am_st1 lv 3 (.ref a)) st h nc ns) := (am_u e_129_19).trans (f_t (by decide +kernel))
theorem e_129_20 : pg_code 129 20 = some (.iconst 0, 1, 0, 0) := by decide +kernel
theorem u_129_20 {lv : am_L} {st : List Value} : am_W G (am_M G d) 129 K 20 lv st h nc ns = (am_W G (am_M G d) 129 K 21 lv (.int 0 :: st) h nc ns) := am_u e_129_20
theorem e_129_21 : pg_code 129 21 = some (.istore 4, 2, 0, 0) := by decide +kernel
theorem u_129_21 {a : Int32} {lv : am_L} {st : List Value} : am_W G (am_M G d) 129 K 21 lv (.int a :: st) h nc ns = (am_W G (am_M G d) 129 K 23 (am_st1 lv 4 (.int a)) st h nc ns) := (am_u e_129_21).trans (f_t (by decide +kernel))
theorem e_129_23 : pg_code 129 23 = some (.iload 4, 2, 0, 0) := by decide +kernel
theorem u_129_23 {a : Int32} {z0 : Option Value} {z1 : Option Value} {z2 : Option Value} {z3 : Option Value} {lv : am_L} {st : List Value} : am_W G (am_M G d) 129 K 23 (z0 :: z1 :: z2 :: z3 :: some (.int a) :: lv) st h nc ns = (am_W G (am_M G d) 129 K 25 (z0 :: z1 :: z2 :: z3 :: some (.int a) :: lv) (.int a :: st) h nc ns) := am_u e_129_23
theorem e_129_25 : pg_code 129 25 = some (.aload_n 0, 1, 0, 0) := by decide +kernel
theorem u_129_25 {a : Nat} {lv : am_L} {st : List Value} : am_W G (am_M G d) 129 K 25 (some (.ref a) :: lv) st h nc ns = (am_W G (am_M G d) 129 K 26 (some (.ref a) :: lv) (.ref a :: st) h nc ns) := am_u e_129_25
theorem e_129_26 : pg_code 129 26 = some (.arraylength, 1, 1, 0) := by decide +kernel
theorem u_129_26 {a : Nat} {lv : am_L} {st : List Value} : am_W G (am_M G d) 129 K 26 lv (.ref a :: st) h nc ns = (a = G.1 ∧ am_W G (am_M G d) 129 K 27 lv (.int (Int32.ofNat G.2.1) :: st) h nc ns) := am_u e_129_26
theorem e_129_27 : pg_code 129 27 = some (.bipush 6, 2, 0, 0) := by decide +kernel
theorem u_129_27 {lv : am_L} {st : List Value} : am_W G (am_M G d) 129 K 27 lv st h nc ns = (am_W G (am_M G d) 129 K 29 lv (.int 6 :: st) h nc ns) := am_u e_129_27
theorem e_129_29 : pg_code 129 29 = some (.isub, 1, 0, 0) := by decide +kernel
theorem u_129_29 {a b : Int32} {lv : am_L} {st : List Value} : am_W G (am_M G d) 129 K 29 lv (.int b :: .int a :: st) h nc ns = (am_W G (am_M G d) 129 K 30 lv (.int (a - b) :: st) h nc ns) := am_u e_129_29
theorem e_129_30 : pg_code 129 30 = some (.if_icmp .gt 1255, 3, 1285, 0) := by decide +kernel
theorem u_129_30 {a b : Int32} {lv : am_L} {st : List Value} : am_W G (am_M G d) 129 K 30 lv (.int b :: .int a :: st) h nc ns = (am_br (b < a) (am_W G (am_M G d) 129 K 1285 lv st h nc ns) (am_W G (am_M G d) 129 K 33 lv st h nc ns)) := am_u e_129_30
theorem e_129_33 : pg_code 129 33 = some (.aload_n 0, 1, 0, 0) := by decide +kernel
theorem u_129_33 {a : Nat} {lv : am_L} {st : List Value} : am_W G (am_M G d) 129 K 33 (some (.ref a) :: lv) st h nc ns = (am_W G (am_M G d) 129 K 34 (some (.ref a) :: lv) (.ref a :: st) h nc ns) := am_u e_129_33
theorem e_129_34 : pg_code 129 34 = some (.iload 4, 2, 0, 0) := by decide +kernel
theorem u_129_34 {a : Int32} {z0 : Option Value} {z1 : Option Value} {z2 : Option Value} {z3 : Option Value} {lv : am_L} {st : List Value} : am_W G (am_M G d) 129 K 34 (z0 :: z1 :: z2 :: z3 :: some (.int a) :: lv) st h nc ns = (am_W G (am_M G d) 129 K 36 (z0 :: z1 :: z2 :: z3 :: some (.int a) :: lv) (.int a :: st) h nc ns) := am_u e_129_34
theorem e_129_36 : pg_code 129 36 = some (.iaload, 1, 1, 0) := by decide +kernel
theorem u_129_36 {a : Nat} {j : Int32} {lv : am_L} {st : List Value} : am_W G (am_M G d) 129 K 36 lv (.int j :: .ref a :: st) h nc ns = ((a = G.1 ∧ vp_in j G.2.1) ∧ am_W G (am_M G d) 129 K 37 lv (.int (G.2.2 j.toNatClampNeg) :: st) h nc ns) := am_u e_129_36
theorem e_129_37 : pg_code 129 37 = some (.bipush 31, 2, 0, 0) := by decide +kernel
theorem u_129_37 {lv : am_L} {st : List Value} : am_W G (am_M G d) 129 K 37 lv st h nc ns = (am_W G (am_M G d) 129 K 39 lv (.int 31 :: st) h nc ns) := am_u e_129_37
theorem e_129_39 : pg_code 129 39 = some (.iand, 1, 0, 0) := by decide +kernel
theorem u_129_39 {a b : Int32} {lv : am_L} {st : List Value} : am_W G (am_M G d) 129 K 39 lv (.int b :: .int a :: st) h nc ns = (am_W G (am_M G d) 129 K 40 lv (.int (a &&& b) :: st) h nc ns) := am_u e_129_39
theorem e_129_40 : pg_code 129 40 = some (.tableswitch 1239 0 18 #[92, 180, 260, 359, 458, 549, 562, 617, 673, 729, 797, 841, 952, 1008, 1064, 1077, 1145, 1158, 1214], 92, 0, 0) := by decide +kernel
theorem u_129_40 {a : Int32} {lv : am_L} {st : List Value} : am_W G (am_M G d) 129 K 40 lv (.int a :: st) h nc ns = (am_W G (am_M G d) 129 K (am_tsw 1239 0 18 #[92, 180, 260, 359, 458, 549, 562, 617, 673, 729, 797, 841, 952, 1008, 1064, 1077, 1145, 1158, 1214] 40 a) lv st h nc ns) := am_u e_129_40
theorem e_129_132 : pg_code 129 132 = some (.aload_n 1, 1, 0, 0) := by decide +kernel
theorem u_129_132 {a : Nat} {z0 : Option Value} {lv : am_L} {st : List Value} : am_W G (am_M G d) 129 K 132 (z0 :: some (.ref a) :: lv) st h nc ns = (am_W G (am_M G d) 129 K 133 (z0 :: some (.ref a) :: lv) (.ref a :: st) h nc ns) := am_u e_129_132
theorem e_129_133 : pg_code 129 133 = some (.aload_n 0, 1, 0, 0) := by decide +kernel
theorem u_129_133 {a : Nat} {lv : am_L} {st : List Value} : am_W G (am_M G d) 129 K 133 (some (.ref a) :: lv) st h nc ns = (am_W G (am_M G d) 129 K 134 (some (.ref a) :: lv) (.ref a :: st) h nc ns) := am_u e_129_133
theorem e_129_134 : pg_code 129 134 = some (.iload 4, 2, 0, 0) := by decide +kernel
theorem u_129_134 {a : Int32} {z0 : Option Value} {z1 : Option Value} {z2 : Option Value} {z3 : Option Value} {lv : am_L} {st : List Value} : am_W G (am_M G d) 129 K 134 (z0 :: z1 :: z2 :: z3 :: some (.int a) :: lv) st h nc ns = (am_W G (am_M G d) 129 K 136 (z0 :: z1 :: z2 :: z3 :: some (.int a) :: lv) (.int a :: st) h nc ns) := am_u e_129_134
theorem e_129_136 : pg_code 129 136 = some (.iconst 1, 1, 0, 0) := by decide +kernel
theorem u_129_136 {lv : am_L} {st : List Value} : am_W G (am_M G d) 129 K 136 lv st h nc ns = (am_W G (am_M G d) 129 K 137 lv (.int 1 :: st) h nc ns) := am_u e_129_136
theorem e_129_137 : pg_code 129 137 = some (.iadd, 1, 0, 0) := by decide +kernel
theorem u_129_137 {a b : Int32} {lv : am_L} {st : List Value} : am_W G (am_M G d) 129 K 137 lv (.int b :: .int a :: st) h nc ns = (am_W G (am_M G d) 129 K 138 lv (.int (a + b) :: st) h nc ns) := am_u e_129_137
theorem e_129_138 : pg_code 129 138 = some (.iaload, 1, 1, 0) := by decide +kernel
theorem u_129_138 {a : Nat} {j : Int32} {lv : am_L} {st : List Value} : am_W G (am_M G d) 129 K 138 lv (.int j :: .ref a :: st) h nc ns = ((a = G.1 ∧ vp_in j G.2.1) ∧ am_W G (am_M G d) 129 K 139 lv (.int (G.2.2 j.toNatClampNeg) :: st) h nc ns) := am_u e_129_138
theorem e_129_139 : pg_code 129 139 = some (.i2l, 1, 0, 0) := by decide +kernel
theorem u_129_139 {a : Int32} {lv : am_L} {st : List Value} : am_W G (am_M G d) 129 K 139 lv (.int a :: st) h nc ns = (am_W G (am_M G d) 129 K 140 lv (.long a.toInt64 :: st) h nc ns) := am_u e_129_139
theorem e_129_140 : pg_code 129 140 = some (.bipush 32, 2, 0, 0) := by decide +kernel
theorem u_129_140 {lv : am_L} {st : List Value} : am_W G (am_M G d) 129 K 140 lv st h nc ns = (am_W G (am_M G d) 129 K 142 lv (.int 32 :: st) h nc ns) := am_u e_129_140
theorem e_129_142 : pg_code 129 142 = some (.lshl, 1, 0, 0) := by decide +kernel
theorem u_129_142 {a : Int64} {b : Int32} {lv : am_L} {st : List Value} : am_W G (am_M G d) 129 K 142 lv (.int b :: .long a :: st) h nc ns = (am_W G (am_M G d) 129 K 143 lv (.long (a <<< (b.toInt64 &&& 63)) :: st) h nc ns) := am_u e_129_142
theorem e_129_143 : pg_code 129 143 = some (.aload_n 0, 1, 0, 0) := by decide +kernel
theorem u_129_143 {a : Nat} {lv : am_L} {st : List Value} : am_W G (am_M G d) 129 K 143 (some (.ref a) :: lv) st h nc ns = (am_W G (am_M G d) 129 K 144 (some (.ref a) :: lv) (.ref a :: st) h nc ns) := am_u e_129_143
theorem e_129_144 : pg_code 129 144 = some (.iload 4, 2, 0, 0) := by decide +kernel
theorem u_129_144 {a : Int32} {z0 : Option Value} {z1 : Option Value} {z2 : Option Value} {z3 : Option Value} {lv : am_L} {st : List Value} : am_W G (am_M G d) 129 K 144 (z0 :: z1 :: z2 :: z3 :: some (.int a) :: lv) st h nc ns = (am_W G (am_M G d) 129 K 146 (z0 :: z1 :: z2 :: z3 :: some (.int a) :: lv) (.int a :: st) h nc ns) := am_u e_129_144
theorem e_129_146 : pg_code 129 146 = some (.iconst 2, 1, 0, 0) := by decide +kernel
theorem u_129_146 {lv : am_L} {st : List Value} : am_W G (am_M G d) 129 K 146 lv st h nc ns = (am_W G (am_M G d) 129 K 147 lv (.int 2 :: st) h nc ns) := am_u e_129_146
theorem e_129_147 : pg_code 129 147 = some (.iadd, 1, 0, 0) := by decide +kernel
theorem u_129_147 {a b : Int32} {lv : am_L} {st : List Value} : am_W G (am_M G d) 129 K 147 lv (.int b :: .int a :: st) h nc ns = (am_W G (am_M G d) 129 K 148 lv (.int (a + b) :: st) h nc ns) := am_u e_129_147
theorem e_129_148 : pg_code 129 148 = some (.iaload, 1, 1, 0) := by decide +kernel
theorem u_129_148 {a : Nat} {j : Int32} {lv : am_L} {st : List Value} : am_W G (am_M G d) 129 K 148 lv (.int j :: .ref a :: st) h nc ns = ((a = G.1 ∧ vp_in j G.2.1) ∧ am_W G (am_M G d) 129 K 149 lv (.int (G.2.2 j.toNatClampNeg) :: st) h nc ns) := am_u e_129_148
theorem e_129_149 : pg_code 129 149 = some (.i2l, 1, 0, 0) := by decide +kernel
theorem u_129_149 {a : Int32} {lv : am_L} {st : List Value} : am_W G (am_M G d) 129 K 149 lv (.int a :: st) h nc ns = (am_W G (am_M G d) 129 K 150 lv (.long a.toInt64 :: st) h nc ns) := am_u e_129_149
theorem e_129_150 : pg_code 129 150 = some (.ldc2_w 76, 3, 0, 0) := by decide +kernel
theorem u_129_150 {lv : am_L} {st : List Value} : am_W G (am_M G d) 129 K 150 lv st h nc ns = (am_W G (am_M G d) 129 K 153 lv (.long 4294967295 :: st) h nc ns) := am_u e_129_150
theorem e_129_153 : pg_code 129 153 = some (.land, 1, 0, 0) := by decide +kernel
theorem u_129_153 {a b : Int64} {lv : am_L} {st : List Value} : am_W G (am_M G d) 129 K 153 lv (.long b :: .long a :: st) h nc ns = (am_W G (am_M G d) 129 K 154 lv (.long (a &&& b) :: st) h nc ns) := am_u e_129_153
theorem e_129_154 : pg_code 129 154 = some (.lor, 1, 0, 0) := by decide +kernel
theorem u_129_154 {a b : Int64} {lv : am_L} {st : List Value} : am_W G (am_M G d) 129 K 154 lv (.long b :: .long a :: st) h nc ns = (am_W G (am_M G d) 129 K 155 lv (.long (a ||| b) :: st) h nc ns) := am_u e_129_154
theorem e_129_155 : pg_code 129 155 = some (.aload_n 3, 1, 0, 0) := by decide +kernel
theorem u_129_155 {a : Nat} {z0 : Option Value} {z1 : Option Value} {z2 : Option Value} {lv : am_L} {st : List Value} : am_W G (am_M G d) 129 K 155 (z0 :: z1 :: z2 :: some (.ref a) :: lv) st h nc ns = (am_W G (am_M G d) 129 K 156 (z0 :: z1 :: z2 :: some (.ref a) :: lv) (.ref a :: st) h nc ns) := am_u e_129_155
theorem e_129_156 : pg_code 129 156 = some (.invokestatic 78, 3, 37, 3) := by decide +kernel
theorem u_129_156 {v0 v1 v2 : Value} {lv : am_L} {st : List Value} : am_W G (am_M G d) 129 K 156 lv (v2 :: v1 :: v0 :: st) h nc ns = ((am_words st ≤ 8 ∧ nc + 1 ≤ 601024 ∧ ns + 6 ≤ 7293034) ∧ am_M G d 37 [v0, v1, v2] h (am_back 129 K (am_W G (am_M G d) 129 K) 37 156 lv st nc ns)) := (am_u e_129_156).trans (f_st_eq (G := G) (d := d) (k := 129) (K := K) (pc := 156) (lv := lv) (st := st) (h := h) (nc := nc) (ns := ns) (x := 37) (X := am_W G (am_M G d) 129 K) [v0, v1, v2] (by decide) rfl)
theorem e_129_159 : pg_code 129 159 = some (.istore 5, 2, 0, 0) := by decide +kernel
theorem u_129_159 {a : Int32} {lv : am_L} {st : List Value} : am_W G (am_M G d) 129 K 159 lv (.int a :: st) h nc ns = (am_W G (am_M G d) 129 K 161 (am_st1 lv 5 (.int a)) st h nc ns) := (am_u e_129_159).trans (f_t (by decide +kernel))
theorem e_129_161 : pg_code 129 161 = some (.aload_n 2, 1, 0, 0) := by decide +kernel
theorem u_129_161 {a : Nat} {z0 : Option Value} {z1 : Option Value} {lv : am_L} {st : List Value} : am_W G (am_M G d) 129 K 161 (z0 :: z1 :: some (.ref a) :: lv) st h nc ns = (am_W G (am_M G d) 129 K 162 (z0 :: z1 :: some (.ref a) :: lv) (.ref a :: st) h nc ns) := am_u e_129_161
theorem e_129_162 : pg_code 129 162 = some (.aload_n 0, 1, 0, 0) := by decide +kernel
theorem u_129_162 {a : Nat} {lv : am_L} {st : List Value} : am_W G (am_M G d) 129 K 162 (some (.ref a) :: lv) st h nc ns = (am_W G (am_M G d) 129 K 163 (some (.ref a) :: lv) (.ref a :: st) h nc ns) := am_u e_129_162
theorem e_129_163 : pg_code 129 163 = some (.iload 4, 2, 0, 0) := by decide +kernel
theorem u_129_163 {a : Int32} {z0 : Option Value} {z1 : Option Value} {z2 : Option Value} {z3 : Option Value} {lv : am_L} {st : List Value} : am_W G (am_M G d) 129 K 163 (z0 :: z1 :: z2 :: z3 :: some (.int a) :: lv) st h nc ns = (am_W G (am_M G d) 129 K 165 (z0 :: z1 :: z2 :: z3 :: some (.int a) :: lv) (.int a :: st) h nc ns) := am_u e_129_163
theorem e_129_165 : pg_code 129 165 = some (.iconst 1, 1, 0, 0) := by decide +kernel
theorem u_129_165 {lv : am_L} {st : List Value} : am_W G (am_M G d) 129 K 165 lv st h nc ns = (am_W G (am_M G d) 129 K 166 lv (.int 1 :: st) h nc ns) := am_u e_129_165
theorem e_129_166 : pg_code 129 166 = some (.iadd, 1, 0, 0) := by decide +kernel
theorem u_129_166 {a b : Int32} {lv : am_L} {st : List Value} : am_W G (am_M G d) 129 K 166 lv (.int b :: .int a :: st) h nc ns = (am_W G (am_M G d) 129 K 167 lv (.int (a + b) :: st) h nc ns) := am_u e_129_166
theorem e_129_167 : pg_code 129 167 = some (.iaload, 1, 1, 0) := by decide +kernel
theorem u_129_167 {a : Nat} {j : Int32} {lv : am_L} {st : List Value} : am_W G (am_M G d) 129 K 167 lv (.int j :: .ref a :: st) h nc ns = ((a = G.1 ∧ vp_in j G.2.1) ∧ am_W G (am_M G d) 129 K 168 lv (.int (G.2.2 j.toNatClampNeg) :: st) h nc ns) := am_u e_129_167
theorem e_129_168 : pg_code 129 168 = some (.i2l, 1, 0, 0) := by decide +kernel
theorem u_129_168 {a : Int32} {lv : am_L} {st : List Value} : am_W G (am_M G d) 129 K 168 lv (.int a :: st) h nc ns = (am_W G (am_M G d) 129 K 169 lv (.long a.toInt64 :: st) h nc ns) := am_u e_129_168
theorem e_129_169 : pg_code 129 169 = some (.bipush 32, 2, 0, 0) := by decide +kernel
theorem u_129_169 {lv : am_L} {st : List Value} : am_W G (am_M G d) 129 K 169 lv st h nc ns = (am_W G (am_M G d) 129 K 171 lv (.int 32 :: st) h nc ns) := am_u e_129_169
theorem e_129_171 : pg_code 129 171 = some (.lshl, 1, 0, 0) := by decide +kernel
theorem u_129_171 {a : Int64} {b : Int32} {lv : am_L} {st : List Value} : am_W G (am_M G d) 129 K 171 lv (.int b :: .long a :: st) h nc ns = (am_W G (am_M G d) 129 K 172 lv (.long (a <<< (b.toInt64 &&& 63)) :: st) h nc ns) := am_u e_129_171
theorem e_129_172 : pg_code 129 172 = some (.aload_n 0, 1, 0, 0) := by decide +kernel
theorem u_129_172 {a : Nat} {lv : am_L} {st : List Value} : am_W G (am_M G d) 129 K 172 (some (.ref a) :: lv) st h nc ns = (am_W G (am_M G d) 129 K 173 (some (.ref a) :: lv) (.ref a :: st) h nc ns) := am_u e_129_172
theorem e_129_173 : pg_code 129 173 = some (.iload 4, 2, 0, 0) := by decide +kernel
theorem u_129_173 {a : Int32} {z0 : Option Value} {z1 : Option Value} {z2 : Option Value} {z3 : Option Value} {lv : am_L} {st : List Value} : am_W G (am_M G d) 129 K 173 (z0 :: z1 :: z2 :: z3 :: some (.int a) :: lv) st h nc ns = (am_W G (am_M G d) 129 K 175 (z0 :: z1 :: z2 :: z3 :: some (.int a) :: lv) (.int a :: st) h nc ns) := am_u e_129_173
theorem e_129_175 : pg_code 129 175 = some (.iconst 2, 1, 0, 0) := by decide +kernel
theorem u_129_175 {lv : am_L} {st : List Value} : am_W G (am_M G d) 129 K 175 lv st h nc ns = (am_W G (am_M G d) 129 K 176 lv (.int 2 :: st) h nc ns) := am_u e_129_175
theorem e_129_176 : pg_code 129 176 = some (.iadd, 1, 0, 0) := by decide +kernel
theorem u_129_176 {a b : Int32} {lv : am_L} {st : List Value} : am_W G (am_M G d) 129 K 176 lv (.int b :: .int a :: st) h nc ns = (am_W G (am_M G d) 129 K 177 lv (.int (a + b) :: st) h nc ns) := am_u e_129_176
theorem e_129_177 : pg_code 129 177 = some (.iaload, 1, 1, 0) := by decide +kernel
theorem u_129_177 {a : Nat} {j : Int32} {lv : am_L} {st : List Value} : am_W G (am_M G d) 129 K 177 lv (.int j :: .ref a :: st) h nc ns = ((a = G.1 ∧ vp_in j G.2.1) ∧ am_W G (am_M G d) 129 K 178 lv (.int (G.2.2 j.toNatClampNeg) :: st) h nc ns) := am_u e_129_177
theorem e_129_178 : pg_code 129 178 = some (.i2l, 1, 0, 0) := by decide +kernel
theorem u_129_178 {a : Int32} {lv : am_L} {st : List Value} : am_W G (am_M G d) 129 K 178 lv (.int a :: st) h nc ns = (am_W G (am_M G d) 129 K 179 lv (.long a.toInt64 :: st) h nc ns) := am_u e_129_178
theorem e_129_179 : pg_code 129 179 = some (.ldc2_w 76, 3, 0, 0) := by decide +kernel
theorem u_129_179 {lv : am_L} {st : List Value} : am_W G (am_M G d) 129 K 179 lv st h nc ns = (am_W G (am_M G d) 129 K 182 lv (.long 4294967295 :: st) h nc ns) := am_u e_129_179
theorem e_129_182 : pg_code 129 182 = some (.land, 1, 0, 0) := by decide +kernel
theorem u_129_182 {a b : Int64} {lv : am_L} {st : List Value} : am_W G (am_M G d) 129 K 182 lv (.long b :: .long a :: st) h nc ns = (am_W G (am_M G d) 129 K 183 lv (.long (a &&& b) :: st) h nc ns) := am_u e_129_182
theorem e_129_183 : pg_code 129 183 = some (.lor, 1, 0, 0) := by decide +kernel
theorem u_129_183 {a b : Int64} {lv : am_L} {st : List Value} : am_W G (am_M G d) 129 K 183 lv (.long b :: .long a :: st) h nc ns = (am_W G (am_M G d) 129 K 184 lv (.long (a ||| b) :: st) h nc ns) := am_u e_129_183
theorem e_129_184 : pg_code 129 184 = some (.invokevirtual 83, 3, 84, 2) := by decide +kernel
theorem u_129_184 {a : Nat} {v0 : Value} {lv : am_L} {st : List Value} : am_W G (am_M G d) 129 K 184 lv (v0 :: .ref a :: st) h nc ns = ((am_words st ≤ 8 ∧ nc + 0 ≤ 601024 ∧ ns + 0 ≤ 7293034 ∧ f_rc (h a) 7) ∧ am_M G d 84 [.ref a, v0] h (am_back 129 K (am_W G (am_M G d) 129 K) 84 184 lv st nc ns)) := (am_u e_129_184).trans (f_iv_eq (a := a) (G := G) (d := d) (k := 129) (K := K) (pc := 184) (lv := lv) (st := st) (h := h) (nc := nc) (ns := ns) (x := 84) (X := am_W G (am_M G d) 129 K) [v0] (by decide) rfl)
theorem e_129_187 : pg_code 129 187 = some (.istore 6, 2, 0, 0) := by decide +kernel
theorem u_129_187 {a : Int32} {lv : am_L} {st : List Value} : am_W G (am_M G d) 129 K 187 lv (.int a :: st) h nc ns = (am_W G (am_M G d) 129 K 189 (am_st1 lv 6 (.int a)) st h nc ns) := (am_u e_129_187).trans (f_t (by decide +kernel))
theorem e_129_189 : pg_code 129 189 = some (.aload_n 2, 1, 0, 0) := by decide +kernel
theorem u_129_189 {a : Nat} {z0 : Option Value} {z1 : Option Value} {lv : am_L} {st : List Value} : am_W G (am_M G d) 129 K 189 (z0 :: z1 :: some (.ref a) :: lv) st h nc ns = (am_W G (am_M G d) 129 K 190 (z0 :: z1 :: some (.ref a) :: lv) (.ref a :: st) h nc ns) := am_u e_129_189
theorem e_129_190 : pg_code 129 190 = some (.invokevirtual 84, 3, 83, 1) := by decide +kernel
theorem u_129_190 {a : Nat} {lv : am_L} {st : List Value} : am_W G (am_M G d) 129 K 190 lv (.ref a :: st) h nc ns = ((am_words st ≤ 8 ∧ nc + 0 ≤ 601024 ∧ ns + 0 ≤ 7293034 ∧ f_rc (h a) 7) ∧ am_M G d 83 [.ref a] h (am_back 129 K (am_W G (am_M G d) 129 K) 83 190 lv st nc ns)) := (am_u e_129_190).trans (f_iv_eq (a := a) (G := G) (d := d) (k := 129) (K := K) (pc := 190) (lv := lv) (st := st) (h := h) (nc := nc) (ns := ns) (x := 83) (X := am_W G (am_M G d) 129 K) [] (by decide) rfl)
theorem e_129_193 : pg_code 129 193 = some (.iload 5, 2, 0, 0) := by decide +kernel
theorem u_129_193 {a : Int32} {z0 : Option Value} {z1 : Option Value} {z2 : Option Value} {z3 : Option Value} {z4 : Option Value} {lv : am_L} {st : List Value} : am_W G (am_M G d) 129 K 193 (z0 :: z1 :: z2 :: z3 :: z4 :: some (.int a) :: lv) st h nc ns = (am_W G (am_M G d) 129 K 195 (z0 :: z1 :: z2 :: z3 :: z4 :: some (.int a) :: lv) (.int a :: st) h nc ns) := am_u e_129_193
theorem e_129_195 : pg_code 129 195 = some (.if_icmp .eq 5, 3, 200, 0) := by decide +kernel
theorem u_129_195 {a b : Int32} {lv : am_L} {st : List Value} : am_W G (am_M G d) 129 K 195 lv (.int b :: .int a :: st) h nc ns = (am_br (a = b) (am_W G (am_M G d) 129 K 200 lv st h nc ns) (am_W G (am_M G d) 129 K 198 lv st h nc ns)) := am_u e_129_195
theorem e_129_198 : pg_code 129 198 = some (.iconst 0, 1, 0, 0) := by decide +kernel
theorem u_129_198 {lv : am_L} {st : List Value} : am_W G (am_M G d) 129 K 198 lv st h nc ns = (am_W G (am_M G d) 129 K 199 lv (.int 0 :: st) h nc ns) := am_u e_129_198
theorem e_129_199 : pg_code 129 199 = some (.ireturn, 1, 0, 0) := by decide +kernel
theorem u_129_199 {a : Int32} {lv : am_L} : am_W G (am_M G d) 129 K 199 lv [.int a] h nc ns = (narrow .boolean (.int a) = .int a ∧ K (.inl (some (.int a))) h) := (am_u e_129_199).trans (f_z_eq rfl)
theorem e_129_200 : pg_code 129 200 = some (.iload 5, 2, 0, 0) := by decide +kernel
theorem u_129_200 {a : Int32} {z0 : Option Value} {z1 : Option Value} {z2 : Option Value} {z3 : Option Value} {z4 : Option Value} {lv : am_L} {st : List Value} : am_W G (am_M G d) 129 K 200 (z0 :: z1 :: z2 :: z3 :: z4 :: some (.int a) :: lv) st h nc ns = (am_W G (am_M G d) 129 K 202 (z0 :: z1 :: z2 :: z3 :: z4 :: some (.int a) :: lv) (.int a :: st) h nc ns) := am_u e_129_200
theorem e_129_202 : pg_code 129 202 = some (.ifCond .ne 15, 3, 217, 0) := by decide +kernel
theorem u_129_202 {a : Int32} {lv : am_L} {st : List Value} : am_W G (am_M G d) 129 K 202 lv (.int a :: st) h nc ns = (am_br (¬ a = 0) (am_W G (am_M G d) 129 K 217 lv st h nc ns) (am_W G (am_M G d) 129 K 205 lv st h nc ns)) := am_u e_129_202
theorem e_129_205 : pg_code 129 205 = some (.aload_n 3, 1, 0, 0) := by decide +kernel
theorem u_129_205 {a : Nat} {z0 : Option Value} {z1 : Option Value} {z2 : Option Value} {lv : am_L} {st : List Value} : am_W G (am_M G d) 129 K 205 (z0 :: z1 :: z2 :: some (.ref a) :: lv) st h nc ns = (am_W G (am_M G d) 129 K 206 (z0 :: z1 :: z2 :: some (.ref a) :: lv) (.ref a :: st) h nc ns) := am_u e_129_205
theorem e_129_206 : pg_code 129 206 = some (.iconst 0, 1, 0, 0) := by decide +kernel
theorem u_129_206 {lv : am_L} {st : List Value} : am_W G (am_M G d) 129 K 206 lv st h nc ns = (am_W G (am_M G d) 129 K 207 lv (.int 0 :: st) h nc ns) := am_u e_129_206
theorem e_129_207 : pg_code 129 207 = some (.laload, 1, 0, 0) := by decide +kernel
theorem u_129_207 {a : Nat} {j : Int32} {lv : am_L} {st : List Value} : am_W G (am_M G d) 129 K 207 lv (.int j :: .ref a :: st) h nc ns = (f_la G d 129 K 208 lv st h nc ns (h a) j) := am_u e_129_207
theorem e_129_208 : pg_code 129 208 = some (.iload 6, 2, 0, 0) := by decide +kernel
theorem u_129_208 {a : Int32} {z0 : Option Value} {z1 : Option Value} {z2 : Option Value} {z3 : Option Value} {z4 : Option Value} {z5 : Option Value} {lv : am_L} {st : List Value} : am_W G (am_M G d) 129 K 208 (z0 :: z1 :: z2 :: z3 :: z4 :: z5 :: some (.int a) :: lv) st h nc ns = (am_W G (am_M G d) 129 K 210 (z0 :: z1 :: z2 :: z3 :: z4 :: z5 :: some (.int a) :: lv) (.int a :: st) h nc ns) := am_u e_129_208
theorem e_129_210 : pg_code 129 210 = some (.i2l, 1, 0, 0) := by decide +kernel
theorem u_129_210 {a : Int32} {lv : am_L} {st : List Value} : am_W G (am_M G d) 129 K 210 lv (.int a :: st) h nc ns = (am_W G (am_M G d) 129 K 211 lv (.long a.toInt64 :: st) h nc ns) := am_u e_129_210
theorem e_129_211 : pg_code 129 211 = some (.lcmp, 1, 0, 0) := by decide +kernel
theorem u_129_211 {a b : Int64} {lv : am_L} {st : List Value} : am_W G (am_M G d) 129 K 211 lv (.long b :: .long a :: st) h nc ns = (am_W G (am_M G d) 129 K 212 lv (.int (lg_cmp a b) :: st) h nc ns) := am_u e_129_211
theorem e_129_212 : pg_code 129 212 = some (.ifCond .eq 5, 3, 217, 0) := by decide +kernel
theorem u_129_212 {a : Int32} {lv : am_L} {st : List Value} : am_W G (am_M G d) 129 K 212 lv (.int a :: st) h nc ns = (am_br (a = 0) (am_W G (am_M G d) 129 K 217 lv st h nc ns) (am_W G (am_M G d) 129 K 215 lv st h nc ns)) := am_u e_129_212
theorem e_129_215 : pg_code 129 215 = some (.iconst 0, 1, 0, 0) := by decide +kernel
theorem u_129_215 {lv : am_L} {st : List Value} : am_W G (am_M G d) 129 K 215 lv st h nc ns = (am_W G (am_M G d) 129 K 216 lv (.int 0 :: st) h nc ns) := am_u e_129_215
theorem e_129_216 : pg_code 129 216 = some (.ireturn, 1, 0, 0) := by decide +kernel
theorem u_129_216 {a : Int32} {lv : am_L} : am_W G (am_M G d) 129 K 216 lv [.int a] h nc ns = (narrow .boolean (.int a) = .int a ∧ K (.inl (some (.int a))) h) := (am_u e_129_216).trans (f_z_eq rfl)
theorem e_129_217 : pg_code 129 217 = some (.goto 1062, 3, 1279, 0) := by decide +kernel
theorem u_129_217 {lv : am_L} {st : List Value} : am_W G (am_M G d) 129 K 217 lv st h nc ns = (am_W G (am_M G d) 129 K 1279 lv st h nc ns) := am_u e_129_217
theorem e_129_220 : pg_code 129 220 = some (.aload_n 1, 1, 0, 0) := by decide +kernel
theorem u_129_220 {a : Nat} {z0 : Option Value} {lv : am_L} {st : List Value} : am_W G (am_M G d) 129 K 220 (z0 :: some (.ref a) :: lv) st h nc ns = (am_W G (am_M G d) 129 K 221 (z0 :: some (.ref a) :: lv) (.ref a :: st) h nc ns) := am_u e_129_220
theorem e_129_221 : pg_code 129 221 = some (.aload_n 0, 1, 0, 0) := by decide +kernel
theorem u_129_221 {a : Nat} {lv : am_L} {st : List Value} : am_W G (am_M G d) 129 K 221 (some (.ref a) :: lv) st h nc ns = (am_W G (am_M G d) 129 K 222 (some (.ref a) :: lv) (.ref a :: st) h nc ns) := am_u e_129_221
theorem e_129_222 : pg_code 129 222 = some (.iload 4, 2, 0, 0) := by decide +kernel
theorem u_129_222 {a : Int32} {z0 : Option Value} {z1 : Option Value} {z2 : Option Value} {z3 : Option Value} {lv : am_L} {st : List Value} : am_W G (am_M G d) 129 K 222 (z0 :: z1 :: z2 :: z3 :: some (.int a) :: lv) st h nc ns = (am_W G (am_M G d) 129 K 224 (z0 :: z1 :: z2 :: z3 :: some (.int a) :: lv) (.int a :: st) h nc ns) := am_u e_129_222
theorem e_129_224 : pg_code 129 224 = some (.iconst 1, 1, 0, 0) := by decide +kernel
theorem u_129_224 {lv : am_L} {st : List Value} : am_W G (am_M G d) 129 K 224 lv st h nc ns = (am_W G (am_M G d) 129 K 225 lv (.int 1 :: st) h nc ns) := am_u e_129_224
theorem e_129_225 : pg_code 129 225 = some (.iadd, 1, 0, 0) := by decide +kernel
theorem u_129_225 {a b : Int32} {lv : am_L} {st : List Value} : am_W G (am_M G d) 129 K 225 lv (.int b :: .int a :: st) h nc ns = (am_W G (am_M G d) 129 K 226 lv (.int (a + b) :: st) h nc ns) := am_u e_129_225
theorem e_129_226 : pg_code 129 226 = some (.iaload, 1, 1, 0) := by decide +kernel
theorem u_129_226 {a : Nat} {j : Int32} {lv : am_L} {st : List Value} : am_W G (am_M G d) 129 K 226 lv (.int j :: .ref a :: st) h nc ns = ((a = G.1 ∧ vp_in j G.2.1) ∧ am_W G (am_M G d) 129 K 227 lv (.int (G.2.2 j.toNatClampNeg) :: st) h nc ns) := am_u e_129_226
theorem e_129_227 : pg_code 129 227 = some (.aload_n 0, 1, 0, 0) := by decide +kernel
theorem u_129_227 {a : Nat} {lv : am_L} {st : List Value} : am_W G (am_M G d) 129 K 227 (some (.ref a) :: lv) st h nc ns = (am_W G (am_M G d) 129 K 228 (some (.ref a) :: lv) (.ref a :: st) h nc ns) := am_u e_129_227
theorem e_129_228 : pg_code 129 228 = some (.iload 4, 2, 0, 0) := by decide +kernel
theorem u_129_228 {a : Int32} {z0 : Option Value} {z1 : Option Value} {z2 : Option Value} {z3 : Option Value} {lv : am_L} {st : List Value} : am_W G (am_M G d) 129 K 228 (z0 :: z1 :: z2 :: z3 :: some (.int a) :: lv) st h nc ns = (am_W G (am_M G d) 129 K 230 (z0 :: z1 :: z2 :: z3 :: some (.int a) :: lv) (.int a :: st) h nc ns) := am_u e_129_228
theorem e_129_230 : pg_code 129 230 = some (.iconst 2, 1, 0, 0) := by decide +kernel
theorem u_129_230 {lv : am_L} {st : List Value} : am_W G (am_M G d) 129 K 230 lv st h nc ns = (am_W G (am_M G d) 129 K 231 lv (.int 2 :: st) h nc ns) := am_u e_129_230
theorem e_129_231 : pg_code 129 231 = some (.iadd, 1, 0, 0) := by decide +kernel
theorem u_129_231 {a b : Int32} {lv : am_L} {st : List Value} : am_W G (am_M G d) 129 K 231 lv (.int b :: .int a :: st) h nc ns = (am_W G (am_M G d) 129 K 232 lv (.int (a + b) :: st) h nc ns) := am_u e_129_231
theorem e_129_232 : pg_code 129 232 = some (.iaload, 1, 1, 0) := by decide +kernel
theorem u_129_232 {a : Nat} {j : Int32} {lv : am_L} {st : List Value} : am_W G (am_M G d) 129 K 232 lv (.int j :: .ref a :: st) h nc ns = ((a = G.1 ∧ vp_in j G.2.1) ∧ am_W G (am_M G d) 129 K 233 lv (.int (G.2.2 j.toNatClampNeg) :: st) h nc ns) := am_u e_129_232
theorem e_129_233 : pg_code 129 233 = some (.aload_n 0, 1, 0, 0) := by decide +kernel
theorem u_129_233 {a : Nat} {lv : am_L} {st : List Value} : am_W G (am_M G d) 129 K 233 (some (.ref a) :: lv) st h nc ns = (am_W G (am_M G d) 129 K 234 (some (.ref a) :: lv) (.ref a :: st) h nc ns) := am_u e_129_233
theorem e_129_234 : pg_code 129 234 = some (.iload 4, 2, 0, 0) := by decide +kernel
theorem u_129_234 {a : Int32} {z0 : Option Value} {z1 : Option Value} {z2 : Option Value} {z3 : Option Value} {lv : am_L} {st : List Value} : am_W G (am_M G d) 129 K 234 (z0 :: z1 :: z2 :: z3 :: some (.int a) :: lv) st h nc ns = (am_W G (am_M G d) 129 K 236 (z0 :: z1 :: z2 :: z3 :: some (.int a) :: lv) (.int a :: st) h nc ns) := am_u e_129_234
theorem e_129_236 : pg_code 129 236 = some (.iconst 3, 1, 0, 0) := by decide +kernel
theorem u_129_236 {lv : am_L} {st : List Value} : am_W G (am_M G d) 129 K 236 lv st h nc ns = (am_W G (am_M G d) 129 K 237 lv (.int 3 :: st) h nc ns) := am_u e_129_236
theorem e_129_237 : pg_code 129 237 = some (.iadd, 1, 0, 0) := by decide +kernel
theorem u_129_237 {a b : Int32} {lv : am_L} {st : List Value} : am_W G (am_M G d) 129 K 237 lv (.int b :: .int a :: st) h nc ns = (am_W G (am_M G d) 129 K 238 lv (.int (a + b) :: st) h nc ns) := am_u e_129_237
theorem e_129_238 : pg_code 129 238 = some (.iaload, 1, 1, 0) := by decide +kernel
theorem u_129_238 {a : Nat} {j : Int32} {lv : am_L} {st : List Value} : am_W G (am_M G d) 129 K 238 lv (.int j :: .ref a :: st) h nc ns = ((a = G.1 ∧ vp_in j G.2.1) ∧ am_W G (am_M G d) 129 K 239 lv (.int (G.2.2 j.toNatClampNeg) :: st) h nc ns) := am_u e_129_238
theorem e_129_239 : pg_code 129 239 = some (.aload_n 3, 1, 0, 0) := by decide +kernel
theorem u_129_239 {a : Nat} {z0 : Option Value} {z1 : Option Value} {z2 : Option Value} {lv : am_L} {st : List Value} : am_W G (am_M G d) 129 K 239 (z0 :: z1 :: z2 :: some (.ref a) :: lv) st h nc ns = (am_W G (am_M G d) 129 K 240 (z0 :: z1 :: z2 :: some (.ref a) :: lv) (.ref a :: st) h nc ns) := am_u e_129_239
theorem e_129_240 : pg_code 129 240 = some (.invokestatic 87, 3, 41, 5) := by decide +kernel
theorem u_129_240 {v0 v1 v2 v3 v4 : Value} {lv : am_L} {st : List Value} : am_W G (am_M G d) 129 K 240 lv (v4 :: v3 :: v2 :: v1 :: v0 :: st) h nc ns = ((am_words st ≤ 8 ∧ nc + 2 ≤ 601024 ∧ ns + 12 ≤ 7293034) ∧ am_M G d 41 [v0, v1, v2, v3, v4] h (am_back 129 K (am_W G (am_M G d) 129 K) 41 240 lv st nc ns)) := (am_u e_129_240).trans (f_st_eq (G := G) (d := d) (k := 129) (K := K) (pc := 240) (lv := lv) (st := st) (h := h) (nc := nc) (ns := ns) (x := 41) (X := am_W G (am_M G d) 129 K) [v0, v1, v2, v3, v4] (by decide) rfl)
theorem e_129_243 : pg_code 129 243 = some (.istore 5, 2, 0, 0) := by decide +kernel
theorem u_129_243 {a : Int32} {lv : am_L} {st : List Value} : am_W G (am_M G d) 129 K 243 lv (.int a :: st) h nc ns = (am_W G (am_M G d) 129 K 245 (am_st1 lv 5 (.int a)) st h nc ns) := (am_u e_129_243).trans (f_t (by decide +kernel))
theorem e_129_245 : pg_code 129 245 = some (.aload_n 2, 1, 0, 0) := by decide +kernel
theorem u_129_245 {a : Nat} {z0 : Option Value} {z1 : Option Value} {lv : am_L} {st : List Value} : am_W G (am_M G d) 129 K 245 (z0 :: z1 :: some (.ref a) :: lv) st h nc ns = (am_W G (am_M G d) 129 K 246 (z0 :: z1 :: some (.ref a) :: lv) (.ref a :: st) h nc ns) := am_u e_129_245
theorem e_129_246 : pg_code 129 246 = some (.aload_n 0, 1, 0, 0) := by decide +kernel
theorem u_129_246 {a : Nat} {lv : am_L} {st : List Value} : am_W G (am_M G d) 129 K 246 (some (.ref a) :: lv) st h nc ns = (am_W G (am_M G d) 129 K 247 (some (.ref a) :: lv) (.ref a :: st) h nc ns) := am_u e_129_246
theorem e_129_247 : pg_code 129 247 = some (.iload 4, 2, 0, 0) := by decide +kernel
theorem u_129_247 {a : Int32} {z0 : Option Value} {z1 : Option Value} {z2 : Option Value} {z3 : Option Value} {lv : am_L} {st : List Value} : am_W G (am_M G d) 129 K 247 (z0 :: z1 :: z2 :: z3 :: some (.int a) :: lv) st h nc ns = (am_W G (am_M G d) 129 K 249 (z0 :: z1 :: z2 :: z3 :: some (.int a) :: lv) (.int a :: st) h nc ns) := am_u e_129_247
theorem e_129_249 : pg_code 129 249 = some (.iconst 1, 1, 0, 0) := by decide +kernel
theorem u_129_249 {lv : am_L} {st : List Value} : am_W G (am_M G d) 129 K 249 lv st h nc ns = (am_W G (am_M G d) 129 K 250 lv (.int 1 :: st) h nc ns) := am_u e_129_249
theorem e_129_250 : pg_code 129 250 = some (.iadd, 1, 0, 0) := by decide +kernel
theorem u_129_250 {a b : Int32} {lv : am_L} {st : List Value} : am_W G (am_M G d) 129 K 250 lv (.int b :: .int a :: st) h nc ns = (am_W G (am_M G d) 129 K 251 lv (.int (a + b) :: st) h nc ns) := am_u e_129_250
theorem e_129_251 : pg_code 129 251 = some (.iaload, 1, 1, 0) := by decide +kernel
theorem u_129_251 {a : Nat} {j : Int32} {lv : am_L} {st : List Value} : am_W G (am_M G d) 129 K 251 lv (.int j :: .ref a :: st) h nc ns = ((a = G.1 ∧ vp_in j G.2.1) ∧ am_W G (am_M G d) 129 K 252 lv (.int (G.2.2 j.toNatClampNeg) :: st) h nc ns) := am_u e_129_251
theorem e_129_252 : pg_code 129 252 = some (.aload_n 0, 1, 0, 0) := by decide +kernel
theorem u_129_252 {a : Nat} {lv : am_L} {st : List Value} : am_W G (am_M G d) 129 K 252 (some (.ref a) :: lv) st h nc ns = (am_W G (am_M G d) 129 K 253 (some (.ref a) :: lv) (.ref a :: st) h nc ns) := am_u e_129_252
theorem e_129_253 : pg_code 129 253 = some (.iload 4, 2, 0, 0) := by decide +kernel
theorem u_129_253 {a : Int32} {z0 : Option Value} {z1 : Option Value} {z2 : Option Value} {z3 : Option Value} {lv : am_L} {st : List Value} : am_W G (am_M G d) 129 K 253 (z0 :: z1 :: z2 :: z3 :: some (.int a) :: lv) st h nc ns = (am_W G (am_M G d) 129 K 255 (z0 :: z1 :: z2 :: z3 :: some (.int a) :: lv) (.int a :: st) h nc ns) := am_u e_129_253
theorem e_129_255 : pg_code 129 255 = some (.iconst 2, 1, 0, 0) := by decide +kernel
theorem u_129_255 {lv : am_L} {st : List Value} : am_W G (am_M G d) 129 K 255 lv st h nc ns = (am_W G (am_M G d) 129 K 256 lv (.int 2 :: st) h nc ns) := am_u e_129_255
theorem e_129_256 : pg_code 129 256 = some (.iadd, 1, 0, 0) := by decide +kernel
theorem u_129_256 {a b : Int32} {lv : am_L} {st : List Value} : am_W G (am_M G d) 129 K 256 lv (.int b :: .int a :: st) h nc ns = (am_W G (am_M G d) 129 K 257 lv (.int (a + b) :: st) h nc ns) := am_u e_129_256
theorem e_129_257 : pg_code 129 257 = some (.iaload, 1, 1, 0) := by decide +kernel
theorem u_129_257 {a : Nat} {j : Int32} {lv : am_L} {st : List Value} : am_W G (am_M G d) 129 K 257 lv (.int j :: .ref a :: st) h nc ns = ((a = G.1 ∧ vp_in j G.2.1) ∧ am_W G (am_M G d) 129 K 258 lv (.int (G.2.2 j.toNatClampNeg) :: st) h nc ns) := am_u e_129_257
theorem e_129_258 : pg_code 129 258 = some (.aload_n 0, 1, 0, 0) := by decide +kernel
theorem u_129_258 {a : Nat} {lv : am_L} {st : List Value} : am_W G (am_M G d) 129 K 258 (some (.ref a) :: lv) st h nc ns = (am_W G (am_M G d) 129 K 259 (some (.ref a) :: lv) (.ref a :: st) h nc ns) := am_u e_129_258
theorem e_129_259 : pg_code 129 259 = some (.iload 4, 2, 0, 0) := by decide +kernel
theorem u_129_259 {a : Int32} {z0 : Option Value} {z1 : Option Value} {z2 : Option Value} {z3 : Option Value} {lv : am_L} {st : List Value} : am_W G (am_M G d) 129 K 259 (z0 :: z1 :: z2 :: z3 :: some (.int a) :: lv) st h nc ns = (am_W G (am_M G d) 129 K 261 (z0 :: z1 :: z2 :: z3 :: some (.int a) :: lv) (.int a :: st) h nc ns) := am_u e_129_259
theorem e_129_261 : pg_code 129 261 = some (.iconst 3, 1, 0, 0) := by decide +kernel
theorem u_129_261 {lv : am_L} {st : List Value} : am_W G (am_M G d) 129 K 261 lv st h nc ns = (am_W G (am_M G d) 129 K 262 lv (.int 3 :: st) h nc ns) := am_u e_129_261
theorem e_129_262 : pg_code 129 262 = some (.iadd, 1, 0, 0) := by decide +kernel
theorem u_129_262 {a b : Int32} {lv : am_L} {st : List Value} : am_W G (am_M G d) 129 K 262 lv (.int b :: .int a :: st) h nc ns = (am_W G (am_M G d) 129 K 263 lv (.int (a + b) :: st) h nc ns) := am_u e_129_262
theorem e_129_263 : pg_code 129 263 = some (.iaload, 1, 1, 0) := by decide +kernel
theorem u_129_263 {a : Nat} {j : Int32} {lv : am_L} {st : List Value} : am_W G (am_M G d) 129 K 263 lv (.int j :: .ref a :: st) h nc ns = ((a = G.1 ∧ vp_in j G.2.1) ∧ am_W G (am_M G d) 129 K 264 lv (.int (G.2.2 j.toNatClampNeg) :: st) h nc ns) := am_u e_129_263
theorem e_129_264 : pg_code 129 264 = some (.invokevirtual 90, 3, 86, 4) := by decide +kernel
theorem u_129_264 {a : Nat} {v0 v1 v2 : Value} {lv : am_L} {st : List Value} : am_W G (am_M G d) 129 K 264 lv (v2 :: v1 :: v0 :: .ref a :: st) h nc ns = ((am_words st ≤ 8 ∧ nc + 0 ≤ 601024 ∧ ns + 0 ≤ 7293034 ∧ f_rc (h a) 7) ∧ am_M G d 86 [.ref a, v0, v1, v2] h (am_back 129 K (am_W G (am_M G d) 129 K) 86 264 lv st nc ns)) := (am_u e_129_264).trans (f_iv_eq (a := a) (G := G) (d := d) (k := 129) (K := K) (pc := 264) (lv := lv) (st := st) (h := h) (nc := nc) (ns := ns) (x := 86) (X := am_W G (am_M G d) 129 K) [v0, v1, v2] (by decide) rfl)
theorem e_129_267 : pg_code 129 267 = some (.istore 6, 2, 0, 0) := by decide +kernel
theorem u_129_267 {a : Int32} {lv : am_L} {st : List Value} : am_W G (am_M G d) 129 K 267 lv (.int a :: st) h nc ns = (am_W G (am_M G d) 129 K 269 (am_st1 lv 6 (.int a)) st h nc ns) := (am_u e_129_267).trans (f_t (by decide +kernel))
theorem e_129_269 : pg_code 129 269 = some (.aload_n 2, 1, 0, 0) := by decide +kernel
theorem u_129_269 {a : Nat} {z0 : Option Value} {z1 : Option Value} {lv : am_L} {st : List Value} : am_W G (am_M G d) 129 K 269 (z0 :: z1 :: some (.ref a) :: lv) st h nc ns = (am_W G (am_M G d) 129 K 270 (z0 :: z1 :: some (.ref a) :: lv) (.ref a :: st) h nc ns) := am_u e_129_269
theorem e_129_270 : pg_code 129 270 = some (.invokevirtual 84, 3, 83, 1) := by decide +kernel
theorem u_129_270 {a : Nat} {lv : am_L} {st : List Value} : am_W G (am_M G d) 129 K 270 lv (.ref a :: st) h nc ns = ((am_words st ≤ 8 ∧ nc + 0 ≤ 601024 ∧ ns + 0 ≤ 7293034 ∧ f_rc (h a) 7) ∧ am_M G d 83 [.ref a] h (am_back 129 K (am_W G (am_M G d) 129 K) 83 270 lv st nc ns)) := (am_u e_129_270).trans (f_iv_eq (a := a) (G := G) (d := d) (k := 129) (K := K) (pc := 270) (lv := lv) (st := st) (h := h) (nc := nc) (ns := ns) (x := 83) (X := am_W G (am_M G d) 129 K) [] (by decide) rfl)
theorem e_129_273 : pg_code 129 273 = some (.iload 5, 2, 0, 0) := by decide +kernel
theorem u_129_273 {a : Int32} {z0 : Option Value} {z1 : Option Value} {z2 : Option Value} {z3 : Option Value} {z4 : Option Value} {lv : am_L} {st : List Value} : am_W G (am_M G d) 129 K 273 (z0 :: z1 :: z2 :: z3 :: z4 :: some (.int a) :: lv) st h nc ns = (am_W G (am_M G d) 129 K 275 (z0 :: z1 :: z2 :: z3 :: z4 :: some (.int a) :: lv) (.int a :: st) h nc ns) := am_u e_129_273
theorem e_129_275 : pg_code 129 275 = some (.if_icmp .eq 5, 3, 280, 0) := by decide +kernel
theorem u_129_275 {a b : Int32} {lv : am_L} {st : List Value} : am_W G (am_M G d) 129 K 275 lv (.int b :: .int a :: st) h nc ns = (am_br (a = b) (am_W G (am_M G d) 129 K 280 lv st h nc ns) (am_W G (am_M G d) 129 K 278 lv st h nc ns)) := am_u e_129_275
theorem e_129_278 : pg_code 129 278 = some (.iconst 0, 1, 0, 0) := by decide +kernel
theorem u_129_278 {lv : am_L} {st : List Value} : am_W G (am_M G d) 129 K 278 lv st h nc ns = (am_W G (am_M G d) 129 K 279 lv (.int 0 :: st) h nc ns) := am_u e_129_278
theorem e_129_279 : pg_code 129 279 = some (.ireturn, 1, 0, 0) := by decide +kernel
theorem u_129_279 {a : Int32} {lv : am_L} : am_W G (am_M G d) 129 K 279 lv [.int a] h nc ns = (narrow .boolean (.int a) = .int a ∧ K (.inl (some (.int a))) h) := (am_u e_129_279).trans (f_z_eq rfl)
theorem e_129_280 : pg_code 129 280 = some (.iload 5, 2, 0, 0) := by decide +kernel
theorem u_129_280 {a : Int32} {z0 : Option Value} {z1 : Option Value} {z2 : Option Value} {z3 : Option Value} {z4 : Option Value} {lv : am_L} {st : List Value} : am_W G (am_M G d) 129 K 280 (z0 :: z1 :: z2 :: z3 :: z4 :: some (.int a) :: lv) st h nc ns = (am_W G (am_M G d) 129 K 282 (z0 :: z1 :: z2 :: z3 :: z4 :: some (.int a) :: lv) (.int a :: st) h nc ns) := am_u e_129_280
theorem e_129_282 : pg_code 129 282 = some (.ifCond .ne 15, 3, 297, 0) := by decide +kernel
theorem u_129_282 {a : Int32} {lv : am_L} {st : List Value} : am_W G (am_M G d) 129 K 282 lv (.int a :: st) h nc ns = (am_br (¬ a = 0) (am_W G (am_M G d) 129 K 297 lv st h nc ns) (am_W G (am_M G d) 129 K 285 lv st h nc ns)) := am_u e_129_282
theorem e_129_285 : pg_code 129 285 = some (.aload_n 3, 1, 0, 0) := by decide +kernel
theorem u_129_285 {a : Nat} {z0 : Option Value} {z1 : Option Value} {z2 : Option Value} {lv : am_L} {st : List Value} : am_W G (am_M G d) 129 K 285 (z0 :: z1 :: z2 :: some (.ref a) :: lv) st h nc ns = (am_W G (am_M G d) 129 K 286 (z0 :: z1 :: z2 :: some (.ref a) :: lv) (.ref a :: st) h nc ns) := am_u e_129_285
theorem e_129_286 : pg_code 129 286 = some (.iconst 0, 1, 0, 0) := by decide +kernel
theorem u_129_286 {lv : am_L} {st : List Value} : am_W G (am_M G d) 129 K 286 lv st h nc ns = (am_W G (am_M G d) 129 K 287 lv (.int 0 :: st) h nc ns) := am_u e_129_286
theorem e_129_287 : pg_code 129 287 = some (.laload, 1, 0, 0) := by decide +kernel
theorem u_129_287 {a : Nat} {j : Int32} {lv : am_L} {st : List Value} : am_W G (am_M G d) 129 K 287 lv (.int j :: .ref a :: st) h nc ns = (f_la G d 129 K 288 lv st h nc ns (h a) j) := am_u e_129_287
theorem e_129_288 : pg_code 129 288 = some (.iload 6, 2, 0, 0) := by decide +kernel
theorem u_129_288 {a : Int32} {z0 : Option Value} {z1 : Option Value} {z2 : Option Value} {z3 : Option Value} {z4 : Option Value} {z5 : Option Value} {lv : am_L} {st : List Value} : am_W G (am_M G d) 129 K 288 (z0 :: z1 :: z2 :: z3 :: z4 :: z5 :: some (.int a) :: lv) st h nc ns = (am_W G (am_M G d) 129 K 290 (z0 :: z1 :: z2 :: z3 :: z4 :: z5 :: some (.int a) :: lv) (.int a :: st) h nc ns) := am_u e_129_288
theorem e_129_290 : pg_code 129 290 = some (.i2l, 1, 0, 0) := by decide +kernel
theorem u_129_290 {a : Int32} {lv : am_L} {st : List Value} : am_W G (am_M G d) 129 K 290 lv (.int a :: st) h nc ns = (am_W G (am_M G d) 129 K 291 lv (.long a.toInt64 :: st) h nc ns) := am_u e_129_290
theorem e_129_291 : pg_code 129 291 = some (.lcmp, 1, 0, 0) := by decide +kernel
theorem u_129_291 {a b : Int64} {lv : am_L} {st : List Value} : am_W G (am_M G d) 129 K 291 lv (.long b :: .long a :: st) h nc ns = (am_W G (am_M G d) 129 K 292 lv (.int (lg_cmp a b) :: st) h nc ns) := am_u e_129_291
theorem e_129_292 : pg_code 129 292 = some (.ifCond .eq 5, 3, 297, 0) := by decide +kernel
theorem u_129_292 {a : Int32} {lv : am_L} {st : List Value} : am_W G (am_M G d) 129 K 292 lv (.int a :: st) h nc ns = (am_br (a = 0) (am_W G (am_M G d) 129 K 297 lv st h nc ns) (am_W G (am_M G d) 129 K 295 lv st h nc ns)) := am_u e_129_292
theorem e_129_295 : pg_code 129 295 = some (.iconst 0, 1, 0, 0) := by decide +kernel
theorem u_129_295 {lv : am_L} {st : List Value} : am_W G (am_M G d) 129 K 295 lv st h nc ns = (am_W G (am_M G d) 129 K 296 lv (.int 0 :: st) h nc ns) := am_u e_129_295
theorem e_129_296 : pg_code 129 296 = some (.ireturn, 1, 0, 0) := by decide +kernel
theorem u_129_296 {a : Int32} {lv : am_L} : am_W G (am_M G d) 129 K 296 lv [.int a] h nc ns = (narrow .boolean (.int a) = .int a ∧ K (.inl (some (.int a))) h) := (am_u e_129_296).trans (f_z_eq rfl)
theorem e_129_297 : pg_code 129 297 = some (.goto 982, 3, 1279, 0) := by decide +kernel
theorem u_129_297 {lv : am_L} {st : List Value} : am_W G (am_M G d) 129 K 297 lv st h nc ns = (am_W G (am_M G d) 129 K 1279 lv st h nc ns) := am_u e_129_297
theorem e_129_300 : pg_code 129 300 = some (.aload_n 1, 1, 0, 0) := by decide +kernel
theorem u_129_300 {a : Nat} {z0 : Option Value} {lv : am_L} {st : List Value} : am_W G (am_M G d) 129 K 300 (z0 :: some (.ref a) :: lv) st h nc ns = (am_W G (am_M G d) 129 K 301 (z0 :: some (.ref a) :: lv) (.ref a :: st) h nc ns) := am_u e_129_300
theorem e_129_301 : pg_code 129 301 = some (.aload_n 0, 1, 0, 0) := by decide +kernel
theorem u_129_301 {a : Nat} {lv : am_L} {st : List Value} : am_W G (am_M G d) 129 K 301 (some (.ref a) :: lv) st h nc ns = (am_W G (am_M G d) 129 K 302 (some (.ref a) :: lv) (.ref a :: st) h nc ns) := am_u e_129_301
theorem e_129_302 : pg_code 129 302 = some (.iload 4, 2, 0, 0) := by decide +kernel
theorem u_129_302 {a : Int32} {z0 : Option Value} {z1 : Option Value} {z2 : Option Value} {z3 : Option Value} {lv : am_L} {st : List Value} : am_W G (am_M G d) 129 K 302 (z0 :: z1 :: z2 :: z3 :: some (.int a) :: lv) st h nc ns = (am_W G (am_M G d) 129 K 304 (z0 :: z1 :: z2 :: z3 :: some (.int a) :: lv) (.int a :: st) h nc ns) := am_u e_129_302
theorem e_129_304 : pg_code 129 304 = some (.iconst 1, 1, 0, 0) := by decide +kernel
theorem u_129_304 {lv : am_L} {st : List Value} : am_W G (am_M G d) 129 K 304 lv st h nc ns = (am_W G (am_M G d) 129 K 305 lv (.int 1 :: st) h nc ns) := am_u e_129_304
theorem e_129_305 : pg_code 129 305 = some (.iadd, 1, 0, 0) := by decide +kernel
theorem u_129_305 {a b : Int32} {lv : am_L} {st : List Value} : am_W G (am_M G d) 129 K 305 lv (.int b :: .int a :: st) h nc ns = (am_W G (am_M G d) 129 K 306 lv (.int (a + b) :: st) h nc ns) := am_u e_129_305
theorem e_129_306 : pg_code 129 306 = some (.iaload, 1, 1, 0) := by decide +kernel
theorem u_129_306 {a : Nat} {j : Int32} {lv : am_L} {st : List Value} : am_W G (am_M G d) 129 K 306 lv (.int j :: .ref a :: st) h nc ns = ((a = G.1 ∧ vp_in j G.2.1) ∧ am_W G (am_M G d) 129 K 307 lv (.int (G.2.2 j.toNatClampNeg) :: st) h nc ns) := am_u e_129_306
theorem e_129_307 : pg_code 129 307 = some (.aload_n 0, 1, 0, 0) := by decide +kernel
theorem u_129_307 {a : Nat} {lv : am_L} {st : List Value} : am_W G (am_M G d) 129 K 307 (some (.ref a) :: lv) st h nc ns = (am_W G (am_M G d) 129 K 308 (some (.ref a) :: lv) (.ref a :: st) h nc ns) := am_u e_129_307
theorem e_129_308 : pg_code 129 308 = some (.iload 4, 2, 0, 0) := by decide +kernel
theorem u_129_308 {a : Int32} {z0 : Option Value} {z1 : Option Value} {z2 : Option Value} {z3 : Option Value} {lv : am_L} {st : List Value} : am_W G (am_M G d) 129 K 308 (z0 :: z1 :: z2 :: z3 :: some (.int a) :: lv) st h nc ns = (am_W G (am_M G d) 129 K 310 (z0 :: z1 :: z2 :: z3 :: some (.int a) :: lv) (.int a :: st) h nc ns) := am_u e_129_308
theorem e_129_310 : pg_code 129 310 = some (.iconst 2, 1, 0, 0) := by decide +kernel
theorem u_129_310 {lv : am_L} {st : List Value} : am_W G (am_M G d) 129 K 310 lv st h nc ns = (am_W G (am_M G d) 129 K 311 lv (.int 2 :: st) h nc ns) := am_u e_129_310
theorem e_129_311 : pg_code 129 311 = some (.iadd, 1, 0, 0) := by decide +kernel
theorem u_129_311 {a b : Int32} {lv : am_L} {st : List Value} : am_W G (am_M G d) 129 K 311 lv (.int b :: .int a :: st) h nc ns = (am_W G (am_M G d) 129 K 312 lv (.int (a + b) :: st) h nc ns) := am_u e_129_311
theorem e_129_312 : pg_code 129 312 = some (.iaload, 1, 1, 0) := by decide +kernel
theorem u_129_312 {a : Nat} {j : Int32} {lv : am_L} {st : List Value} : am_W G (am_M G d) 129 K 312 lv (.int j :: .ref a :: st) h nc ns = ((a = G.1 ∧ vp_in j G.2.1) ∧ am_W G (am_M G d) 129 K 313 lv (.int (G.2.2 j.toNatClampNeg) :: st) h nc ns) := am_u e_129_312
theorem e_129_313 : pg_code 129 313 = some (.i2l, 1, 0, 0) := by decide +kernel
theorem u_129_313 {a : Int32} {lv : am_L} {st : List Value} : am_W G (am_M G d) 129 K 313 lv (.int a :: st) h nc ns = (am_W G (am_M G d) 129 K 314 lv (.long a.toInt64 :: st) h nc ns) := am_u e_129_313
theorem e_129_314 : pg_code 129 314 = some (.bipush 32, 2, 0, 0) := by decide +kernel
theorem u_129_314 {lv : am_L} {st : List Value} : am_W G (am_M G d) 129 K 314 lv st h nc ns = (am_W G (am_M G d) 129 K 316 lv (.int 32 :: st) h nc ns) := am_u e_129_314
theorem e_129_316 : pg_code 129 316 = some (.lshl, 1, 0, 0) := by decide +kernel
theorem u_129_316 {a : Int64} {b : Int32} {lv : am_L} {st : List Value} : am_W G (am_M G d) 129 K 316 lv (.int b :: .long a :: st) h nc ns = (am_W G (am_M G d) 129 K 317 lv (.long (a <<< (b.toInt64 &&& 63)) :: st) h nc ns) := am_u e_129_316
theorem e_129_317 : pg_code 129 317 = some (.aload_n 0, 1, 0, 0) := by decide +kernel
theorem u_129_317 {a : Nat} {lv : am_L} {st : List Value} : am_W G (am_M G d) 129 K 317 (some (.ref a) :: lv) st h nc ns = (am_W G (am_M G d) 129 K 318 (some (.ref a) :: lv) (.ref a :: st) h nc ns) := am_u e_129_317
theorem e_129_318 : pg_code 129 318 = some (.iload 4, 2, 0, 0) := by decide +kernel
theorem u_129_318 {a : Int32} {z0 : Option Value} {z1 : Option Value} {z2 : Option Value} {z3 : Option Value} {lv : am_L} {st : List Value} : am_W G (am_M G d) 129 K 318 (z0 :: z1 :: z2 :: z3 :: some (.int a) :: lv) st h nc ns = (am_W G (am_M G d) 129 K 320 (z0 :: z1 :: z2 :: z3 :: some (.int a) :: lv) (.int a :: st) h nc ns) := am_u e_129_318
theorem e_129_320 : pg_code 129 320 = some (.iconst 3, 1, 0, 0) := by decide +kernel
theorem u_129_320 {lv : am_L} {st : List Value} : am_W G (am_M G d) 129 K 320 lv st h nc ns = (am_W G (am_M G d) 129 K 321 lv (.int 3 :: st) h nc ns) := am_u e_129_320
theorem e_129_321 : pg_code 129 321 = some (.iadd, 1, 0, 0) := by decide +kernel
theorem u_129_321 {a b : Int32} {lv : am_L} {st : List Value} : am_W G (am_M G d) 129 K 321 lv (.int b :: .int a :: st) h nc ns = (am_W G (am_M G d) 129 K 322 lv (.int (a + b) :: st) h nc ns) := am_u e_129_321
theorem e_129_322 : pg_code 129 322 = some (.iaload, 1, 1, 0) := by decide +kernel
theorem u_129_322 {a : Nat} {j : Int32} {lv : am_L} {st : List Value} : am_W G (am_M G d) 129 K 322 lv (.int j :: .ref a :: st) h nc ns = ((a = G.1 ∧ vp_in j G.2.1) ∧ am_W G (am_M G d) 129 K 323 lv (.int (G.2.2 j.toNatClampNeg) :: st) h nc ns) := am_u e_129_322
theorem e_129_323 : pg_code 129 323 = some (.i2l, 1, 0, 0) := by decide +kernel
theorem u_129_323 {a : Int32} {lv : am_L} {st : List Value} : am_W G (am_M G d) 129 K 323 lv (.int a :: st) h nc ns = (am_W G (am_M G d) 129 K 324 lv (.long a.toInt64 :: st) h nc ns) := am_u e_129_323
theorem e_129_324 : pg_code 129 324 = some (.ldc2_w 76, 3, 0, 0) := by decide +kernel
theorem u_129_324 {lv : am_L} {st : List Value} : am_W G (am_M G d) 129 K 324 lv st h nc ns = (am_W G (am_M G d) 129 K 327 lv (.long 4294967295 :: st) h nc ns) := am_u e_129_324
theorem e_129_327 : pg_code 129 327 = some (.land, 1, 0, 0) := by decide +kernel
theorem u_129_327 {a b : Int64} {lv : am_L} {st : List Value} : am_W G (am_M G d) 129 K 327 lv (.long b :: .long a :: st) h nc ns = (am_W G (am_M G d) 129 K 328 lv (.long (a &&& b) :: st) h nc ns) := am_u e_129_327
theorem e_129_328 : pg_code 129 328 = some (.lor, 1, 0, 0) := by decide +kernel
theorem u_129_328 {a b : Int64} {lv : am_L} {st : List Value} : am_W G (am_M G d) 129 K 328 lv (.long b :: .long a :: st) h nc ns = (am_W G (am_M G d) 129 K 329 lv (.long (a ||| b) :: st) h nc ns) := am_u e_129_328
theorem e_129_329 : pg_code 129 329 = some (.aload_n 3, 1, 0, 0) := by decide +kernel
theorem u_129_329 {a : Nat} {z0 : Option Value} {z1 : Option Value} {z2 : Option Value} {lv : am_L} {st : List Value} : am_W G (am_M G d) 129 K 329 (z0 :: z1 :: z2 :: some (.ref a) :: lv) st h nc ns = (am_W G (am_M G d) 129 K 330 (z0 :: z1 :: z2 :: some (.ref a) :: lv) (.ref a :: st) h nc ns) := am_u e_129_329
theorem e_129_330 : pg_code 129 330 = some (.invokestatic 91, 3, 46, 4) := by decide +kernel
theorem u_129_330 {v0 v1 v2 v3 : Value} {lv : am_L} {st : List Value} : am_W G (am_M G d) 129 K 330 lv (v3 :: v2 :: v1 :: v0 :: st) h nc ns = ((am_words st ≤ 8 ∧ nc + 1 ≤ 601024 ∧ ns + 6 ≤ 7293034) ∧ am_M G d 46 [v0, v1, v2, v3] h (am_back 129 K (am_W G (am_M G d) 129 K) 46 330 lv st nc ns)) := (am_u e_129_330).trans (f_st_eq (G := G) (d := d) (k := 129) (K := K) (pc := 330) (lv := lv) (st := st) (h := h) (nc := nc) (ns := ns) (x := 46) (X := am_W G (am_M G d) 129 K) [v0, v1, v2, v3] (by decide) rfl)
theorem e_129_333 : pg_code 129 333 = some (.istore 5, 2, 0, 0) := by decide +kernel
theorem u_129_333 {a : Int32} {lv : am_L} {st : List Value} : am_W G (am_M G d) 129 K 333 lv (.int a :: st) h nc ns = (am_W G (am_M G d) 129 K 335 (am_st1 lv 5 (.int a)) st h nc ns) := (am_u e_129_333).trans (f_t (by decide +kernel))
theorem e_129_335 : pg_code 129 335 = some (.aload_n 2, 1, 0, 0) := by decide +kernel
theorem u_129_335 {a : Nat} {z0 : Option Value} {z1 : Option Value} {lv : am_L} {st : List Value} : am_W G (am_M G d) 129 K 335 (z0 :: z1 :: some (.ref a) :: lv) st h nc ns = (am_W G (am_M G d) 129 K 336 (z0 :: z1 :: some (.ref a) :: lv) (.ref a :: st) h nc ns) := am_u e_129_335
theorem e_129_336 : pg_code 129 336 = some (.aload_n 0, 1, 0, 0) := by decide +kernel
theorem u_129_336 {a : Nat} {lv : am_L} {st : List Value} : am_W G (am_M G d) 129 K 336 (some (.ref a) :: lv) st h nc ns = (am_W G (am_M G d) 129 K 337 (some (.ref a) :: lv) (.ref a :: st) h nc ns) := am_u e_129_336
theorem e_129_337 : pg_code 129 337 = some (.iload 4, 2, 0, 0) := by decide +kernel
theorem u_129_337 {a : Int32} {z0 : Option Value} {z1 : Option Value} {z2 : Option Value} {z3 : Option Value} {lv : am_L} {st : List Value} : am_W G (am_M G d) 129 K 337 (z0 :: z1 :: z2 :: z3 :: some (.int a) :: lv) st h nc ns = (am_W G (am_M G d) 129 K 339 (z0 :: z1 :: z2 :: z3 :: some (.int a) :: lv) (.int a :: st) h nc ns) := am_u e_129_337
theorem e_129_339 : pg_code 129 339 = some (.iconst 1, 1, 0, 0) := by decide +kernel
theorem u_129_339 {lv : am_L} {st : List Value} : am_W G (am_M G d) 129 K 339 lv st h nc ns = (am_W G (am_M G d) 129 K 340 lv (.int 1 :: st) h nc ns) := am_u e_129_339
theorem e_129_340 : pg_code 129 340 = some (.iadd, 1, 0, 0) := by decide +kernel
theorem u_129_340 {a b : Int32} {lv : am_L} {st : List Value} : am_W G (am_M G d) 129 K 340 lv (.int b :: .int a :: st) h nc ns = (am_W G (am_M G d) 129 K 341 lv (.int (a + b) :: st) h nc ns) := am_u e_129_340
theorem e_129_341 : pg_code 129 341 = some (.iaload, 1, 1, 0) := by decide +kernel
theorem u_129_341 {a : Nat} {j : Int32} {lv : am_L} {st : List Value} : am_W G (am_M G d) 129 K 341 lv (.int j :: .ref a :: st) h nc ns = ((a = G.1 ∧ vp_in j G.2.1) ∧ am_W G (am_M G d) 129 K 342 lv (.int (G.2.2 j.toNatClampNeg) :: st) h nc ns) := am_u e_129_341
theorem e_129_342 : pg_code 129 342 = some (.aload_n 0, 1, 0, 0) := by decide +kernel
theorem u_129_342 {a : Nat} {lv : am_L} {st : List Value} : am_W G (am_M G d) 129 K 342 (some (.ref a) :: lv) st h nc ns = (am_W G (am_M G d) 129 K 343 (some (.ref a) :: lv) (.ref a :: st) h nc ns) := am_u e_129_342
theorem e_129_343 : pg_code 129 343 = some (.iload 4, 2, 0, 0) := by decide +kernel
theorem u_129_343 {a : Int32} {z0 : Option Value} {z1 : Option Value} {z2 : Option Value} {z3 : Option Value} {lv : am_L} {st : List Value} : am_W G (am_M G d) 129 K 343 (z0 :: z1 :: z2 :: z3 :: some (.int a) :: lv) st h nc ns = (am_W G (am_M G d) 129 K 345 (z0 :: z1 :: z2 :: z3 :: some (.int a) :: lv) (.int a :: st) h nc ns) := am_u e_129_343
theorem e_129_345 : pg_code 129 345 = some (.iconst 2, 1, 0, 0) := by decide +kernel
theorem u_129_345 {lv : am_L} {st : List Value} : am_W G (am_M G d) 129 K 345 lv st h nc ns = (am_W G (am_M G d) 129 K 346 lv (.int 2 :: st) h nc ns) := am_u e_129_345
theorem e_129_346 : pg_code 129 346 = some (.iadd, 1, 0, 0) := by decide +kernel
theorem u_129_346 {a b : Int32} {lv : am_L} {st : List Value} : am_W G (am_M G d) 129 K 346 lv (.int b :: .int a :: st) h nc ns = (am_W G (am_M G d) 129 K 347 lv (.int (a + b) :: st) h nc ns) := am_u e_129_346
theorem e_129_347 : pg_code 129 347 = some (.iaload, 1, 1, 0) := by decide +kernel
theorem u_129_347 {a : Nat} {j : Int32} {lv : am_L} {st : List Value} : am_W G (am_M G d) 129 K 347 lv (.int j :: .ref a :: st) h nc ns = ((a = G.1 ∧ vp_in j G.2.1) ∧ am_W G (am_M G d) 129 K 348 lv (.int (G.2.2 j.toNatClampNeg) :: st) h nc ns) := am_u e_129_347
theorem e_129_348 : pg_code 129 348 = some (.i2l, 1, 0, 0) := by decide +kernel
theorem u_129_348 {a : Int32} {lv : am_L} {st : List Value} : am_W G (am_M G d) 129 K 348 lv (.int a :: st) h nc ns = (am_W G (am_M G d) 129 K 349 lv (.long a.toInt64 :: st) h nc ns) := am_u e_129_348
theorem e_129_349 : pg_code 129 349 = some (.bipush 32, 2, 0, 0) := by decide +kernel
theorem u_129_349 {lv : am_L} {st : List Value} : am_W G (am_M G d) 129 K 349 lv st h nc ns = (am_W G (am_M G d) 129 K 351 lv (.int 32 :: st) h nc ns) := am_u e_129_349
theorem e_129_351 : pg_code 129 351 = some (.lshl, 1, 0, 0) := by decide +kernel
theorem u_129_351 {a : Int64} {b : Int32} {lv : am_L} {st : List Value} : am_W G (am_M G d) 129 K 351 lv (.int b :: .long a :: st) h nc ns = (am_W G (am_M G d) 129 K 352 lv (.long (a <<< (b.toInt64 &&& 63)) :: st) h nc ns) := am_u e_129_351
theorem e_129_352 : pg_code 129 352 = some (.aload_n 0, 1, 0, 0) := by decide +kernel
theorem u_129_352 {a : Nat} {lv : am_L} {st : List Value} : am_W G (am_M G d) 129 K 352 (some (.ref a) :: lv) st h nc ns = (am_W G (am_M G d) 129 K 353 (some (.ref a) :: lv) (.ref a :: st) h nc ns) := am_u e_129_352
theorem e_129_353 : pg_code 129 353 = some (.iload 4, 2, 0, 0) := by decide +kernel
theorem u_129_353 {a : Int32} {z0 : Option Value} {z1 : Option Value} {z2 : Option Value} {z3 : Option Value} {lv : am_L} {st : List Value} : am_W G (am_M G d) 129 K 353 (z0 :: z1 :: z2 :: z3 :: some (.int a) :: lv) st h nc ns = (am_W G (am_M G d) 129 K 355 (z0 :: z1 :: z2 :: z3 :: some (.int a) :: lv) (.int a :: st) h nc ns) := am_u e_129_353
theorem e_129_355 : pg_code 129 355 = some (.iconst 3, 1, 0, 0) := by decide +kernel
theorem u_129_355 {lv : am_L} {st : List Value} : am_W G (am_M G d) 129 K 355 lv st h nc ns = (am_W G (am_M G d) 129 K 356 lv (.int 3 :: st) h nc ns) := am_u e_129_355
theorem e_129_356 : pg_code 129 356 = some (.iadd, 1, 0, 0) := by decide +kernel
theorem u_129_356 {a b : Int32} {lv : am_L} {st : List Value} : am_W G (am_M G d) 129 K 356 lv (.int b :: .int a :: st) h nc ns = (am_W G (am_M G d) 129 K 357 lv (.int (a + b) :: st) h nc ns) := am_u e_129_356
theorem e_129_357 : pg_code 129 357 = some (.iaload, 1, 1, 0) := by decide +kernel
theorem u_129_357 {a : Nat} {j : Int32} {lv : am_L} {st : List Value} : am_W G (am_M G d) 129 K 357 lv (.int j :: .ref a :: st) h nc ns = ((a = G.1 ∧ vp_in j G.2.1) ∧ am_W G (am_M G d) 129 K 358 lv (.int (G.2.2 j.toNatClampNeg) :: st) h nc ns) := am_u e_129_357
theorem e_129_358 : pg_code 129 358 = some (.i2l, 1, 0, 0) := by decide +kernel
theorem u_129_358 {a : Int32} {lv : am_L} {st : List Value} : am_W G (am_M G d) 129 K 358 lv (.int a :: st) h nc ns = (am_W G (am_M G d) 129 K 359 lv (.long a.toInt64 :: st) h nc ns) := am_u e_129_358
theorem e_129_359 : pg_code 129 359 = some (.ldc2_w 76, 3, 0, 0) := by decide +kernel
theorem u_129_359 {lv : am_L} {st : List Value} : am_W G (am_M G d) 129 K 359 lv st h nc ns = (am_W G (am_M G d) 129 K 362 lv (.long 4294967295 :: st) h nc ns) := am_u e_129_359
theorem e_129_362 : pg_code 129 362 = some (.land, 1, 0, 0) := by decide +kernel
theorem u_129_362 {a b : Int64} {lv : am_L} {st : List Value} : am_W G (am_M G d) 129 K 362 lv (.long b :: .long a :: st) h nc ns = (am_W G (am_M G d) 129 K 363 lv (.long (a &&& b) :: st) h nc ns) := am_u e_129_362
theorem e_129_363 : pg_code 129 363 = some (.lor, 1, 0, 0) := by decide +kernel
theorem u_129_363 {a b : Int64} {lv : am_L} {st : List Value} : am_W G (am_M G d) 129 K 363 lv (.long b :: .long a :: st) h nc ns = (am_W G (am_M G d) 129 K 364 lv (.long (a ||| b) :: st) h nc ns) := am_u e_129_363
theorem e_129_364 : pg_code 129 364 = some (.invokevirtual 94, 3, 92, 3) := by decide +kernel
theorem u_129_364 {a : Nat} {v0 v1 : Value} {lv : am_L} {st : List Value} : am_W G (am_M G d) 129 K 364 lv (v1 :: v0 :: .ref a :: st) h nc ns = ((am_words st ≤ 8 ∧ nc + 0 ≤ 601024 ∧ ns + 0 ≤ 7293034 ∧ f_rc (h a) 7) ∧ am_M G d 92 [.ref a, v0, v1] h (am_back 129 K (am_W G (am_M G d) 129 K) 92 364 lv st nc ns)) := (am_u e_129_364).trans (f_iv_eq (a := a) (G := G) (d := d) (k := 129) (K := K) (pc := 364) (lv := lv) (st := st) (h := h) (nc := nc) (ns := ns) (x := 92) (X := am_W G (am_M G d) 129 K) [v0, v1] (by decide) rfl)
theorem e_129_367 : pg_code 129 367 = some (.lstore 6, 2, 0, 0) := by decide +kernel
theorem u_129_367 {a : Int64} {lv : am_L} {st : List Value} : am_W G (am_M G d) 129 K 367 lv (.long a :: st) h nc ns = (am_W G (am_M G d) 129 K 369 (am_st2 lv 6 (.long a)) st h nc ns) := (am_u e_129_367).trans (f_t (by decide +kernel))
theorem e_129_369 : pg_code 129 369 = some (.aload_n 2, 1, 0, 0) := by decide +kernel
theorem u_129_369 {a : Nat} {z0 : Option Value} {z1 : Option Value} {lv : am_L} {st : List Value} : am_W G (am_M G d) 129 K 369 (z0 :: z1 :: some (.ref a) :: lv) st h nc ns = (am_W G (am_M G d) 129 K 370 (z0 :: z1 :: some (.ref a) :: lv) (.ref a :: st) h nc ns) := am_u e_129_369
theorem e_129_370 : pg_code 129 370 = some (.invokevirtual 84, 3, 83, 1) := by decide +kernel
theorem u_129_370 {a : Nat} {lv : am_L} {st : List Value} : am_W G (am_M G d) 129 K 370 lv (.ref a :: st) h nc ns = ((am_words st ≤ 8 ∧ nc + 0 ≤ 601024 ∧ ns + 0 ≤ 7293034 ∧ f_rc (h a) 7) ∧ am_M G d 83 [.ref a] h (am_back 129 K (am_W G (am_M G d) 129 K) 83 370 lv st nc ns)) := (am_u e_129_370).trans (f_iv_eq (a := a) (G := G) (d := d) (k := 129) (K := K) (pc := 370) (lv := lv) (st := st) (h := h) (nc := nc) (ns := ns) (x := 83) (X := am_W G (am_M G d) 129 K) [] (by decide) rfl)
theorem e_129_373 : pg_code 129 373 = some (.iload 5, 2, 0, 0) := by decide +kernel
theorem u_129_373 {a : Int32} {z0 : Option Value} {z1 : Option Value} {z2 : Option Value} {z3 : Option Value} {z4 : Option Value} {lv : am_L} {st : List Value} : am_W G (am_M G d) 129 K 373 (z0 :: z1 :: z2 :: z3 :: z4 :: some (.int a) :: lv) st h nc ns = (am_W G (am_M G d) 129 K 375 (z0 :: z1 :: z2 :: z3 :: z4 :: some (.int a) :: lv) (.int a :: st) h nc ns) := am_u e_129_373
theorem e_129_375 : pg_code 129 375 = some (.if_icmp .eq 5, 3, 380, 0) := by decide +kernel
theorem u_129_375 {a b : Int32} {lv : am_L} {st : List Value} : am_W G (am_M G d) 129 K 375 lv (.int b :: .int a :: st) h nc ns = (am_br (a = b) (am_W G (am_M G d) 129 K 380 lv st h nc ns) (am_W G (am_M G d) 129 K 378 lv st h nc ns)) := am_u e_129_375
theorem e_129_378 : pg_code 129 378 = some (.iconst 0, 1, 0, 0) := by decide +kernel
theorem u_129_378 {lv : am_L} {st : List Value} : am_W G (am_M G d) 129 K 378 lv st h nc ns = (am_W G (am_M G d) 129 K 379 lv (.int 0 :: st) h nc ns) := am_u e_129_378
theorem e_129_379 : pg_code 129 379 = some (.ireturn, 1, 0, 0) := by decide +kernel
theorem u_129_379 {a : Int32} {lv : am_L} : am_W G (am_M G d) 129 K 379 lv [.int a] h nc ns = (narrow .boolean (.int a) = .int a ∧ K (.inl (some (.int a))) h) := (am_u e_129_379).trans (f_z_eq rfl)
theorem e_129_380 : pg_code 129 380 = some (.iload 5, 2, 0, 0) := by decide +kernel
theorem u_129_380 {a : Int32} {z0 : Option Value} {z1 : Option Value} {z2 : Option Value} {z3 : Option Value} {z4 : Option Value} {lv : am_L} {st : List Value} : am_W G (am_M G d) 129 K 380 (z0 :: z1 :: z2 :: z3 :: z4 :: some (.int a) :: lv) st h nc ns = (am_W G (am_M G d) 129 K 382 (z0 :: z1 :: z2 :: z3 :: z4 :: some (.int a) :: lv) (.int a :: st) h nc ns) := am_u e_129_380
theorem e_129_382 : pg_code 129 382 = some (.ifCond .ne 14, 3, 396, 0) := by decide +kernel
theorem u_129_382 {a : Int32} {lv : am_L} {st : List Value} : am_W G (am_M G d) 129 K 382 lv (.int a :: st) h nc ns = (am_br (¬ a = 0) (am_W G (am_M G d) 129 K 396 lv st h nc ns) (am_W G (am_M G d) 129 K 385 lv st h nc ns)) := am_u e_129_382
theorem e_129_385 : pg_code 129 385 = some (.aload_n 3, 1, 0, 0) := by decide +kernel
theorem u_129_385 {a : Nat} {z0 : Option Value} {z1 : Option Value} {z2 : Option Value} {lv : am_L} {st : List Value} : am_W G (am_M G d) 129 K 385 (z0 :: z1 :: z2 :: some (.ref a) :: lv) st h nc ns = (am_W G (am_M G d) 129 K 386 (z0 :: z1 :: z2 :: some (.ref a) :: lv) (.ref a :: st) h nc ns) := am_u e_129_385
theorem e_129_386 : pg_code 129 386 = some (.iconst 0, 1, 0, 0) := by decide +kernel
theorem u_129_386 {lv : am_L} {st : List Value} : am_W G (am_M G d) 129 K 386 lv st h nc ns = (am_W G (am_M G d) 129 K 387 lv (.int 0 :: st) h nc ns) := am_u e_129_386
theorem e_129_387 : pg_code 129 387 = some (.laload, 1, 0, 0) := by decide +kernel
theorem u_129_387 {a : Nat} {j : Int32} {lv : am_L} {st : List Value} : am_W G (am_M G d) 129 K 387 lv (.int j :: .ref a :: st) h nc ns = (f_la G d 129 K 388 lv st h nc ns (h a) j) := am_u e_129_387
theorem e_129_388 : pg_code 129 388 = some (.lload 6, 2, 0, 0) := by decide +kernel
theorem u_129_388 {a : Int64} {z0 : Option Value} {z1 : Option Value} {z2 : Option Value} {z3 : Option Value} {z4 : Option Value} {z5 : Option Value} {lv : am_L} {st : List Value} : am_W G (am_M G d) 129 K 388 (z0 :: z1 :: z2 :: z3 :: z4 :: z5 :: some (.long a) :: lv) st h nc ns = (am_W G (am_M G d) 129 K 390 (z0 :: z1 :: z2 :: z3 :: z4 :: z5 :: some (.long a) :: lv) (.long a :: st) h nc ns) := am_u e_129_388
theorem e_129_390 : pg_code 129 390 = some (.lcmp, 1, 0, 0) := by decide +kernel
theorem u_129_390 {a b : Int64} {lv : am_L} {st : List Value} : am_W G (am_M G d) 129 K 390 lv (.long b :: .long a :: st) h nc ns = (am_W G (am_M G d) 129 K 391 lv (.int (lg_cmp a b) :: st) h nc ns) := am_u e_129_390
theorem e_129_391 : pg_code 129 391 = some (.ifCond .eq 5, 3, 396, 0) := by decide +kernel
theorem u_129_391 {a : Int32} {lv : am_L} {st : List Value} : am_W G (am_M G d) 129 K 391 lv (.int a :: st) h nc ns = (am_br (a = 0) (am_W G (am_M G d) 129 K 396 lv st h nc ns) (am_W G (am_M G d) 129 K 394 lv st h nc ns)) := am_u e_129_391
theorem e_129_394 : pg_code 129 394 = some (.iconst 0, 1, 0, 0) := by decide +kernel
theorem u_129_394 {lv : am_L} {st : List Value} : am_W G (am_M G d) 129 K 394 lv st h nc ns = (am_W G (am_M G d) 129 K 395 lv (.int 0 :: st) h nc ns) := am_u e_129_394
theorem e_129_395 : pg_code 129 395 = some (.ireturn, 1, 0, 0) := by decide +kernel
theorem u_129_395 {a : Int32} {lv : am_L} : am_W G (am_M G d) 129 K 395 lv [.int a] h nc ns = (narrow .boolean (.int a) = .int a ∧ K (.inl (some (.int a))) h) := (am_u e_129_395).trans (f_z_eq rfl)
theorem e_129_396 : pg_code 129 396 = some (.goto 883, 3, 1279, 0) := by decide +kernel
theorem u_129_396 {lv : am_L} {st : List Value} : am_W G (am_M G d) 129 K 396 lv st h nc ns = (am_W G (am_M G d) 129 K 1279 lv st h nc ns) := am_u e_129_396
theorem e_129_399 : pg_code 129 399 = some (.aload_n 1, 1, 0, 0) := by decide +kernel
theorem u_129_399 {a : Nat} {z0 : Option Value} {lv : am_L} {st : List Value} : am_W G (am_M G d) 129 K 399 (z0 :: some (.ref a) :: lv) st h nc ns = (am_W G (am_M G d) 129 K 400 (z0 :: some (.ref a) :: lv) (.ref a :: st) h nc ns) := am_u e_129_399
theorem e_129_400 : pg_code 129 400 = some (.aload_n 0, 1, 0, 0) := by decide +kernel
theorem u_129_400 {a : Nat} {lv : am_L} {st : List Value} : am_W G (am_M G d) 129 K 400 (some (.ref a) :: lv) st h nc ns = (am_W G (am_M G d) 129 K 401 (some (.ref a) :: lv) (.ref a :: st) h nc ns) := am_u e_129_400
theorem e_129_401 : pg_code 129 401 = some (.iload 4, 2, 0, 0) := by decide +kernel
theorem u_129_401 {a : Int32} {z0 : Option Value} {z1 : Option Value} {z2 : Option Value} {z3 : Option Value} {lv : am_L} {st : List Value} : am_W G (am_M G d) 129 K 401 (z0 :: z1 :: z2 :: z3 :: some (.int a) :: lv) st h nc ns = (am_W G (am_M G d) 129 K 403 (z0 :: z1 :: z2 :: z3 :: some (.int a) :: lv) (.int a :: st) h nc ns) := am_u e_129_401
theorem e_129_403 : pg_code 129 403 = some (.iconst 1, 1, 0, 0) := by decide +kernel
theorem u_129_403 {lv : am_L} {st : List Value} : am_W G (am_M G d) 129 K 403 lv st h nc ns = (am_W G (am_M G d) 129 K 404 lv (.int 1 :: st) h nc ns) := am_u e_129_403
theorem e_129_404 : pg_code 129 404 = some (.iadd, 1, 0, 0) := by decide +kernel
theorem u_129_404 {a b : Int32} {lv : am_L} {st : List Value} : am_W G (am_M G d) 129 K 404 lv (.int b :: .int a :: st) h nc ns = (am_W G (am_M G d) 129 K 405 lv (.int (a + b) :: st) h nc ns) := am_u e_129_404
theorem e_129_405 : pg_code 129 405 = some (.iaload, 1, 1, 0) := by decide +kernel
theorem u_129_405 {a : Nat} {j : Int32} {lv : am_L} {st : List Value} : am_W G (am_M G d) 129 K 405 lv (.int j :: .ref a :: st) h nc ns = ((a = G.1 ∧ vp_in j G.2.1) ∧ am_W G (am_M G d) 129 K 406 lv (.int (G.2.2 j.toNatClampNeg) :: st) h nc ns) := am_u e_129_405
theorem e_129_406 : pg_code 129 406 = some (.aload_n 0, 1, 0, 0) := by decide +kernel
theorem u_129_406 {a : Nat} {lv : am_L} {st : List Value} : am_W G (am_M G d) 129 K 406 (some (.ref a) :: lv) st h nc ns = (am_W G (am_M G d) 129 K 407 (some (.ref a) :: lv) (.ref a :: st) h nc ns) := am_u e_129_406
theorem e_129_407 : pg_code 129 407 = some (.iload 4, 2, 0, 0) := by decide +kernel
theorem u_129_407 {a : Int32} {z0 : Option Value} {z1 : Option Value} {z2 : Option Value} {z3 : Option Value} {lv : am_L} {st : List Value} : am_W G (am_M G d) 129 K 407 (z0 :: z1 :: z2 :: z3 :: some (.int a) :: lv) st h nc ns = (am_W G (am_M G d) 129 K 409 (z0 :: z1 :: z2 :: z3 :: some (.int a) :: lv) (.int a :: st) h nc ns) := am_u e_129_407
theorem e_129_409 : pg_code 129 409 = some (.iconst 2, 1, 0, 0) := by decide +kernel
theorem u_129_409 {lv : am_L} {st : List Value} : am_W G (am_M G d) 129 K 409 lv st h nc ns = (am_W G (am_M G d) 129 K 410 lv (.int 2 :: st) h nc ns) := am_u e_129_409
theorem e_129_410 : pg_code 129 410 = some (.iadd, 1, 0, 0) := by decide +kernel
theorem u_129_410 {a b : Int32} {lv : am_L} {st : List Value} : am_W G (am_M G d) 129 K 410 lv (.int b :: .int a :: st) h nc ns = (am_W G (am_M G d) 129 K 411 lv (.int (a + b) :: st) h nc ns) := am_u e_129_410
theorem e_129_411 : pg_code 129 411 = some (.iaload, 1, 1, 0) := by decide +kernel
theorem u_129_411 {a : Nat} {j : Int32} {lv : am_L} {st : List Value} : am_W G (am_M G d) 129 K 411 lv (.int j :: .ref a :: st) h nc ns = ((a = G.1 ∧ vp_in j G.2.1) ∧ am_W G (am_M G d) 129 K 412 lv (.int (G.2.2 j.toNatClampNeg) :: st) h nc ns) := am_u e_129_411
theorem e_129_412 : pg_code 129 412 = some (.aload_n 0, 1, 0, 0) := by decide +kernel
theorem u_129_412 {a : Nat} {lv : am_L} {st : List Value} : am_W G (am_M G d) 129 K 412 (some (.ref a) :: lv) st h nc ns = (am_W G (am_M G d) 129 K 413 (some (.ref a) :: lv) (.ref a :: st) h nc ns) := am_u e_129_412
theorem e_129_413 : pg_code 129 413 = some (.iload 4, 2, 0, 0) := by decide +kernel
theorem u_129_413 {a : Int32} {z0 : Option Value} {z1 : Option Value} {z2 : Option Value} {z3 : Option Value} {lv : am_L} {st : List Value} : am_W G (am_M G d) 129 K 413 (z0 :: z1 :: z2 :: z3 :: some (.int a) :: lv) st h nc ns = (am_W G (am_M G d) 129 K 415 (z0 :: z1 :: z2 :: z3 :: some (.int a) :: lv) (.int a :: st) h nc ns) := am_u e_129_413
theorem e_129_415 : pg_code 129 415 = some (.iconst 3, 1, 0, 0) := by decide +kernel
theorem u_129_415 {lv : am_L} {st : List Value} : am_W G (am_M G d) 129 K 415 lv st h nc ns = (am_W G (am_M G d) 129 K 416 lv (.int 3 :: st) h nc ns) := am_u e_129_415
theorem e_129_416 : pg_code 129 416 = some (.iadd, 1, 0, 0) := by decide +kernel
theorem u_129_416 {a b : Int32} {lv : am_L} {st : List Value} : am_W G (am_M G d) 129 K 416 lv (.int b :: .int a :: st) h nc ns = (am_W G (am_M G d) 129 K 417 lv (.int (a + b) :: st) h nc ns) := am_u e_129_416
theorem e_129_417 : pg_code 129 417 = some (.iaload, 1, 1, 0) := by decide +kernel
theorem u_129_417 {a : Nat} {j : Int32} {lv : am_L} {st : List Value} : am_W G (am_M G d) 129 K 417 lv (.int j :: .ref a :: st) h nc ns = ((a = G.1 ∧ vp_in j G.2.1) ∧ am_W G (am_M G d) 129 K 418 lv (.int (G.2.2 j.toNatClampNeg) :: st) h nc ns) := am_u e_129_417
theorem e_129_418 : pg_code 129 418 = some (.aload_n 0, 1, 0, 0) := by decide +kernel
theorem u_129_418 {a : Nat} {lv : am_L} {st : List Value} : am_W G (am_M G d) 129 K 418 (some (.ref a) :: lv) st h nc ns = (am_W G (am_M G d) 129 K 419 (some (.ref a) :: lv) (.ref a :: st) h nc ns) := am_u e_129_418
theorem e_129_419 : pg_code 129 419 = some (.iload 4, 2, 0, 0) := by decide +kernel
theorem u_129_419 {a : Int32} {z0 : Option Value} {z1 : Option Value} {z2 : Option Value} {z3 : Option Value} {lv : am_L} {st : List Value} : am_W G (am_M G d) 129 K 419 (z0 :: z1 :: z2 :: z3 :: some (.int a) :: lv) st h nc ns = (am_W G (am_M G d) 129 K 421 (z0 :: z1 :: z2 :: z3 :: some (.int a) :: lv) (.int a :: st) h nc ns) := am_u e_129_419
theorem e_129_421 : pg_code 129 421 = some (.iconst 4, 1, 0, 0) := by decide +kernel
theorem u_129_421 {lv : am_L} {st : List Value} : am_W G (am_M G d) 129 K 421 lv st h nc ns = (am_W G (am_M G d) 129 K 422 lv (.int 4 :: st) h nc ns) := am_u e_129_421
theorem e_129_422 : pg_code 129 422 = some (.iadd, 1, 0, 0) := by decide +kernel
theorem u_129_422 {a b : Int32} {lv : am_L} {st : List Value} : am_W G (am_M G d) 129 K 422 lv (.int b :: .int a :: st) h nc ns = (am_W G (am_M G d) 129 K 423 lv (.int (a + b) :: st) h nc ns) := am_u e_129_422
theorem e_129_423 : pg_code 129 423 = some (.iaload, 1, 1, 0) := by decide +kernel
theorem u_129_423 {a : Nat} {j : Int32} {lv : am_L} {st : List Value} : am_W G (am_M G d) 129 K 423 lv (.int j :: .ref a :: st) h nc ns = ((a = G.1 ∧ vp_in j G.2.1) ∧ am_W G (am_M G d) 129 K 424 lv (.int (G.2.2 j.toNatClampNeg) :: st) h nc ns) := am_u e_129_423
theorem e_129_424 : pg_code 129 424 = some (.aload_n 3, 1, 0, 0) := by decide +kernel
theorem u_129_424 {a : Nat} {z0 : Option Value} {z1 : Option Value} {z2 : Option Value} {lv : am_L} {st : List Value} : am_W G (am_M G d) 129 K 424 (z0 :: z1 :: z2 :: some (.ref a) :: lv) st h nc ns = (am_W G (am_M G d) 129 K 425 (z0 :: z1 :: z2 :: some (.ref a) :: lv) (.ref a :: st) h nc ns) := am_u e_129_424
theorem e_129_425 : pg_code 129 425 = some (.invokestatic 95, 3, 48, 6) := by decide +kernel
theorem u_129_425 {v0 v1 v2 v3 v4 v5 : Value} {lv : am_L} {st : List Value} : am_W G (am_M G d) 129 K 425 lv (v5 :: v4 :: v3 :: v2 :: v1 :: v0 :: st) h nc ns = ((am_words st ≤ 8 ∧ nc + 2 ≤ 601024 ∧ ns + 12 ≤ 7293034) ∧ am_M G d 48 [v0, v1, v2, v3, v4, v5] h (am_back 129 K (am_W G (am_M G d) 129 K) 48 425 lv st nc ns)) := (am_u e_129_425).trans (f_st_eq (G := G) (d := d) (k := 129) (K := K) (pc := 425) (lv := lv) (st := st) (h := h) (nc := nc) (ns := ns) (x := 48) (X := am_W G (am_M G d) 129 K) [v0, v1, v2, v3, v4, v5] (by decide) rfl)
theorem e_129_428 : pg_code 129 428 = some (.istore 5, 2, 0, 0) := by decide +kernel
theorem u_129_428 {a : Int32} {lv : am_L} {st : List Value} : am_W G (am_M G d) 129 K 428 lv (.int a :: st) h nc ns = (am_W G (am_M G d) 129 K 430 (am_st1 lv 5 (.int a)) st h nc ns) := (am_u e_129_428).trans (f_t (by decide +kernel))
theorem e_129_430 : pg_code 129 430 = some (.aload_n 2, 1, 0, 0) := by decide +kernel
theorem u_129_430 {a : Nat} {z0 : Option Value} {z1 : Option Value} {lv : am_L} {st : List Value} : am_W G (am_M G d) 129 K 430 (z0 :: z1 :: some (.ref a) :: lv) st h nc ns = (am_W G (am_M G d) 129 K 431 (z0 :: z1 :: some (.ref a) :: lv) (.ref a :: st) h nc ns) := am_u e_129_430
theorem e_129_431 : pg_code 129 431 = some (.aload_n 0, 1, 0, 0) := by decide +kernel
theorem u_129_431 {a : Nat} {lv : am_L} {st : List Value} : am_W G (am_M G d) 129 K 431 (some (.ref a) :: lv) st h nc ns = (am_W G (am_M G d) 129 K 432 (some (.ref a) :: lv) (.ref a :: st) h nc ns) := am_u e_129_431
theorem e_129_432 : pg_code 129 432 = some (.iload 4, 2, 0, 0) := by decide +kernel
theorem u_129_432 {a : Int32} {z0 : Option Value} {z1 : Option Value} {z2 : Option Value} {z3 : Option Value} {lv : am_L} {st : List Value} : am_W G (am_M G d) 129 K 432 (z0 :: z1 :: z2 :: z3 :: some (.int a) :: lv) st h nc ns = (am_W G (am_M G d) 129 K 434 (z0 :: z1 :: z2 :: z3 :: some (.int a) :: lv) (.int a :: st) h nc ns) := am_u e_129_432
theorem e_129_434 : pg_code 129 434 = some (.iconst 1, 1, 0, 0) := by decide +kernel
theorem u_129_434 {lv : am_L} {st : List Value} : am_W G (am_M G d) 129 K 434 lv st h nc ns = (am_W G (am_M G d) 129 K 435 lv (.int 1 :: st) h nc ns) := am_u e_129_434
theorem e_129_435 : pg_code 129 435 = some (.iadd, 1, 0, 0) := by decide +kernel
theorem u_129_435 {a b : Int32} {lv : am_L} {st : List Value} : am_W G (am_M G d) 129 K 435 lv (.int b :: .int a :: st) h nc ns = (am_W G (am_M G d) 129 K 436 lv (.int (a + b) :: st) h nc ns) := am_u e_129_435
theorem e_129_436 : pg_code 129 436 = some (.iaload, 1, 1, 0) := by decide +kernel
theorem u_129_436 {a : Nat} {j : Int32} {lv : am_L} {st : List Value} : am_W G (am_M G d) 129 K 436 lv (.int j :: .ref a :: st) h nc ns = ((a = G.1 ∧ vp_in j G.2.1) ∧ am_W G (am_M G d) 129 K 437 lv (.int (G.2.2 j.toNatClampNeg) :: st) h nc ns) := am_u e_129_436
theorem e_129_437 : pg_code 129 437 = some (.aload_n 0, 1, 0, 0) := by decide +kernel
theorem u_129_437 {a : Nat} {lv : am_L} {st : List Value} : am_W G (am_M G d) 129 K 437 (some (.ref a) :: lv) st h nc ns = (am_W G (am_M G d) 129 K 438 (some (.ref a) :: lv) (.ref a :: st) h nc ns) := am_u e_129_437
theorem e_129_438 : pg_code 129 438 = some (.iload 4, 2, 0, 0) := by decide +kernel
theorem u_129_438 {a : Int32} {z0 : Option Value} {z1 : Option Value} {z2 : Option Value} {z3 : Option Value} {lv : am_L} {st : List Value} : am_W G (am_M G d) 129 K 438 (z0 :: z1 :: z2 :: z3 :: some (.int a) :: lv) st h nc ns = (am_W G (am_M G d) 129 K 440 (z0 :: z1 :: z2 :: z3 :: some (.int a) :: lv) (.int a :: st) h nc ns) := am_u e_129_438
theorem e_129_440 : pg_code 129 440 = some (.iconst 2, 1, 0, 0) := by decide +kernel
theorem u_129_440 {lv : am_L} {st : List Value} : am_W G (am_M G d) 129 K 440 lv st h nc ns = (am_W G (am_M G d) 129 K 441 lv (.int 2 :: st) h nc ns) := am_u e_129_440
theorem e_129_441 : pg_code 129 441 = some (.iadd, 1, 0, 0) := by decide +kernel
theorem u_129_441 {a b : Int32} {lv : am_L} {st : List Value} : am_W G (am_M G d) 129 K 441 lv (.int b :: .int a :: st) h nc ns = (am_W G (am_M G d) 129 K 442 lv (.int (a + b) :: st) h nc ns) := am_u e_129_441
theorem e_129_442 : pg_code 129 442 = some (.iaload, 1, 1, 0) := by decide +kernel
theorem u_129_442 {a : Nat} {j : Int32} {lv : am_L} {st : List Value} : am_W G (am_M G d) 129 K 442 lv (.int j :: .ref a :: st) h nc ns = ((a = G.1 ∧ vp_in j G.2.1) ∧ am_W G (am_M G d) 129 K 443 lv (.int (G.2.2 j.toNatClampNeg) :: st) h nc ns) := am_u e_129_442
theorem e_129_443 : pg_code 129 443 = some (.aload_n 0, 1, 0, 0) := by decide +kernel
theorem u_129_443 {a : Nat} {lv : am_L} {st : List Value} : am_W G (am_M G d) 129 K 443 (some (.ref a) :: lv) st h nc ns = (am_W G (am_M G d) 129 K 444 (some (.ref a) :: lv) (.ref a :: st) h nc ns) := am_u e_129_443
theorem e_129_444 : pg_code 129 444 = some (.iload 4, 2, 0, 0) := by decide +kernel
theorem u_129_444 {a : Int32} {z0 : Option Value} {z1 : Option Value} {z2 : Option Value} {z3 : Option Value} {lv : am_L} {st : List Value} : am_W G (am_M G d) 129 K 444 (z0 :: z1 :: z2 :: z3 :: some (.int a) :: lv) st h nc ns = (am_W G (am_M G d) 129 K 446 (z0 :: z1 :: z2 :: z3 :: some (.int a) :: lv) (.int a :: st) h nc ns) := am_u e_129_444
theorem e_129_446 : pg_code 129 446 = some (.iconst 3, 1, 0, 0) := by decide +kernel
theorem u_129_446 {lv : am_L} {st : List Value} : am_W G (am_M G d) 129 K 446 lv st h nc ns = (am_W G (am_M G d) 129 K 447 lv (.int 3 :: st) h nc ns) := am_u e_129_446
theorem e_129_447 : pg_code 129 447 = some (.iadd, 1, 0, 0) := by decide +kernel
theorem u_129_447 {a b : Int32} {lv : am_L} {st : List Value} : am_W G (am_M G d) 129 K 447 lv (.int b :: .int a :: st) h nc ns = (am_W G (am_M G d) 129 K 448 lv (.int (a + b) :: st) h nc ns) := am_u e_129_447
theorem e_129_448 : pg_code 129 448 = some (.iaload, 1, 1, 0) := by decide +kernel
theorem u_129_448 {a : Nat} {j : Int32} {lv : am_L} {st : List Value} : am_W G (am_M G d) 129 K 448 lv (.int j :: .ref a :: st) h nc ns = ((a = G.1 ∧ vp_in j G.2.1) ∧ am_W G (am_M G d) 129 K 449 lv (.int (G.2.2 j.toNatClampNeg) :: st) h nc ns) := am_u e_129_448
theorem e_129_449 : pg_code 129 449 = some (.aload_n 0, 1, 0, 0) := by decide +kernel
theorem u_129_449 {a : Nat} {lv : am_L} {st : List Value} : am_W G (am_M G d) 129 K 449 (some (.ref a) :: lv) st h nc ns = (am_W G (am_M G d) 129 K 450 (some (.ref a) :: lv) (.ref a :: st) h nc ns) := am_u e_129_449
theorem e_129_450 : pg_code 129 450 = some (.iload 4, 2, 0, 0) := by decide +kernel
theorem u_129_450 {a : Int32} {z0 : Option Value} {z1 : Option Value} {z2 : Option Value} {z3 : Option Value} {lv : am_L} {st : List Value} : am_W G (am_M G d) 129 K 450 (z0 :: z1 :: z2 :: z3 :: some (.int a) :: lv) st h nc ns = (am_W G (am_M G d) 129 K 452 (z0 :: z1 :: z2 :: z3 :: some (.int a) :: lv) (.int a :: st) h nc ns) := am_u e_129_450
theorem e_129_452 : pg_code 129 452 = some (.iconst 4, 1, 0, 0) := by decide +kernel
theorem u_129_452 {lv : am_L} {st : List Value} : am_W G (am_M G d) 129 K 452 lv st h nc ns = (am_W G (am_M G d) 129 K 453 lv (.int 4 :: st) h nc ns) := am_u e_129_452
theorem e_129_453 : pg_code 129 453 = some (.iadd, 1, 0, 0) := by decide +kernel
theorem u_129_453 {a b : Int32} {lv : am_L} {st : List Value} : am_W G (am_M G d) 129 K 453 lv (.int b :: .int a :: st) h nc ns = (am_W G (am_M G d) 129 K 454 lv (.int (a + b) :: st) h nc ns) := am_u e_129_453
theorem e_129_454 : pg_code 129 454 = some (.iaload, 1, 1, 0) := by decide +kernel
theorem u_129_454 {a : Nat} {j : Int32} {lv : am_L} {st : List Value} : am_W G (am_M G d) 129 K 454 lv (.int j :: .ref a :: st) h nc ns = ((a = G.1 ∧ vp_in j G.2.1) ∧ am_W G (am_M G d) 129 K 455 lv (.int (G.2.2 j.toNatClampNeg) :: st) h nc ns) := am_u e_129_454
theorem e_129_455 : pg_code 129 455 = some (.invokevirtual 98, 3, 95, 5) := by decide +kernel
theorem u_129_455 {a : Nat} {v0 v1 v2 v3 : Value} {lv : am_L} {st : List Value} : am_W G (am_M G d) 129 K 455 lv (v3 :: v2 :: v1 :: v0 :: .ref a :: st) h nc ns = ((am_words st ≤ 8 ∧ nc + 0 ≤ 601024 ∧ ns + 0 ≤ 7293034 ∧ f_rc (h a) 7) ∧ am_M G d 95 [.ref a, v0, v1, v2, v3] h (am_back 129 K (am_W G (am_M G d) 129 K) 95 455 lv st nc ns)) := (am_u e_129_455).trans (f_iv_eq (a := a) (G := G) (d := d) (k := 129) (K := K) (pc := 455) (lv := lv) (st := st) (h := h) (nc := nc) (ns := ns) (x := 95) (X := am_W G (am_M G d) 129 K) [v0, v1, v2, v3] (by decide) rfl)
theorem e_129_458 : pg_code 129 458 = some (.istore 6, 2, 0, 0) := by decide +kernel
theorem u_129_458 {a : Int32} {lv : am_L} {st : List Value} : am_W G (am_M G d) 129 K 458 lv (.int a :: st) h nc ns = (am_W G (am_M G d) 129 K 460 (am_st1 lv 6 (.int a)) st h nc ns) := (am_u e_129_458).trans (f_t (by decide +kernel))
theorem e_129_460 : pg_code 129 460 = some (.aload_n 2, 1, 0, 0) := by decide +kernel
theorem u_129_460 {a : Nat} {z0 : Option Value} {z1 : Option Value} {lv : am_L} {st : List Value} : am_W G (am_M G d) 129 K 460 (z0 :: z1 :: some (.ref a) :: lv) st h nc ns = (am_W G (am_M G d) 129 K 461 (z0 :: z1 :: some (.ref a) :: lv) (.ref a :: st) h nc ns) := am_u e_129_460
theorem e_129_461 : pg_code 129 461 = some (.invokevirtual 84, 3, 83, 1) := by decide +kernel
theorem u_129_461 {a : Nat} {lv : am_L} {st : List Value} : am_W G (am_M G d) 129 K 461 lv (.ref a :: st) h nc ns = ((am_words st ≤ 8 ∧ nc + 0 ≤ 601024 ∧ ns + 0 ≤ 7293034 ∧ f_rc (h a) 7) ∧ am_M G d 83 [.ref a] h (am_back 129 K (am_W G (am_M G d) 129 K) 83 461 lv st nc ns)) := (am_u e_129_461).trans (f_iv_eq (a := a) (G := G) (d := d) (k := 129) (K := K) (pc := 461) (lv := lv) (st := st) (h := h) (nc := nc) (ns := ns) (x := 83) (X := am_W G (am_M G d) 129 K) [] (by decide) rfl)
theorem e_129_464 : pg_code 129 464 = some (.iload 5, 2, 0, 0) := by decide +kernel
theorem u_129_464 {a : Int32} {z0 : Option Value} {z1 : Option Value} {z2 : Option Value} {z3 : Option Value} {z4 : Option Value} {lv : am_L} {st : List Value} : am_W G (am_M G d) 129 K 464 (z0 :: z1 :: z2 :: z3 :: z4 :: some (.int a) :: lv) st h nc ns = (am_W G (am_M G d) 129 K 466 (z0 :: z1 :: z2 :: z3 :: z4 :: some (.int a) :: lv) (.int a :: st) h nc ns) := am_u e_129_464
theorem e_129_466 : pg_code 129 466 = some (.if_icmp .eq 5, 3, 471, 0) := by decide +kernel
theorem u_129_466 {a b : Int32} {lv : am_L} {st : List Value} : am_W G (am_M G d) 129 K 466 lv (.int b :: .int a :: st) h nc ns = (am_br (a = b) (am_W G (am_M G d) 129 K 471 lv st h nc ns) (am_W G (am_M G d) 129 K 469 lv st h nc ns)) := am_u e_129_466
theorem e_129_469 : pg_code 129 469 = some (.iconst 0, 1, 0, 0) := by decide +kernel
theorem u_129_469 {lv : am_L} {st : List Value} : am_W G (am_M G d) 129 K 469 lv st h nc ns = (am_W G (am_M G d) 129 K 470 lv (.int 0 :: st) h nc ns) := am_u e_129_469
theorem e_129_470 : pg_code 129 470 = some (.ireturn, 1, 0, 0) := by decide +kernel
theorem u_129_470 {a : Int32} {lv : am_L} : am_W G (am_M G d) 129 K 470 lv [.int a] h nc ns = (narrow .boolean (.int a) = .int a ∧ K (.inl (some (.int a))) h) := (am_u e_129_470).trans (f_z_eq rfl)
theorem e_129_471 : pg_code 129 471 = some (.iload 5, 2, 0, 0) := by decide +kernel
theorem u_129_471 {a : Int32} {z0 : Option Value} {z1 : Option Value} {z2 : Option Value} {z3 : Option Value} {z4 : Option Value} {lv : am_L} {st : List Value} : am_W G (am_M G d) 129 K 471 (z0 :: z1 :: z2 :: z3 :: z4 :: some (.int a) :: lv) st h nc ns = (am_W G (am_M G d) 129 K 473 (z0 :: z1 :: z2 :: z3 :: z4 :: some (.int a) :: lv) (.int a :: st) h nc ns) := am_u e_129_471
theorem e_129_473 : pg_code 129 473 = some (.ifCond .ne 22, 3, 495, 0) := by decide +kernel
theorem u_129_473 {a : Int32} {lv : am_L} {st : List Value} : am_W G (am_M G d) 129 K 473 lv (.int a :: st) h nc ns = (am_br (¬ a = 0) (am_W G (am_M G d) 129 K 495 lv st h nc ns) (am_W G (am_M G d) 129 K 476 lv st h nc ns)) := am_u e_129_473
theorem e_129_476 : pg_code 129 476 = some (.aload_n 3, 1, 0, 0) := by decide +kernel
theorem u_129_476 {a : Nat} {z0 : Option Value} {z1 : Option Value} {z2 : Option Value} {lv : am_L} {st : List Value} : am_W G (am_M G d) 129 K 476 (z0 :: z1 :: z2 :: some (.ref a) :: lv) st h nc ns = (am_W G (am_M G d) 129 K 477 (z0 :: z1 :: z2 :: some (.ref a) :: lv) (.ref a :: st) h nc ns) := am_u e_129_476
theorem e_129_477 : pg_code 129 477 = some (.iconst 0, 1, 0, 0) := by decide +kernel
theorem u_129_477 {lv : am_L} {st : List Value} : am_W G (am_M G d) 129 K 477 lv st h nc ns = (am_W G (am_M G d) 129 K 478 lv (.int 0 :: st) h nc ns) := am_u e_129_477
theorem e_129_478 : pg_code 129 478 = some (.laload, 1, 0, 0) := by decide +kernel
theorem u_129_478 {a : Nat} {j : Int32} {lv : am_L} {st : List Value} : am_W G (am_M G d) 129 K 478 lv (.int j :: .ref a :: st) h nc ns = (f_la G d 129 K 479 lv st h nc ns (h a) j) := am_u e_129_478
theorem e_129_479 : pg_code 129 479 = some (.iload 6, 2, 0, 0) := by decide +kernel
theorem u_129_479 {a : Int32} {z0 : Option Value} {z1 : Option Value} {z2 : Option Value} {z3 : Option Value} {z4 : Option Value} {z5 : Option Value} {lv : am_L} {st : List Value} : am_W G (am_M G d) 129 K 479 (z0 :: z1 :: z2 :: z3 :: z4 :: z5 :: some (.int a) :: lv) st h nc ns = (am_W G (am_M G d) 129 K 481 (z0 :: z1 :: z2 :: z3 :: z4 :: z5 :: some (.int a) :: lv) (.int a :: st) h nc ns) := am_u e_129_479
theorem e_129_481 : pg_code 129 481 = some (.ifCond .eq 7, 3, 488, 0) := by decide +kernel
theorem u_129_481 {a : Int32} {lv : am_L} {st : List Value} : am_W G (am_M G d) 129 K 481 lv (.int a :: st) h nc ns = (am_br (a = 0) (am_W G (am_M G d) 129 K 488 lv st h nc ns) (am_W G (am_M G d) 129 K 484 lv st h nc ns)) := am_u e_129_481
theorem e_129_484 : pg_code 129 484 = some (.lconst 1, 1, 0, 0) := by decide +kernel
theorem u_129_484 {lv : am_L} {st : List Value} : am_W G (am_M G d) 129 K 484 lv st h nc ns = (am_W G (am_M G d) 129 K 485 lv (.long 1 :: st) h nc ns) := am_u e_129_484
theorem e_129_485 : pg_code 129 485 = some (.goto 4, 3, 489, 0) := by decide +kernel
theorem u_129_485 {lv : am_L} {st : List Value} : am_W G (am_M G d) 129 K 485 lv st h nc ns = (am_W G (am_M G d) 129 K 489 lv st h nc ns) := am_u e_129_485
theorem e_129_488 : pg_code 129 488 = some (.lconst 0, 1, 0, 0) := by decide +kernel
theorem u_129_488 {lv : am_L} {st : List Value} : am_W G (am_M G d) 129 K 488 lv st h nc ns = (am_W G (am_M G d) 129 K 489 lv (.long 0 :: st) h nc ns) := am_u e_129_488
theorem e_129_489 : pg_code 129 489 = some (.lcmp, 1, 0, 0) := by decide +kernel
theorem u_129_489 {a b : Int64} {lv : am_L} {st : List Value} : am_W G (am_M G d) 129 K 489 lv (.long b :: .long a :: st) h nc ns = (am_W G (am_M G d) 129 K 490 lv (.int (lg_cmp a b) :: st) h nc ns) := am_u e_129_489
theorem e_129_490 : pg_code 129 490 = some (.ifCond .eq 5, 3, 495, 0) := by decide +kernel
theorem u_129_490 {a : Int32} {lv : am_L} {st : List Value} : am_W G (am_M G d) 129 K 490 lv (.int a :: st) h nc ns = (am_br (a = 0) (am_W G (am_M G d) 129 K 495 lv st h nc ns) (am_W G (am_M G d) 129 K 493 lv st h nc ns)) := am_u e_129_490
theorem e_129_493 : pg_code 129 493 = some (.iconst 0, 1, 0, 0) := by decide +kernel
theorem u_129_493 {lv : am_L} {st : List Value} : am_W G (am_M G d) 129 K 493 lv st h nc ns = (am_W G (am_M G d) 129 K 494 lv (.int 0 :: st) h nc ns) := am_u e_129_493
theorem e_129_494 : pg_code 129 494 = some (.ireturn, 1, 0, 0) := by decide +kernel
theorem u_129_494 {a : Int32} {lv : am_L} : am_W G (am_M G d) 129 K 494 lv [.int a] h nc ns = (narrow .boolean (.int a) = .int a ∧ K (.inl (some (.int a))) h) := (am_u e_129_494).trans (f_z_eq rfl)
theorem e_129_495 : pg_code 129 495 = some (.goto 784, 3, 1279, 0) := by decide +kernel
theorem u_129_495 {lv : am_L} {st : List Value} : am_W G (am_M G d) 129 K 495 lv st h nc ns = (am_W G (am_M G d) 129 K 1279 lv st h nc ns) := am_u e_129_495
theorem e_129_498 : pg_code 129 498 = some (.aload_n 1, 1, 0, 0) := by decide +kernel
theorem u_129_498 {a : Nat} {z0 : Option Value} {lv : am_L} {st : List Value} : am_W G (am_M G d) 129 K 498 (z0 :: some (.ref a) :: lv) st h nc ns = (am_W G (am_M G d) 129 K 499 (z0 :: some (.ref a) :: lv) (.ref a :: st) h nc ns) := am_u e_129_498
theorem e_129_499 : pg_code 129 499 = some (.aload_n 0, 1, 0, 0) := by decide +kernel
theorem u_129_499 {a : Nat} {lv : am_L} {st : List Value} : am_W G (am_M G d) 129 K 499 (some (.ref a) :: lv) st h nc ns = (am_W G (am_M G d) 129 K 500 (some (.ref a) :: lv) (.ref a :: st) h nc ns) := am_u e_129_499
theorem e_129_500 : pg_code 129 500 = some (.iload 4, 2, 0, 0) := by decide +kernel
theorem u_129_500 {a : Int32} {z0 : Option Value} {z1 : Option Value} {z2 : Option Value} {z3 : Option Value} {lv : am_L} {st : List Value} : am_W G (am_M G d) 129 K 500 (z0 :: z1 :: z2 :: z3 :: some (.int a) :: lv) st h nc ns = (am_W G (am_M G d) 129 K 502 (z0 :: z1 :: z2 :: z3 :: some (.int a) :: lv) (.int a :: st) h nc ns) := am_u e_129_500
theorem e_129_502 : pg_code 129 502 = some (.iconst 1, 1, 0, 0) := by decide +kernel
theorem u_129_502 {lv : am_L} {st : List Value} : am_W G (am_M G d) 129 K 502 lv st h nc ns = (am_W G (am_M G d) 129 K 503 lv (.int 1 :: st) h nc ns) := am_u e_129_502
theorem e_129_503 : pg_code 129 503 = some (.iadd, 1, 0, 0) := by decide +kernel
theorem u_129_503 {a b : Int32} {lv : am_L} {st : List Value} : am_W G (am_M G d) 129 K 503 lv (.int b :: .int a :: st) h nc ns = (am_W G (am_M G d) 129 K 504 lv (.int (a + b) :: st) h nc ns) := am_u e_129_503
theorem e_129_504 : pg_code 129 504 = some (.iaload, 1, 1, 0) := by decide +kernel
theorem u_129_504 {a : Nat} {j : Int32} {lv : am_L} {st : List Value} : am_W G (am_M G d) 129 K 504 lv (.int j :: .ref a :: st) h nc ns = ((a = G.1 ∧ vp_in j G.2.1) ∧ am_W G (am_M G d) 129 K 505 lv (.int (G.2.2 j.toNatClampNeg) :: st) h nc ns) := am_u e_129_504
theorem e_129_505 : pg_code 129 505 = some (.aload_n 0, 1, 0, 0) := by decide +kernel
theorem u_129_505 {a : Nat} {lv : am_L} {st : List Value} : am_W G (am_M G d) 129 K 505 (some (.ref a) :: lv) st h nc ns = (am_W G (am_M G d) 129 K 506 (some (.ref a) :: lv) (.ref a :: st) h nc ns) := am_u e_129_505
theorem e_129_506 : pg_code 129 506 = some (.iload 4, 2, 0, 0) := by decide +kernel
theorem u_129_506 {a : Int32} {z0 : Option Value} {z1 : Option Value} {z2 : Option Value} {z3 : Option Value} {lv : am_L} {st : List Value} : am_W G (am_M G d) 129 K 506 (z0 :: z1 :: z2 :: z3 :: some (.int a) :: lv) st h nc ns = (am_W G (am_M G d) 129 K 508 (z0 :: z1 :: z2 :: z3 :: some (.int a) :: lv) (.int a :: st) h nc ns) := am_u e_129_506
theorem e_129_508 : pg_code 129 508 = some (.iconst 2, 1, 0, 0) := by decide +kernel
theorem u_129_508 {lv : am_L} {st : List Value} : am_W G (am_M G d) 129 K 508 lv st h nc ns = (am_W G (am_M G d) 129 K 509 lv (.int 2 :: st) h nc ns) := am_u e_129_508
theorem e_129_509 : pg_code 129 509 = some (.iadd, 1, 0, 0) := by decide +kernel
theorem u_129_509 {a b : Int32} {lv : am_L} {st : List Value} : am_W G (am_M G d) 129 K 509 lv (.int b :: .int a :: st) h nc ns = (am_W G (am_M G d) 129 K 510 lv (.int (a + b) :: st) h nc ns) := am_u e_129_509
theorem e_129_510 : pg_code 129 510 = some (.iaload, 1, 1, 0) := by decide +kernel
theorem u_129_510 {a : Nat} {j : Int32} {lv : am_L} {st : List Value} : am_W G (am_M G d) 129 K 510 lv (.int j :: .ref a :: st) h nc ns = ((a = G.1 ∧ vp_in j G.2.1) ∧ am_W G (am_M G d) 129 K 511 lv (.int (G.2.2 j.toNatClampNeg) :: st) h nc ns) := am_u e_129_510
theorem e_129_511 : pg_code 129 511 = some (.ifCond .eq 7, 3, 518, 0) := by decide +kernel
theorem u_129_511 {a : Int32} {lv : am_L} {st : List Value} : am_W G (am_M G d) 129 K 511 lv (.int a :: st) h nc ns = (am_br (a = 0) (am_W G (am_M G d) 129 K 518 lv st h nc ns) (am_W G (am_M G d) 129 K 514 lv st h nc ns)) := am_u e_129_511
theorem e_129_514 : pg_code 129 514 = some (.iconst 1, 1, 0, 0) := by decide +kernel
theorem u_129_514 {lv : am_L} {st : List Value} : am_W G (am_M G d) 129 K 514 lv st h nc ns = (am_W G (am_M G d) 129 K 515 lv (.int 1 :: st) h nc ns) := am_u e_129_514
theorem e_129_515 : pg_code 129 515 = some (.goto 4, 3, 519, 0) := by decide +kernel
theorem u_129_515 {lv : am_L} {st : List Value} : am_W G (am_M G d) 129 K 515 lv st h nc ns = (am_W G (am_M G d) 129 K 519 lv st h nc ns) := am_u e_129_515
theorem e_129_518 : pg_code 129 518 = some (.iconst 0, 1, 0, 0) := by decide +kernel
theorem u_129_518 {lv : am_L} {st : List Value} : am_W G (am_M G d) 129 K 518 lv st h nc ns = (am_W G (am_M G d) 129 K 519 lv (.int 0 :: st) h nc ns) := am_u e_129_518
theorem e_129_519 : pg_code 129 519 = some (.aload_n 3, 1, 0, 0) := by decide +kernel
theorem u_129_519 {a : Nat} {z0 : Option Value} {z1 : Option Value} {z2 : Option Value} {lv : am_L} {st : List Value} : am_W G (am_M G d) 129 K 519 (z0 :: z1 :: z2 :: some (.ref a) :: lv) st h nc ns = (am_W G (am_M G d) 129 K 520 (z0 :: z1 :: z2 :: some (.ref a) :: lv) (.ref a :: st) h nc ns) := am_u e_129_519
theorem e_129_520 : pg_code 129 520 = some (.invokestatic 99, 3, 51, 4) := by decide +kernel
theorem u_129_520 {v0 v1 v2 v3 : Value} {lv : am_L} {st : List Value} : am_W G (am_M G d) 129 K 520 lv (v3 :: v2 :: v1 :: v0 :: st) h nc ns = ((am_words st ≤ 8 ∧ nc + 1 ≤ 601024 ∧ ns + 6 ≤ 7293034) ∧ am_M G d 51 [v0, v1, v2, v3] h (am_back 129 K (am_W G (am_M G d) 129 K) 51 520 lv st nc ns)) := (am_u e_129_520).trans (f_st_eq (G := G) (d := d) (k := 129) (K := K) (pc := 520) (lv := lv) (st := st) (h := h) (nc := nc) (ns := ns) (x := 51) (X := am_W G (am_M G d) 129 K) [v0, v1, v2, v3] (by decide) rfl)
theorem e_129_523 : pg_code 129 523 = some (.istore 5, 2, 0, 0) := by decide +kernel
theorem u_129_523 {a : Int32} {lv : am_L} {st : List Value} : am_W G (am_M G d) 129 K 523 lv (.int a :: st) h nc ns = (am_W G (am_M G d) 129 K 525 (am_st1 lv 5 (.int a)) st h nc ns) := (am_u e_129_523).trans (f_t (by decide +kernel))
theorem e_129_525 : pg_code 129 525 = some (.aload_n 2, 1, 0, 0) := by decide +kernel
theorem u_129_525 {a : Nat} {z0 : Option Value} {z1 : Option Value} {lv : am_L} {st : List Value} : am_W G (am_M G d) 129 K 525 (z0 :: z1 :: some (.ref a) :: lv) st h nc ns = (am_W G (am_M G d) 129 K 526 (z0 :: z1 :: some (.ref a) :: lv) (.ref a :: st) h nc ns) := am_u e_129_525
theorem e_129_526 : pg_code 129 526 = some (.aload_n 0, 1, 0, 0) := by decide +kernel
theorem u_129_526 {a : Nat} {lv : am_L} {st : List Value} : am_W G (am_M G d) 129 K 526 (some (.ref a) :: lv) st h nc ns = (am_W G (am_M G d) 129 K 527 (some (.ref a) :: lv) (.ref a :: st) h nc ns) := am_u e_129_526
theorem e_129_527 : pg_code 129 527 = some (.iload 4, 2, 0, 0) := by decide +kernel
theorem u_129_527 {a : Int32} {z0 : Option Value} {z1 : Option Value} {z2 : Option Value} {z3 : Option Value} {lv : am_L} {st : List Value} : am_W G (am_M G d) 129 K 527 (z0 :: z1 :: z2 :: z3 :: some (.int a) :: lv) st h nc ns = (am_W G (am_M G d) 129 K 529 (z0 :: z1 :: z2 :: z3 :: some (.int a) :: lv) (.int a :: st) h nc ns) := am_u e_129_527
theorem e_129_529 : pg_code 129 529 = some (.iconst 1, 1, 0, 0) := by decide +kernel
theorem u_129_529 {lv : am_L} {st : List Value} : am_W G (am_M G d) 129 K 529 lv st h nc ns = (am_W G (am_M G d) 129 K 530 lv (.int 1 :: st) h nc ns) := am_u e_129_529
theorem e_129_530 : pg_code 129 530 = some (.iadd, 1, 0, 0) := by decide +kernel
theorem u_129_530 {a b : Int32} {lv : am_L} {st : List Value} : am_W G (am_M G d) 129 K 530 lv (.int b :: .int a :: st) h nc ns = (am_W G (am_M G d) 129 K 531 lv (.int (a + b) :: st) h nc ns) := am_u e_129_530
theorem e_129_531 : pg_code 129 531 = some (.iaload, 1, 1, 0) := by decide +kernel
theorem u_129_531 {a : Nat} {j : Int32} {lv : am_L} {st : List Value} : am_W G (am_M G d) 129 K 531 lv (.int j :: .ref a :: st) h nc ns = ((a = G.1 ∧ vp_in j G.2.1) ∧ am_W G (am_M G d) 129 K 532 lv (.int (G.2.2 j.toNatClampNeg) :: st) h nc ns) := am_u e_129_531
theorem e_129_532 : pg_code 129 532 = some (.aload_n 0, 1, 0, 0) := by decide +kernel
theorem u_129_532 {a : Nat} {lv : am_L} {st : List Value} : am_W G (am_M G d) 129 K 532 (some (.ref a) :: lv) st h nc ns = (am_W G (am_M G d) 129 K 533 (some (.ref a) :: lv) (.ref a :: st) h nc ns) := am_u e_129_532
theorem e_129_533 : pg_code 129 533 = some (.iload 4, 2, 0, 0) := by decide +kernel
theorem u_129_533 {a : Int32} {z0 : Option Value} {z1 : Option Value} {z2 : Option Value} {z3 : Option Value} {lv : am_L} {st : List Value} : am_W G (am_M G d) 129 K 533 (z0 :: z1 :: z2 :: z3 :: some (.int a) :: lv) st h nc ns = (am_W G (am_M G d) 129 K 535 (z0 :: z1 :: z2 :: z3 :: some (.int a) :: lv) (.int a :: st) h nc ns) := am_u e_129_533
theorem e_129_535 : pg_code 129 535 = some (.iconst 2, 1, 0, 0) := by decide +kernel
theorem u_129_535 {lv : am_L} {st : List Value} : am_W G (am_M G d) 129 K 535 lv st h nc ns = (am_W G (am_M G d) 129 K 536 lv (.int 2 :: st) h nc ns) := am_u e_129_535
theorem e_129_536 : pg_code 129 536 = some (.iadd, 1, 0, 0) := by decide +kernel
theorem u_129_536 {a b : Int32} {lv : am_L} {st : List Value} : am_W G (am_M G d) 129 K 536 lv (.int b :: .int a :: st) h nc ns = (am_W G (am_M G d) 129 K 537 lv (.int (a + b) :: st) h nc ns) := am_u e_129_536
theorem e_129_537 : pg_code 129 537 = some (.iaload, 1, 1, 0) := by decide +kernel
theorem u_129_537 {a : Nat} {j : Int32} {lv : am_L} {st : List Value} : am_W G (am_M G d) 129 K 537 lv (.int j :: .ref a :: st) h nc ns = ((a = G.1 ∧ vp_in j G.2.1) ∧ am_W G (am_M G d) 129 K 538 lv (.int (G.2.2 j.toNatClampNeg) :: st) h nc ns) := am_u e_129_537
theorem e_129_538 : pg_code 129 538 = some (.ifCond .eq 7, 3, 545, 0) := by decide +kernel
theorem u_129_538 {a : Int32} {lv : am_L} {st : List Value} : am_W G (am_M G d) 129 K 538 lv (.int a :: st) h nc ns = (am_br (a = 0) (am_W G (am_M G d) 129 K 545 lv st h nc ns) (am_W G (am_M G d) 129 K 541 lv st h nc ns)) := am_u e_129_538
theorem e_129_541 : pg_code 129 541 = some (.iconst 1, 1, 0, 0) := by decide +kernel
theorem u_129_541 {lv : am_L} {st : List Value} : am_W G (am_M G d) 129 K 541 lv st h nc ns = (am_W G (am_M G d) 129 K 542 lv (.int 1 :: st) h nc ns) := am_u e_129_541
theorem e_129_542 : pg_code 129 542 = some (.goto 4, 3, 546, 0) := by decide +kernel
theorem u_129_542 {lv : am_L} {st : List Value} : am_W G (am_M G d) 129 K 542 lv st h nc ns = (am_W G (am_M G d) 129 K 546 lv st h nc ns) := am_u e_129_542
theorem e_129_545 : pg_code 129 545 = some (.iconst 0, 1, 0, 0) := by decide +kernel
theorem u_129_545 {lv : am_L} {st : List Value} : am_W G (am_M G d) 129 K 545 lv st h nc ns = (am_W G (am_M G d) 129 K 546 lv (.int 0 :: st) h nc ns) := am_u e_129_545
theorem e_129_546 : pg_code 129 546 = some (.invokevirtual 102, 3, 96, 3) := by decide +kernel
theorem u_129_546 {a : Nat} {v0 v1 : Value} {lv : am_L} {st : List Value} : am_W G (am_M G d) 129 K 546 lv (v1 :: v0 :: .ref a :: st) h nc ns = ((am_words st ≤ 8 ∧ nc + 0 ≤ 601024 ∧ ns + 0 ≤ 7293034 ∧ f_rc (h a) 7) ∧ am_M G d 96 [.ref a, v0, v1] h (am_back 129 K (am_W G (am_M G d) 129 K) 96 546 lv st nc ns)) := (am_u e_129_546).trans (f_iv_eq (a := a) (G := G) (d := d) (k := 129) (K := K) (pc := 546) (lv := lv) (st := st) (h := h) (nc := nc) (ns := ns) (x := 96) (X := am_W G (am_M G d) 129 K) [v0, v1] (by decide) rfl)
theorem e_129_549 : pg_code 129 549 = some (.istore 6, 2, 0, 0) := by decide +kernel
theorem u_129_549 {a : Int32} {lv : am_L} {st : List Value} : am_W G (am_M G d) 129 K 549 lv (.int a :: st) h nc ns = (am_W G (am_M G d) 129 K 551 (am_st1 lv 6 (.int a)) st h nc ns) := (am_u e_129_549).trans (f_t (by decide +kernel))
theorem e_129_551 : pg_code 129 551 = some (.aload_n 2, 1, 0, 0) := by decide +kernel
theorem u_129_551 {a : Nat} {z0 : Option Value} {z1 : Option Value} {lv : am_L} {st : List Value} : am_W G (am_M G d) 129 K 551 (z0 :: z1 :: some (.ref a) :: lv) st h nc ns = (am_W G (am_M G d) 129 K 552 (z0 :: z1 :: some (.ref a) :: lv) (.ref a :: st) h nc ns) := am_u e_129_551
theorem e_129_552 : pg_code 129 552 = some (.invokevirtual 84, 3, 83, 1) := by decide +kernel
theorem u_129_552 {a : Nat} {lv : am_L} {st : List Value} : am_W G (am_M G d) 129 K 552 lv (.ref a :: st) h nc ns = ((am_words st ≤ 8 ∧ nc + 0 ≤ 601024 ∧ ns + 0 ≤ 7293034 ∧ f_rc (h a) 7) ∧ am_M G d 83 [.ref a] h (am_back 129 K (am_W G (am_M G d) 129 K) 83 552 lv st nc ns)) := (am_u e_129_552).trans (f_iv_eq (a := a) (G := G) (d := d) (k := 129) (K := K) (pc := 552) (lv := lv) (st := st) (h := h) (nc := nc) (ns := ns) (x := 83) (X := am_W G (am_M G d) 129 K) [] (by decide) rfl)
theorem e_129_555 : pg_code 129 555 = some (.iload 5, 2, 0, 0) := by decide +kernel
theorem u_129_555 {a : Int32} {z0 : Option Value} {z1 : Option Value} {z2 : Option Value} {z3 : Option Value} {z4 : Option Value} {lv : am_L} {st : List Value} : am_W G (am_M G d) 129 K 555 (z0 :: z1 :: z2 :: z3 :: z4 :: some (.int a) :: lv) st h nc ns = (am_W G (am_M G d) 129 K 557 (z0 :: z1 :: z2 :: z3 :: z4 :: some (.int a) :: lv) (.int a :: st) h nc ns) := am_u e_129_555
theorem e_129_557 : pg_code 129 557 = some (.if_icmp .eq 5, 3, 562, 0) := by decide +kernel
theorem u_129_557 {a b : Int32} {lv : am_L} {st : List Value} : am_W G (am_M G d) 129 K 557 lv (.int b :: .int a :: st) h nc ns = (am_br (a = b) (am_W G (am_M G d) 129 K 562 lv st h nc ns) (am_W G (am_M G d) 129 K 560 lv st h nc ns)) := am_u e_129_557
theorem e_129_560 : pg_code 129 560 = some (.iconst 0, 1, 0, 0) := by decide +kernel
theorem u_129_560 {lv : am_L} {st : List Value} : am_W G (am_M G d) 129 K 560 lv st h nc ns = (am_W G (am_M G d) 129 K 561 lv (.int 0 :: st) h nc ns) := am_u e_129_560
theorem e_129_561 : pg_code 129 561 = some (.ireturn, 1, 0, 0) := by decide +kernel
theorem u_129_561 {a : Int32} {lv : am_L} : am_W G (am_M G d) 129 K 561 lv [.int a] h nc ns = (narrow .boolean (.int a) = .int a ∧ K (.inl (some (.int a))) h) := (am_u e_129_561).trans (f_z_eq rfl)
theorem e_129_562 : pg_code 129 562 = some (.iload 5, 2, 0, 0) := by decide +kernel
theorem u_129_562 {a : Int32} {z0 : Option Value} {z1 : Option Value} {z2 : Option Value} {z3 : Option Value} {z4 : Option Value} {lv : am_L} {st : List Value} : am_W G (am_M G d) 129 K 562 (z0 :: z1 :: z2 :: z3 :: z4 :: some (.int a) :: lv) st h nc ns = (am_W G (am_M G d) 129 K 564 (z0 :: z1 :: z2 :: z3 :: z4 :: some (.int a) :: lv) (.int a :: st) h nc ns) := am_u e_129_562
theorem e_129_564 : pg_code 129 564 = some (.ifCond .ne 22, 3, 586, 0) := by decide +kernel
theorem u_129_564 {a : Int32} {lv : am_L} {st : List Value} : am_W G (am_M G d) 129 K 564 lv (.int a :: st) h nc ns = (am_br (¬ a = 0) (am_W G (am_M G d) 129 K 586 lv st h nc ns) (am_W G (am_M G d) 129 K 567 lv st h nc ns)) := am_u e_129_564
theorem e_129_567 : pg_code 129 567 = some (.aload_n 3, 1, 0, 0) := by decide +kernel
theorem u_129_567 {a : Nat} {z0 : Option Value} {z1 : Option Value} {z2 : Option Value} {lv : am_L} {st : List Value} : am_W G (am_M G d) 129 K 567 (z0 :: z1 :: z2 :: some (.ref a) :: lv) st h nc ns = (am_W G (am_M G d) 129 K 568 (z0 :: z1 :: z2 :: some (.ref a) :: lv) (.ref a :: st) h nc ns) := am_u e_129_567
theorem e_129_568 : pg_code 129 568 = some (.iconst 0, 1, 0, 0) := by decide +kernel
theorem u_129_568 {lv : am_L} {st : List Value} : am_W G (am_M G d) 129 K 568 lv st h nc ns = (am_W G (am_M G d) 129 K 569 lv (.int 0 :: st) h nc ns) := am_u e_129_568
theorem e_129_569 : pg_code 129 569 = some (.laload, 1, 0, 0) := by decide +kernel
theorem u_129_569 {a : Nat} {j : Int32} {lv : am_L} {st : List Value} : am_W G (am_M G d) 129 K 569 lv (.int j :: .ref a :: st) h nc ns = (f_la G d 129 K 570 lv st h nc ns (h a) j) := am_u e_129_569
theorem e_129_570 : pg_code 129 570 = some (.iload 6, 2, 0, 0) := by decide +kernel
theorem u_129_570 {a : Int32} {z0 : Option Value} {z1 : Option Value} {z2 : Option Value} {z3 : Option Value} {z4 : Option Value} {z5 : Option Value} {lv : am_L} {st : List Value} : am_W G (am_M G d) 129 K 570 (z0 :: z1 :: z2 :: z3 :: z4 :: z5 :: some (.int a) :: lv) st h nc ns = (am_W G (am_M G d) 129 K 572 (z0 :: z1 :: z2 :: z3 :: z4 :: z5 :: some (.int a) :: lv) (.int a :: st) h nc ns) := am_u e_129_570
theorem e_129_572 : pg_code 129 572 = some (.ifCond .eq 7, 3, 579, 0) := by decide +kernel
theorem u_129_572 {a : Int32} {lv : am_L} {st : List Value} : am_W G (am_M G d) 129 K 572 lv (.int a :: st) h nc ns = (am_br (a = 0) (am_W G (am_M G d) 129 K 579 lv st h nc ns) (am_W G (am_M G d) 129 K 575 lv st h nc ns)) := am_u e_129_572
theorem e_129_575 : pg_code 129 575 = some (.lconst 1, 1, 0, 0) := by decide +kernel
theorem u_129_575 {lv : am_L} {st : List Value} : am_W G (am_M G d) 129 K 575 lv st h nc ns = (am_W G (am_M G d) 129 K 576 lv (.long 1 :: st) h nc ns) := am_u e_129_575
theorem e_129_576 : pg_code 129 576 = some (.goto 4, 3, 580, 0) := by decide +kernel
theorem u_129_576 {lv : am_L} {st : List Value} : am_W G (am_M G d) 129 K 576 lv st h nc ns = (am_W G (am_M G d) 129 K 580 lv st h nc ns) := am_u e_129_576
theorem e_129_579 : pg_code 129 579 = some (.lconst 0, 1, 0, 0) := by decide +kernel
theorem u_129_579 {lv : am_L} {st : List Value} : am_W G (am_M G d) 129 K 579 lv st h nc ns = (am_W G (am_M G d) 129 K 580 lv (.long 0 :: st) h nc ns) := am_u e_129_579
theorem e_129_580 : pg_code 129 580 = some (.lcmp, 1, 0, 0) := by decide +kernel
theorem u_129_580 {a b : Int64} {lv : am_L} {st : List Value} : am_W G (am_M G d) 129 K 580 lv (.long b :: .long a :: st) h nc ns = (am_W G (am_M G d) 129 K 581 lv (.int (lg_cmp a b) :: st) h nc ns) := am_u e_129_580
theorem e_129_581 : pg_code 129 581 = some (.ifCond .eq 5, 3, 586, 0) := by decide +kernel
theorem u_129_581 {a : Int32} {lv : am_L} {st : List Value} : am_W G (am_M G d) 129 K 581 lv (.int a :: st) h nc ns = (am_br (a = 0) (am_W G (am_M G d) 129 K 586 lv st h nc ns) (am_W G (am_M G d) 129 K 584 lv st h nc ns)) := am_u e_129_581
theorem e_129_584 : pg_code 129 584 = some (.iconst 0, 1, 0, 0) := by decide +kernel
theorem u_129_584 {lv : am_L} {st : List Value} : am_W G (am_M G d) 129 K 584 lv st h nc ns = (am_W G (am_M G d) 129 K 585 lv (.int 0 :: st) h nc ns) := am_u e_129_584
theorem e_129_585 : pg_code 129 585 = some (.ireturn, 1, 0, 0) := by decide +kernel
theorem u_129_585 {a : Int32} {lv : am_L} : am_W G (am_M G d) 129 K 585 lv [.int a] h nc ns = (narrow .boolean (.int a) = .int a ∧ K (.inl (some (.int a))) h) := (am_u e_129_585).trans (f_z_eq rfl)
theorem e_129_586 : pg_code 129 586 = some (.goto 693, 3, 1279, 0) := by decide +kernel
theorem u_129_586 {lv : am_L} {st : List Value} : am_W G (am_M G d) 129 K 586 lv st h nc ns = (am_W G (am_M G d) 129 K 1279 lv st h nc ns) := am_u e_129_586
theorem e_129_589 : pg_code 129 589 = some (.aload_n 1, 1, 0, 0) := by decide +kernel
theorem u_129_589 {a : Nat} {z0 : Option Value} {lv : am_L} {st : List Value} : am_W G (am_M G d) 129 K 589 (z0 :: some (.ref a) :: lv) st h nc ns = (am_W G (am_M G d) 129 K 590 (z0 :: some (.ref a) :: lv) (.ref a :: st) h nc ns) := am_u e_129_589
theorem e_129_590 : pg_code 129 590 = some (.invokevirtual 103, 3, 7, 1) := by decide +kernel
theorem u_129_590 {a : Nat} {lv : am_L} {st : List Value} : am_W G (am_M G d) 129 K 590 lv (.ref a :: st) h nc ns = ((am_words st ≤ 8 ∧ nc + 0 ≤ 601024 ∧ ns + 0 ≤ 7293034 ∧ f_rc (h a) 0) ∧ am_M G d 7 [.ref a] h (am_back 129 K (am_W G (am_M G d) 129 K) 7 590 lv st nc ns)) := (am_u e_129_590).trans (f_iv_eq (a := a) (G := G) (d := d) (k := 129) (K := K) (pc := 590) (lv := lv) (st := st) (h := h) (nc := nc) (ns := ns) (x := 7) (X := am_W G (am_M G d) 129 K) [] (by decide) rfl)
theorem e_129_593 : pg_code 129 593 = some (.aload_n 2, 1, 0, 0) := by decide +kernel
theorem u_129_593 {a : Nat} {z0 : Option Value} {z1 : Option Value} {lv : am_L} {st : List Value} : am_W G (am_M G d) 129 K 593 (z0 :: z1 :: some (.ref a) :: lv) st h nc ns = (am_W G (am_M G d) 129 K 594 (z0 :: z1 :: some (.ref a) :: lv) (.ref a :: st) h nc ns) := am_u e_129_593
theorem e_129_594 : pg_code 129 594 = some (.invokevirtual 106, 3, 97, 1) := by decide +kernel
theorem u_129_594 {a : Nat} {lv : am_L} {st : List Value} : am_W G (am_M G d) 129 K 594 lv (.ref a :: st) h nc ns = ((am_words st ≤ 8 ∧ nc + 0 ≤ 601024 ∧ ns + 0 ≤ 7293034 ∧ f_rc (h a) 7) ∧ am_M G d 97 [.ref a] h (am_back 129 K (am_W G (am_M G d) 129 K) 97 594 lv st nc ns)) := (am_u e_129_594).trans (f_iv_eq (a := a) (G := G) (d := d) (k := 129) (K := K) (pc := 594) (lv := lv) (st := st) (h := h) (nc := nc) (ns := ns) (x := 97) (X := am_W G (am_M G d) 129 K) [] (by decide) rfl)
theorem e_129_597 : pg_code 129 597 = some (.if_icmp .eq 682, 3, 1279, 0) := by decide +kernel
theorem u_129_597 {a b : Int32} {lv : am_L} {st : List Value} : am_W G (am_M G d) 129 K 597 lv (.int b :: .int a :: st) h nc ns = (am_br (a = b) (am_W G (am_M G d) 129 K 1279 lv st h nc ns) (am_W G (am_M G d) 129 K 600 lv st h nc ns)) := am_u e_129_597
theorem e_129_600 : pg_code 129 600 = some (.iconst 0, 1, 0, 0) := by decide +kernel
theorem u_129_600 {lv : am_L} {st : List Value} : am_W G (am_M G d) 129 K 600 lv st h nc ns = (am_W G (am_M G d) 129 K 601 lv (.int 0 :: st) h nc ns) := am_u e_129_600
theorem e_129_601 : pg_code 129 601 = some (.ireturn, 1, 0, 0) := by decide +kernel
theorem u_129_601 {a : Int32} {lv : am_L} : am_W G (am_M G d) 129 K 601 lv [.int a] h nc ns = (narrow .boolean (.int a) = .int a ∧ K (.inl (some (.int a))) h) := (am_u e_129_601).trans (f_z_eq rfl)
theorem e_129_602 : pg_code 129 602 = some (.aload_n 1, 1, 0, 0) := by decide +kernel
theorem u_129_602 {a : Nat} {z0 : Option Value} {lv : am_L} {st : List Value} : am_W G (am_M G d) 129 K 602 (z0 :: some (.ref a) :: lv) st h nc ns = (am_W G (am_M G d) 129 K 603 (z0 :: some (.ref a) :: lv) (.ref a :: st) h nc ns) := am_u e_129_602
theorem e_129_603 : pg_code 129 603 = some (.aload_n 0, 1, 0, 0) := by decide +kernel
theorem u_129_603 {a : Nat} {lv : am_L} {st : List Value} : am_W G (am_M G d) 129 K 603 (some (.ref a) :: lv) st h nc ns = (am_W G (am_M G d) 129 K 604 (some (.ref a) :: lv) (.ref a :: st) h nc ns) := am_u e_129_603
theorem e_129_604 : pg_code 129 604 = some (.iload 4, 2, 0, 0) := by decide +kernel
theorem u_129_604 {a : Int32} {z0 : Option Value} {z1 : Option Value} {z2 : Option Value} {z3 : Option Value} {lv : am_L} {st : List Value} : am_W G (am_M G d) 129 K 604 (z0 :: z1 :: z2 :: z3 :: some (.int a) :: lv) st h nc ns = (am_W G (am_M G d) 129 K 606 (z0 :: z1 :: z2 :: z3 :: some (.int a) :: lv) (.int a :: st) h nc ns) := am_u e_129_604
theorem e_129_606 : pg_code 129 606 = some (.iconst 1, 1, 0, 0) := by decide +kernel
theorem u_129_606 {lv : am_L} {st : List Value} : am_W G (am_M G d) 129 K 606 lv st h nc ns = (am_W G (am_M G d) 129 K 607 lv (.int 1 :: st) h nc ns) := am_u e_129_606
theorem e_129_607 : pg_code 129 607 = some (.iadd, 1, 0, 0) := by decide +kernel
theorem u_129_607 {a b : Int32} {lv : am_L} {st : List Value} : am_W G (am_M G d) 129 K 607 lv (.int b :: .int a :: st) h nc ns = (am_W G (am_M G d) 129 K 608 lv (.int (a + b) :: st) h nc ns) := am_u e_129_607
theorem e_129_608 : pg_code 129 608 = some (.iaload, 1, 1, 0) := by decide +kernel
theorem u_129_608 {a : Nat} {j : Int32} {lv : am_L} {st : List Value} : am_W G (am_M G d) 129 K 608 lv (.int j :: .ref a :: st) h nc ns = ((a = G.1 ∧ vp_in j G.2.1) ∧ am_W G (am_M G d) 129 K 609 lv (.int (G.2.2 j.toNatClampNeg) :: st) h nc ns) := am_u e_129_608
theorem e_129_609 : pg_code 129 609 = some (.aload_n 3, 1, 0, 0) := by decide +kernel
theorem u_129_609 {a : Nat} {z0 : Option Value} {z1 : Option Value} {z2 : Option Value} {lv : am_L} {st : List Value} : am_W G (am_M G d) 129 K 609 (z0 :: z1 :: z2 :: some (.ref a) :: lv) st h nc ns = (am_W G (am_M G d) 129 K 610 (z0 :: z1 :: z2 :: some (.ref a) :: lv) (.ref a :: st) h nc ns) := am_u e_129_609
theorem e_129_610 : pg_code 129 610 = some (.invokestatic 107, 3, 53, 3) := by decide +kernel
theorem u_129_610 {v0 v1 v2 : Value} {lv : am_L} {st : List Value} : am_W G (am_M G d) 129 K 610 lv (v2 :: v1 :: v0 :: st) h nc ns = ((am_words st ≤ 8 ∧ nc + 2 ≤ 601024 ∧ ns + 12 ≤ 7293034) ∧ am_M G d 53 [v0, v1, v2] h (am_back 129 K (am_W G (am_M G d) 129 K) 53 610 lv st nc ns)) := (am_u e_129_610).trans (f_st_eq (G := G) (d := d) (k := 129) (K := K) (pc := 610) (lv := lv) (st := st) (h := h) (nc := nc) (ns := ns) (x := 53) (X := am_W G (am_M G d) 129 K) [v0, v1, v2] (by decide) rfl)
theorem e_129_613 : pg_code 129 613 = some (.istore 5, 2, 0, 0) := by decide +kernel
theorem u_129_613 {a : Int32} {lv : am_L} {st : List Value} : am_W G (am_M G d) 129 K 613 lv (.int a :: st) h nc ns = (am_W G (am_M G d) 129 K 615 (am_st1 lv 5 (.int a)) st h nc ns) := (am_u e_129_613).trans (f_t (by decide +kernel))
theorem e_129_615 : pg_code 129 615 = some (.aload_n 2, 1, 0, 0) := by decide +kernel
theorem u_129_615 {a : Nat} {z0 : Option Value} {z1 : Option Value} {lv : am_L} {st : List Value} : am_W G (am_M G d) 129 K 615 (z0 :: z1 :: some (.ref a) :: lv) st h nc ns = (am_W G (am_M G d) 129 K 616 (z0 :: z1 :: some (.ref a) :: lv) (.ref a :: st) h nc ns) := am_u e_129_615
theorem e_129_616 : pg_code 129 616 = some (.aload_n 0, 1, 0, 0) := by decide +kernel
theorem u_129_616 {a : Nat} {lv : am_L} {st : List Value} : am_W G (am_M G d) 129 K 616 (some (.ref a) :: lv) st h nc ns = (am_W G (am_M G d) 129 K 617 (some (.ref a) :: lv) (.ref a :: st) h nc ns) := am_u e_129_616
theorem e_129_617 : pg_code 129 617 = some (.iload 4, 2, 0, 0) := by decide +kernel
theorem u_129_617 {a : Int32} {z0 : Option Value} {z1 : Option Value} {z2 : Option Value} {z3 : Option Value} {lv : am_L} {st : List Value} : am_W G (am_M G d) 129 K 617 (z0 :: z1 :: z2 :: z3 :: some (.int a) :: lv) st h nc ns = (am_W G (am_M G d) 129 K 619 (z0 :: z1 :: z2 :: z3 :: some (.int a) :: lv) (.int a :: st) h nc ns) := am_u e_129_617
theorem e_129_619 : pg_code 129 619 = some (.iconst 1, 1, 0, 0) := by decide +kernel
theorem u_129_619 {lv : am_L} {st : List Value} : am_W G (am_M G d) 129 K 619 lv st h nc ns = (am_W G (am_M G d) 129 K 620 lv (.int 1 :: st) h nc ns) := am_u e_129_619
theorem e_129_620 : pg_code 129 620 = some (.iadd, 1, 0, 0) := by decide +kernel
theorem u_129_620 {a b : Int32} {lv : am_L} {st : List Value} : am_W G (am_M G d) 129 K 620 lv (.int b :: .int a :: st) h nc ns = (am_W G (am_M G d) 129 K 621 lv (.int (a + b) :: st) h nc ns) := am_u e_129_620
theorem e_129_621 : pg_code 129 621 = some (.iaload, 1, 1, 0) := by decide +kernel
theorem u_129_621 {a : Nat} {j : Int32} {lv : am_L} {st : List Value} : am_W G (am_M G d) 129 K 621 lv (.int j :: .ref a :: st) h nc ns = ((a = G.1 ∧ vp_in j G.2.1) ∧ am_W G (am_M G d) 129 K 622 lv (.int (G.2.2 j.toNatClampNeg) :: st) h nc ns) := am_u e_129_621
theorem e_129_622 : pg_code 129 622 = some (.invokevirtual 110, 3, 108, 2) := by decide +kernel
theorem u_129_622 {a : Nat} {v0 : Value} {lv : am_L} {st : List Value} : am_W G (am_M G d) 129 K 622 lv (v0 :: .ref a :: st) h nc ns = ((am_words st ≤ 8 ∧ nc + 0 ≤ 601024 ∧ ns + 0 ≤ 7293034 ∧ f_rc (h a) 7) ∧ am_M G d 108 [.ref a, v0] h (am_back 129 K (am_W G (am_M G d) 129 K) 108 622 lv st nc ns)) := (am_u e_129_622).trans (f_iv_eq (a := a) (G := G) (d := d) (k := 129) (K := K) (pc := 622) (lv := lv) (st := st) (h := h) (nc := nc) (ns := ns) (x := 108) (X := am_W G (am_M G d) 129 K) [v0] (by decide) rfl)
theorem e_129_625 : pg_code 129 625 = some (.lstore 6, 2, 0, 0) := by decide +kernel
theorem u_129_625 {a : Int64} {lv : am_L} {st : List Value} : am_W G (am_M G d) 129 K 625 lv (.long a :: st) h nc ns = (am_W G (am_M G d) 129 K 627 (am_st2 lv 6 (.long a)) st h nc ns) := (am_u e_129_625).trans (f_t (by decide +kernel))
theorem e_129_627 : pg_code 129 627 = some (.aload_n 2, 1, 0, 0) := by decide +kernel
theorem u_129_627 {a : Nat} {z0 : Option Value} {z1 : Option Value} {lv : am_L} {st : List Value} : am_W G (am_M G d) 129 K 627 (z0 :: z1 :: some (.ref a) :: lv) st h nc ns = (am_W G (am_M G d) 129 K 628 (z0 :: z1 :: some (.ref a) :: lv) (.ref a :: st) h nc ns) := am_u e_129_627
theorem e_129_628 : pg_code 129 628 = some (.invokevirtual 84, 3, 83, 1) := by decide +kernel
theorem u_129_628 {a : Nat} {lv : am_L} {st : List Value} : am_W G (am_M G d) 129 K 628 lv (.ref a :: st) h nc ns = ((am_words st ≤ 8 ∧ nc + 0 ≤ 601024 ∧ ns + 0 ≤ 7293034 ∧ f_rc (h a) 7) ∧ am_M G d 83 [.ref a] h (am_back 129 K (am_W G (am_M G d) 129 K) 83 628 lv st nc ns)) := (am_u e_129_628).trans (f_iv_eq (a := a) (G := G) (d := d) (k := 129) (K := K) (pc := 628) (lv := lv) (st := st) (h := h) (nc := nc) (ns := ns) (x := 83) (X := am_W G (am_M G d) 129 K) [] (by decide) rfl)
theorem e_129_631 : pg_code 129 631 = some (.iload 5, 2, 0, 0) := by decide +kernel
theorem u_129_631 {a : Int32} {z0 : Option Value} {z1 : Option Value} {z2 : Option Value} {z3 : Option Value} {z4 : Option Value} {lv : am_L} {st : List Value} : am_W G (am_M G d) 129 K 631 (z0 :: z1 :: z2 :: z3 :: z4 :: some (.int a) :: lv) st h nc ns = (am_W G (am_M G d) 129 K 633 (z0 :: z1 :: z2 :: z3 :: z4 :: some (.int a) :: lv) (.int a :: st) h nc ns) := am_u e_129_631
theorem e_129_633 : pg_code 129 633 = some (.if_icmp .eq 5, 3, 638, 0) := by decide +kernel
theorem u_129_633 {a b : Int32} {lv : am_L} {st : List Value} : am_W G (am_M G d) 129 K 633 lv (.int b :: .int a :: st) h nc ns = (am_br (a = b) (am_W G (am_M G d) 129 K 638 lv st h nc ns) (am_W G (am_M G d) 129 K 636 lv st h nc ns)) := am_u e_129_633
theorem e_129_636 : pg_code 129 636 = some (.iconst 0, 1, 0, 0) := by decide +kernel
theorem u_129_636 {lv : am_L} {st : List Value} : am_W G (am_M G d) 129 K 636 lv st h nc ns = (am_W G (am_M G d) 129 K 637 lv (.int 0 :: st) h nc ns) := am_u e_129_636
theorem e_129_637 : pg_code 129 637 = some (.ireturn, 1, 0, 0) := by decide +kernel
theorem u_129_637 {a : Int32} {lv : am_L} : am_W G (am_M G d) 129 K 637 lv [.int a] h nc ns = (narrow .boolean (.int a) = .int a ∧ K (.inl (some (.int a))) h) := (am_u e_129_637).trans (f_z_eq rfl)
theorem e_129_638 : pg_code 129 638 = some (.iload 5, 2, 0, 0) := by decide +kernel
theorem u_129_638 {a : Int32} {z0 : Option Value} {z1 : Option Value} {z2 : Option Value} {z3 : Option Value} {z4 : Option Value} {lv : am_L} {st : List Value} : am_W G (am_M G d) 129 K 638 (z0 :: z1 :: z2 :: z3 :: z4 :: some (.int a) :: lv) st h nc ns = (am_W G (am_M G d) 129 K 640 (z0 :: z1 :: z2 :: z3 :: z4 :: some (.int a) :: lv) (.int a :: st) h nc ns) := am_u e_129_638
theorem e_129_640 : pg_code 129 640 = some (.ifCond .ne 14, 3, 654, 0) := by decide +kernel
theorem u_129_640 {a : Int32} {lv : am_L} {st : List Value} : am_W G (am_M G d) 129 K 640 lv (.int a :: st) h nc ns = (am_br (¬ a = 0) (am_W G (am_M G d) 129 K 654 lv st h nc ns) (am_W G (am_M G d) 129 K 643 lv st h nc ns)) := am_u e_129_640
theorem e_129_643 : pg_code 129 643 = some (.aload_n 3, 1, 0, 0) := by decide +kernel
theorem u_129_643 {a : Nat} {z0 : Option Value} {z1 : Option Value} {z2 : Option Value} {lv : am_L} {st : List Value} : am_W G (am_M G d) 129 K 643 (z0 :: z1 :: z2 :: some (.ref a) :: lv) st h nc ns = (am_W G (am_M G d) 129 K 644 (z0 :: z1 :: z2 :: some (.ref a) :: lv) (.ref a :: st) h nc ns) := am_u e_129_643
theorem e_129_644 : pg_code 129 644 = some (.iconst 0, 1, 0, 0) := by decide +kernel
theorem u_129_644 {lv : am_L} {st : List Value} : am_W G (am_M G d) 129 K 644 lv st h nc ns = (am_W G (am_M G d) 129 K 645 lv (.int 0 :: st) h nc ns) := am_u e_129_644
theorem e_129_645 : pg_code 129 645 = some (.laload, 1, 0, 0) := by decide +kernel
theorem u_129_645 {a : Nat} {j : Int32} {lv : am_L} {st : List Value} : am_W G (am_M G d) 129 K 645 lv (.int j :: .ref a :: st) h nc ns = (f_la G d 129 K 646 lv st h nc ns (h a) j) := am_u e_129_645
theorem e_129_646 : pg_code 129 646 = some (.lload 6, 2, 0, 0) := by decide +kernel
theorem u_129_646 {a : Int64} {z0 : Option Value} {z1 : Option Value} {z2 : Option Value} {z3 : Option Value} {z4 : Option Value} {z5 : Option Value} {lv : am_L} {st : List Value} : am_W G (am_M G d) 129 K 646 (z0 :: z1 :: z2 :: z3 :: z4 :: z5 :: some (.long a) :: lv) st h nc ns = (am_W G (am_M G d) 129 K 648 (z0 :: z1 :: z2 :: z3 :: z4 :: z5 :: some (.long a) :: lv) (.long a :: st) h nc ns) := am_u e_129_646
theorem e_129_648 : pg_code 129 648 = some (.lcmp, 1, 0, 0) := by decide +kernel
theorem u_129_648 {a b : Int64} {lv : am_L} {st : List Value} : am_W G (am_M G d) 129 K 648 lv (.long b :: .long a :: st) h nc ns = (am_W G (am_M G d) 129 K 649 lv (.int (lg_cmp a b) :: st) h nc ns) := am_u e_129_648
theorem e_129_649 : pg_code 129 649 = some (.ifCond .eq 5, 3, 654, 0) := by decide +kernel
theorem u_129_649 {a : Int32} {lv : am_L} {st : List Value} : am_W G (am_M G d) 129 K 649 lv (.int a :: st) h nc ns = (am_br (a = 0) (am_W G (am_M G d) 129 K 654 lv st h nc ns) (am_W G (am_M G d) 129 K 652 lv st h nc ns)) := am_u e_129_649
theorem e_129_652 : pg_code 129 652 = some (.iconst 0, 1, 0, 0) := by decide +kernel
theorem u_129_652 {lv : am_L} {st : List Value} : am_W G (am_M G d) 129 K 652 lv st h nc ns = (am_W G (am_M G d) 129 K 653 lv (.int 0 :: st) h nc ns) := am_u e_129_652
theorem e_129_653 : pg_code 129 653 = some (.ireturn, 1, 0, 0) := by decide +kernel
theorem u_129_653 {a : Int32} {lv : am_L} : am_W G (am_M G d) 129 K 653 lv [.int a] h nc ns = (narrow .boolean (.int a) = .int a ∧ K (.inl (some (.int a))) h) := (am_u e_129_653).trans (f_z_eq rfl)
theorem e_129_654 : pg_code 129 654 = some (.goto 625, 3, 1279, 0) := by decide +kernel
theorem u_129_654 {lv : am_L} {st : List Value} : am_W G (am_M G d) 129 K 654 lv st h nc ns = (am_W G (am_M G d) 129 K 1279 lv st h nc ns) := am_u e_129_654
theorem e_129_657 : pg_code 129 657 = some (.aload_n 1, 1, 0, 0) := by decide +kernel
theorem u_129_657 {a : Nat} {z0 : Option Value} {lv : am_L} {st : List Value} : am_W G (am_M G d) 129 K 657 (z0 :: some (.ref a) :: lv) st h nc ns = (am_W G (am_M G d) 129 K 658 (z0 :: some (.ref a) :: lv) (.ref a :: st) h nc ns) := am_u e_129_657
theorem e_129_658 : pg_code 129 658 = some (.aload_n 0, 1, 0, 0) := by decide +kernel
theorem u_129_658 {a : Nat} {lv : am_L} {st : List Value} : am_W G (am_M G d) 129 K 658 (some (.ref a) :: lv) st h nc ns = (am_W G (am_M G d) 129 K 659 (some (.ref a) :: lv) (.ref a :: st) h nc ns) := am_u e_129_658
theorem e_129_659 : pg_code 129 659 = some (.iload 4, 2, 0, 0) := by decide +kernel
theorem u_129_659 {a : Int32} {z0 : Option Value} {z1 : Option Value} {z2 : Option Value} {z3 : Option Value} {lv : am_L} {st : List Value} : am_W G (am_M G d) 129 K 659 (z0 :: z1 :: z2 :: z3 :: some (.int a) :: lv) st h nc ns = (am_W G (am_M G d) 129 K 661 (z0 :: z1 :: z2 :: z3 :: some (.int a) :: lv) (.int a :: st) h nc ns) := am_u e_129_659
theorem e_129_661 : pg_code 129 661 = some (.iconst 1, 1, 0, 0) := by decide +kernel
theorem u_129_661 {lv : am_L} {st : List Value} : am_W G (am_M G d) 129 K 661 lv st h nc ns = (am_W G (am_M G d) 129 K 662 lv (.int 1 :: st) h nc ns) := am_u e_129_661
theorem e_129_662 : pg_code 129 662 = some (.iadd, 1, 0, 0) := by decide +kernel
theorem u_129_662 {a b : Int32} {lv : am_L} {st : List Value} : am_W G (am_M G d) 129 K 662 lv (.int b :: .int a :: st) h nc ns = (am_W G (am_M G d) 129 K 663 lv (.int (a + b) :: st) h nc ns) := am_u e_129_662
theorem e_129_663 : pg_code 129 663 = some (.iaload, 1, 1, 0) := by decide +kernel
theorem u_129_663 {a : Nat} {j : Int32} {lv : am_L} {st : List Value} : am_W G (am_M G d) 129 K 663 lv (.int j :: .ref a :: st) h nc ns = ((a = G.1 ∧ vp_in j G.2.1) ∧ am_W G (am_M G d) 129 K 664 lv (.int (G.2.2 j.toNatClampNeg) :: st) h nc ns) := am_u e_129_663
theorem e_129_664 : pg_code 129 664 = some (.aload_n 3, 1, 0, 0) := by decide +kernel
theorem u_129_664 {a : Nat} {z0 : Option Value} {z1 : Option Value} {z2 : Option Value} {lv : am_L} {st : List Value} : am_W G (am_M G d) 129 K 664 (z0 :: z1 :: z2 :: some (.ref a) :: lv) st h nc ns = (am_W G (am_M G d) 129 K 665 (z0 :: z1 :: z2 :: some (.ref a) :: lv) (.ref a :: st) h nc ns) := am_u e_129_664
theorem e_129_665 : pg_code 129 665 = some (.invokestatic 111, 3, 55, 3) := by decide +kernel
theorem u_129_665 {v0 v1 v2 : Value} {lv : am_L} {st : List Value} : am_W G (am_M G d) 129 K 665 lv (v2 :: v1 :: v0 :: st) h nc ns = ((am_words st ≤ 8 ∧ nc + 1 ≤ 601024 ∧ ns + 6 ≤ 7293034) ∧ am_M G d 55 [v0, v1, v2] h (am_back 129 K (am_W G (am_M G d) 129 K) 55 665 lv st nc ns)) := (am_u e_129_665).trans (f_st_eq (G := G) (d := d) (k := 129) (K := K) (pc := 665) (lv := lv) (st := st) (h := h) (nc := nc) (ns := ns) (x := 55) (X := am_W G (am_M G d) 129 K) [v0, v1, v2] (by decide) rfl)
theorem e_129_668 : pg_code 129 668 = some (.istore 5, 2, 0, 0) := by decide +kernel
theorem u_129_668 {a : Int32} {lv : am_L} {st : List Value} : am_W G (am_M G d) 129 K 668 lv (.int a :: st) h nc ns = (am_W G (am_M G d) 129 K 670 (am_st1 lv 5 (.int a)) st h nc ns) := (am_u e_129_668).trans (f_t (by decide +kernel))
theorem e_129_670 : pg_code 129 670 = some (.aload_n 2, 1, 0, 0) := by decide +kernel
theorem u_129_670 {a : Nat} {z0 : Option Value} {z1 : Option Value} {lv : am_L} {st : List Value} : am_W G (am_M G d) 129 K 670 (z0 :: z1 :: some (.ref a) :: lv) st h nc ns = (am_W G (am_M G d) 129 K 671 (z0 :: z1 :: some (.ref a) :: lv) (.ref a :: st) h nc ns) := am_u e_129_670
theorem e_129_671 : pg_code 129 671 = some (.aload_n 0, 1, 0, 0) := by decide +kernel
theorem u_129_671 {a : Nat} {lv : am_L} {st : List Value} : am_W G (am_M G d) 129 K 671 (some (.ref a) :: lv) st h nc ns = (am_W G (am_M G d) 129 K 672 (some (.ref a) :: lv) (.ref a :: st) h nc ns) := am_u e_129_671
theorem e_129_672 : pg_code 129 672 = some (.iload 4, 2, 0, 0) := by decide +kernel
theorem u_129_672 {a : Int32} {z0 : Option Value} {z1 : Option Value} {z2 : Option Value} {z3 : Option Value} {lv : am_L} {st : List Value} : am_W G (am_M G d) 129 K 672 (z0 :: z1 :: z2 :: z3 :: some (.int a) :: lv) st h nc ns = (am_W G (am_M G d) 129 K 674 (z0 :: z1 :: z2 :: z3 :: some (.int a) :: lv) (.int a :: st) h nc ns) := am_u e_129_672
theorem e_129_674 : pg_code 129 674 = some (.iconst 1, 1, 0, 0) := by decide +kernel
theorem u_129_674 {lv : am_L} {st : List Value} : am_W G (am_M G d) 129 K 674 lv st h nc ns = (am_W G (am_M G d) 129 K 675 lv (.int 1 :: st) h nc ns) := am_u e_129_674
theorem e_129_675 : pg_code 129 675 = some (.iadd, 1, 0, 0) := by decide +kernel
theorem u_129_675 {a b : Int32} {lv : am_L} {st : List Value} : am_W G (am_M G d) 129 K 675 lv (.int b :: .int a :: st) h nc ns = (am_W G (am_M G d) 129 K 676 lv (.int (a + b) :: st) h nc ns) := am_u e_129_675
theorem e_129_676 : pg_code 129 676 = some (.iaload, 1, 1, 0) := by decide +kernel
theorem u_129_676 {a : Nat} {j : Int32} {lv : am_L} {st : List Value} : am_W G (am_M G d) 129 K 676 lv (.int j :: .ref a :: st) h nc ns = ((a = G.1 ∧ vp_in j G.2.1) ∧ am_W G (am_M G d) 129 K 677 lv (.int (G.2.2 j.toNatClampNeg) :: st) h nc ns) := am_u e_129_676
theorem e_129_677 : pg_code 129 677 = some (.invokevirtual 113, 3, 110, 2) := by decide +kernel
theorem u_129_677 {a : Nat} {v0 : Value} {lv : am_L} {st : List Value} : am_W G (am_M G d) 129 K 677 lv (v0 :: .ref a :: st) h nc ns = ((am_words st ≤ 8 ∧ nc + 0 ≤ 601024 ∧ ns + 0 ≤ 7293034 ∧ f_rc (h a) 7) ∧ am_M G d 110 [.ref a, v0] h (am_back 129 K (am_W G (am_M G d) 129 K) 110 677 lv st nc ns)) := (am_u e_129_677).trans (f_iv_eq (a := a) (G := G) (d := d) (k := 129) (K := K) (pc := 677) (lv := lv) (st := st) (h := h) (nc := nc) (ns := ns) (x := 110) (X := am_W G (am_M G d) 129 K) [v0] (by decide) rfl)
theorem e_129_680 : pg_code 129 680 = some (.istore 6, 2, 0, 0) := by decide +kernel
theorem u_129_680 {a : Int32} {lv : am_L} {st : List Value} : am_W G (am_M G d) 129 K 680 lv (.int a :: st) h nc ns = (am_W G (am_M G d) 129 K 682 (am_st1 lv 6 (.int a)) st h nc ns) := (am_u e_129_680).trans (f_t (by decide +kernel))
theorem e_129_682 : pg_code 129 682 = some (.aload_n 2, 1, 0, 0) := by decide +kernel
theorem u_129_682 {a : Nat} {z0 : Option Value} {z1 : Option Value} {lv : am_L} {st : List Value} : am_W G (am_M G d) 129 K 682 (z0 :: z1 :: some (.ref a) :: lv) st h nc ns = (am_W G (am_M G d) 129 K 683 (z0 :: z1 :: some (.ref a) :: lv) (.ref a :: st) h nc ns) := am_u e_129_682
theorem e_129_683 : pg_code 129 683 = some (.invokevirtual 84, 3, 83, 1) := by decide +kernel
theorem u_129_683 {a : Nat} {lv : am_L} {st : List Value} : am_W G (am_M G d) 129 K 683 lv (.ref a :: st) h nc ns = ((am_words st ≤ 8 ∧ nc + 0 ≤ 601024 ∧ ns + 0 ≤ 7293034 ∧ f_rc (h a) 7) ∧ am_M G d 83 [.ref a] h (am_back 129 K (am_W G (am_M G d) 129 K) 83 683 lv st nc ns)) := (am_u e_129_683).trans (f_iv_eq (a := a) (G := G) (d := d) (k := 129) (K := K) (pc := 683) (lv := lv) (st := st) (h := h) (nc := nc) (ns := ns) (x := 83) (X := am_W G (am_M G d) 129 K) [] (by decide) rfl)
theorem e_129_686 : pg_code 129 686 = some (.iload 5, 2, 0, 0) := by decide +kernel
theorem u_129_686 {a : Int32} {z0 : Option Value} {z1 : Option Value} {z2 : Option Value} {z3 : Option Value} {z4 : Option Value} {lv : am_L} {st : List Value} : am_W G (am_M G d) 129 K 686 (z0 :: z1 :: z2 :: z3 :: z4 :: some (.int a) :: lv) st h nc ns = (am_W G (am_M G d) 129 K 688 (z0 :: z1 :: z2 :: z3 :: z4 :: some (.int a) :: lv) (.int a :: st) h nc ns) := am_u e_129_686
theorem e_129_688 : pg_code 129 688 = some (.if_icmp .eq 5, 3, 693, 0) := by decide +kernel
theorem u_129_688 {a b : Int32} {lv : am_L} {st : List Value} : am_W G (am_M G d) 129 K 688 lv (.int b :: .int a :: st) h nc ns = (am_br (a = b) (am_W G (am_M G d) 129 K 693 lv st h nc ns) (am_W G (am_M G d) 129 K 691 lv st h nc ns)) := am_u e_129_688
theorem e_129_691 : pg_code 129 691 = some (.iconst 0, 1, 0, 0) := by decide +kernel
theorem u_129_691 {lv : am_L} {st : List Value} : am_W G (am_M G d) 129 K 691 lv st h nc ns = (am_W G (am_M G d) 129 K 692 lv (.int 0 :: st) h nc ns) := am_u e_129_691
theorem e_129_692 : pg_code 129 692 = some (.ireturn, 1, 0, 0) := by decide +kernel
theorem u_129_692 {a : Int32} {lv : am_L} : am_W G (am_M G d) 129 K 692 lv [.int a] h nc ns = (narrow .boolean (.int a) = .int a ∧ K (.inl (some (.int a))) h) := (am_u e_129_692).trans (f_z_eq rfl)
theorem e_129_693 : pg_code 129 693 = some (.iload 5, 2, 0, 0) := by decide +kernel
theorem u_129_693 {a : Int32} {z0 : Option Value} {z1 : Option Value} {z2 : Option Value} {z3 : Option Value} {z4 : Option Value} {lv : am_L} {st : List Value} : am_W G (am_M G d) 129 K 693 (z0 :: z1 :: z2 :: z3 :: z4 :: some (.int a) :: lv) st h nc ns = (am_W G (am_M G d) 129 K 695 (z0 :: z1 :: z2 :: z3 :: z4 :: some (.int a) :: lv) (.int a :: st) h nc ns) := am_u e_129_693
theorem e_129_695 : pg_code 129 695 = some (.ifCond .ne 15, 3, 710, 0) := by decide +kernel
theorem u_129_695 {a : Int32} {lv : am_L} {st : List Value} : am_W G (am_M G d) 129 K 695 lv (.int a :: st) h nc ns = (am_br (¬ a = 0) (am_W G (am_M G d) 129 K 710 lv st h nc ns) (am_W G (am_M G d) 129 K 698 lv st h nc ns)) := am_u e_129_695
theorem e_129_698 : pg_code 129 698 = some (.aload_n 3, 1, 0, 0) := by decide +kernel
theorem u_129_698 {a : Nat} {z0 : Option Value} {z1 : Option Value} {z2 : Option Value} {lv : am_L} {st : List Value} : am_W G (am_M G d) 129 K 698 (z0 :: z1 :: z2 :: some (.ref a) :: lv) st h nc ns = (am_W G (am_M G d) 129 K 699 (z0 :: z1 :: z2 :: some (.ref a) :: lv) (.ref a :: st) h nc ns) := am_u e_129_698
theorem e_129_699 : pg_code 129 699 = some (.iconst 0, 1, 0, 0) := by decide +kernel
theorem u_129_699 {lv : am_L} {st : List Value} : am_W G (am_M G d) 129 K 699 lv st h nc ns = (am_W G (am_M G d) 129 K 700 lv (.int 0 :: st) h nc ns) := am_u e_129_699
theorem e_129_700 : pg_code 129 700 = some (.laload, 1, 0, 0) := by decide +kernel
theorem u_129_700 {a : Nat} {j : Int32} {lv : am_L} {st : List Value} : am_W G (am_M G d) 129 K 700 lv (.int j :: .ref a :: st) h nc ns = (f_la G d 129 K 701 lv st h nc ns (h a) j) := am_u e_129_700
theorem e_129_701 : pg_code 129 701 = some (.iload 6, 2, 0, 0) := by decide +kernel
theorem u_129_701 {a : Int32} {z0 : Option Value} {z1 : Option Value} {z2 : Option Value} {z3 : Option Value} {z4 : Option Value} {z5 : Option Value} {lv : am_L} {st : List Value} : am_W G (am_M G d) 129 K 701 (z0 :: z1 :: z2 :: z3 :: z4 :: z5 :: some (.int a) :: lv) st h nc ns = (am_W G (am_M G d) 129 K 703 (z0 :: z1 :: z2 :: z3 :: z4 :: z5 :: some (.int a) :: lv) (.int a :: st) h nc ns) := am_u e_129_701
theorem e_129_703 : pg_code 129 703 = some (.i2l, 1, 0, 0) := by decide +kernel
theorem u_129_703 {a : Int32} {lv : am_L} {st : List Value} : am_W G (am_M G d) 129 K 703 lv (.int a :: st) h nc ns = (am_W G (am_M G d) 129 K 704 lv (.long a.toInt64 :: st) h nc ns) := am_u e_129_703
theorem e_129_704 : pg_code 129 704 = some (.lcmp, 1, 0, 0) := by decide +kernel
theorem u_129_704 {a b : Int64} {lv : am_L} {st : List Value} : am_W G (am_M G d) 129 K 704 lv (.long b :: .long a :: st) h nc ns = (am_W G (am_M G d) 129 K 705 lv (.int (lg_cmp a b) :: st) h nc ns) := am_u e_129_704
theorem e_129_705 : pg_code 129 705 = some (.ifCond .eq 5, 3, 710, 0) := by decide +kernel
theorem u_129_705 {a : Int32} {lv : am_L} {st : List Value} : am_W G (am_M G d) 129 K 705 lv (.int a :: st) h nc ns = (am_br (a = 0) (am_W G (am_M G d) 129 K 710 lv st h nc ns) (am_W G (am_M G d) 129 K 708 lv st h nc ns)) := am_u e_129_705
theorem e_129_708 : pg_code 129 708 = some (.iconst 0, 1, 0, 0) := by decide +kernel
theorem u_129_708 {lv : am_L} {st : List Value} : am_W G (am_M G d) 129 K 708 lv st h nc ns = (am_W G (am_M G d) 129 K 709 lv (.int 0 :: st) h nc ns) := am_u e_129_708
theorem e_129_709 : pg_code 129 709 = some (.ireturn, 1, 0, 0) := by decide +kernel
theorem u_129_709 {a : Int32} {lv : am_L} : am_W G (am_M G d) 129 K 709 lv [.int a] h nc ns = (narrow .boolean (.int a) = .int a ∧ K (.inl (some (.int a))) h) := (am_u e_129_709).trans (f_z_eq rfl)
theorem e_129_710 : pg_code 129 710 = some (.goto 569, 3, 1279, 0) := by decide +kernel
theorem u_129_710 {lv : am_L} {st : List Value} : am_W G (am_M G d) 129 K 710 lv st h nc ns = (am_W G (am_M G d) 129 K 1279 lv st h nc ns) := am_u e_129_710
theorem e_129_713 : pg_code 129 713 = some (.aload_n 1, 1, 0, 0) := by decide +kernel
theorem u_129_713 {a : Nat} {z0 : Option Value} {lv : am_L} {st : List Value} : am_W G (am_M G d) 129 K 713 (z0 :: some (.ref a) :: lv) st h nc ns = (am_W G (am_M G d) 129 K 714 (z0 :: some (.ref a) :: lv) (.ref a :: st) h nc ns) := am_u e_129_713
theorem e_129_714 : pg_code 129 714 = some (.aload_n 0, 1, 0, 0) := by decide +kernel
theorem u_129_714 {a : Nat} {lv : am_L} {st : List Value} : am_W G (am_M G d) 129 K 714 (some (.ref a) :: lv) st h nc ns = (am_W G (am_M G d) 129 K 715 (some (.ref a) :: lv) (.ref a :: st) h nc ns) := am_u e_129_714
theorem e_129_715 : pg_code 129 715 = some (.iload 4, 2, 0, 0) := by decide +kernel
theorem u_129_715 {a : Int32} {z0 : Option Value} {z1 : Option Value} {z2 : Option Value} {z3 : Option Value} {lv : am_L} {st : List Value} : am_W G (am_M G d) 129 K 715 (z0 :: z1 :: z2 :: z3 :: some (.int a) :: lv) st h nc ns = (am_W G (am_M G d) 129 K 717 (z0 :: z1 :: z2 :: z3 :: some (.int a) :: lv) (.int a :: st) h nc ns) := am_u e_129_715
theorem e_129_717 : pg_code 129 717 = some (.iconst 1, 1, 0, 0) := by decide +kernel
theorem u_129_717 {lv : am_L} {st : List Value} : am_W G (am_M G d) 129 K 717 lv st h nc ns = (am_W G (am_M G d) 129 K 718 lv (.int 1 :: st) h nc ns) := am_u e_129_717
theorem e_129_718 : pg_code 129 718 = some (.iadd, 1, 0, 0) := by decide +kernel
theorem u_129_718 {a b : Int32} {lv : am_L} {st : List Value} : am_W G (am_M G d) 129 K 718 lv (.int b :: .int a :: st) h nc ns = (am_W G (am_M G d) 129 K 719 lv (.int (a + b) :: st) h nc ns) := am_u e_129_718
theorem e_129_719 : pg_code 129 719 = some (.iaload, 1, 1, 0) := by decide +kernel
theorem u_129_719 {a : Nat} {j : Int32} {lv : am_L} {st : List Value} : am_W G (am_M G d) 129 K 719 lv (.int j :: .ref a :: st) h nc ns = ((a = G.1 ∧ vp_in j G.2.1) ∧ am_W G (am_M G d) 129 K 720 lv (.int (G.2.2 j.toNatClampNeg) :: st) h nc ns) := am_u e_129_719
theorem e_129_720 : pg_code 129 720 = some (.aload_n 3, 1, 0, 0) := by decide +kernel
theorem u_129_720 {a : Nat} {z0 : Option Value} {z1 : Option Value} {z2 : Option Value} {lv : am_L} {st : List Value} : am_W G (am_M G d) 129 K 720 (z0 :: z1 :: z2 :: some (.ref a) :: lv) st h nc ns = (am_W G (am_M G d) 129 K 721 (z0 :: z1 :: z2 :: some (.ref a) :: lv) (.ref a :: st) h nc ns) := am_u e_129_720
theorem e_129_721 : pg_code 129 721 = some (.invokestatic 114, 3, 57, 3) := by decide +kernel
theorem u_129_721 {v0 v1 v2 : Value} {lv : am_L} {st : List Value} : am_W G (am_M G d) 129 K 721 lv (v2 :: v1 :: v0 :: st) h nc ns = ((am_words st ≤ 8 ∧ nc + 1 ≤ 601024 ∧ ns + 6 ≤ 7293034) ∧ am_M G d 57 [v0, v1, v2] h (am_back 129 K (am_W G (am_M G d) 129 K) 57 721 lv st nc ns)) := (am_u e_129_721).trans (f_st_eq (G := G) (d := d) (k := 129) (K := K) (pc := 721) (lv := lv) (st := st) (h := h) (nc := nc) (ns := ns) (x := 57) (X := am_W G (am_M G d) 129 K) [v0, v1, v2] (by decide) rfl)
theorem e_129_724 : pg_code 129 724 = some (.istore 5, 2, 0, 0) := by decide +kernel
theorem u_129_724 {a : Int32} {lv : am_L} {st : List Value} : am_W G (am_M G d) 129 K 724 lv (.int a :: st) h nc ns = (am_W G (am_M G d) 129 K 726 (am_st1 lv 5 (.int a)) st h nc ns) := (am_u e_129_724).trans (f_t (by decide +kernel))
theorem e_129_726 : pg_code 129 726 = some (.aload_n 2, 1, 0, 0) := by decide +kernel
theorem u_129_726 {a : Nat} {z0 : Option Value} {z1 : Option Value} {lv : am_L} {st : List Value} : am_W G (am_M G d) 129 K 726 (z0 :: z1 :: some (.ref a) :: lv) st h nc ns = (am_W G (am_M G d) 129 K 727 (z0 :: z1 :: some (.ref a) :: lv) (.ref a :: st) h nc ns) := am_u e_129_726
theorem e_129_727 : pg_code 129 727 = some (.aload_n 0, 1, 0, 0) := by decide +kernel
theorem u_129_727 {a : Nat} {lv : am_L} {st : List Value} : am_W G (am_M G d) 129 K 727 (some (.ref a) :: lv) st h nc ns = (am_W G (am_M G d) 129 K 728 (some (.ref a) :: lv) (.ref a :: st) h nc ns) := am_u e_129_727
theorem e_129_728 : pg_code 129 728 = some (.iload 4, 2, 0, 0) := by decide +kernel
theorem u_129_728 {a : Int32} {z0 : Option Value} {z1 : Option Value} {z2 : Option Value} {z3 : Option Value} {lv : am_L} {st : List Value} : am_W G (am_M G d) 129 K 728 (z0 :: z1 :: z2 :: z3 :: some (.int a) :: lv) st h nc ns = (am_W G (am_M G d) 129 K 730 (z0 :: z1 :: z2 :: z3 :: some (.int a) :: lv) (.int a :: st) h nc ns) := am_u e_129_728
theorem e_129_730 : pg_code 129 730 = some (.iconst 1, 1, 0, 0) := by decide +kernel
theorem u_129_730 {lv : am_L} {st : List Value} : am_W G (am_M G d) 129 K 730 lv st h nc ns = (am_W G (am_M G d) 129 K 731 lv (.int 1 :: st) h nc ns) := am_u e_129_730
theorem e_129_731 : pg_code 129 731 = some (.iadd, 1, 0, 0) := by decide +kernel
theorem u_129_731 {a b : Int32} {lv : am_L} {st : List Value} : am_W G (am_M G d) 129 K 731 lv (.int b :: .int a :: st) h nc ns = (am_W G (am_M G d) 129 K 732 lv (.int (a + b) :: st) h nc ns) := am_u e_129_731
theorem e_129_732 : pg_code 129 732 = some (.iaload, 1, 1, 0) := by decide +kernel
theorem u_129_732 {a : Nat} {j : Int32} {lv : am_L} {st : List Value} : am_W G (am_M G d) 129 K 732 lv (.int j :: .ref a :: st) h nc ns = ((a = G.1 ∧ vp_in j G.2.1) ∧ am_W G (am_M G d) 129 K 733 lv (.int (G.2.2 j.toNatClampNeg) :: st) h nc ns) := am_u e_129_732
theorem e_129_733 : pg_code 129 733 = some (.invokevirtual 116, 3, 111, 2) := by decide +kernel
theorem u_129_733 {a : Nat} {v0 : Value} {lv : am_L} {st : List Value} : am_W G (am_M G d) 129 K 733 lv (v0 :: .ref a :: st) h nc ns = ((am_words st ≤ 8 ∧ nc + 0 ≤ 601024 ∧ ns + 0 ≤ 7293034 ∧ f_rc (h a) 7) ∧ am_M G d 111 [.ref a, v0] h (am_back 129 K (am_W G (am_M G d) 129 K) 111 733 lv st nc ns)) := (am_u e_129_733).trans (f_iv_eq (a := a) (G := G) (d := d) (k := 129) (K := K) (pc := 733) (lv := lv) (st := st) (h := h) (nc := nc) (ns := ns) (x := 111) (X := am_W G (am_M G d) 129 K) [v0] (by decide) rfl)
theorem e_129_736 : pg_code 129 736 = some (.istore 6, 2, 0, 0) := by decide +kernel
theorem u_129_736 {a : Int32} {lv : am_L} {st : List Value} : am_W G (am_M G d) 129 K 736 lv (.int a :: st) h nc ns = (am_W G (am_M G d) 129 K 738 (am_st1 lv 6 (.int a)) st h nc ns) := (am_u e_129_736).trans (f_t (by decide +kernel))
theorem e_129_738 : pg_code 129 738 = some (.aload_n 2, 1, 0, 0) := by decide +kernel
theorem u_129_738 {a : Nat} {z0 : Option Value} {z1 : Option Value} {lv : am_L} {st : List Value} : am_W G (am_M G d) 129 K 738 (z0 :: z1 :: some (.ref a) :: lv) st h nc ns = (am_W G (am_M G d) 129 K 739 (z0 :: z1 :: some (.ref a) :: lv) (.ref a :: st) h nc ns) := am_u e_129_738
theorem e_129_739 : pg_code 129 739 = some (.invokevirtual 84, 3, 83, 1) := by decide +kernel
theorem u_129_739 {a : Nat} {lv : am_L} {st : List Value} : am_W G (am_M G d) 129 K 739 lv (.ref a :: st) h nc ns = ((am_words st ≤ 8 ∧ nc + 0 ≤ 601024 ∧ ns + 0 ≤ 7293034 ∧ f_rc (h a) 7) ∧ am_M G d 83 [.ref a] h (am_back 129 K (am_W G (am_M G d) 129 K) 83 739 lv st nc ns)) := (am_u e_129_739).trans (f_iv_eq (a := a) (G := G) (d := d) (k := 129) (K := K) (pc := 739) (lv := lv) (st := st) (h := h) (nc := nc) (ns := ns) (x := 83) (X := am_W G (am_M G d) 129 K) [] (by decide) rfl)
theorem e_129_742 : pg_code 129 742 = some (.iload 5, 2, 0, 0) := by decide +kernel
theorem u_129_742 {a : Int32} {z0 : Option Value} {z1 : Option Value} {z2 : Option Value} {z3 : Option Value} {z4 : Option Value} {lv : am_L} {st : List Value} : am_W G (am_M G d) 129 K 742 (z0 :: z1 :: z2 :: z3 :: z4 :: some (.int a) :: lv) st h nc ns = (am_W G (am_M G d) 129 K 744 (z0 :: z1 :: z2 :: z3 :: z4 :: some (.int a) :: lv) (.int a :: st) h nc ns) := am_u e_129_742
theorem e_129_744 : pg_code 129 744 = some (.if_icmp .eq 5, 3, 749, 0) := by decide +kernel
theorem u_129_744 {a b : Int32} {lv : am_L} {st : List Value} : am_W G (am_M G d) 129 K 744 lv (.int b :: .int a :: st) h nc ns = (am_br (a = b) (am_W G (am_M G d) 129 K 749 lv st h nc ns) (am_W G (am_M G d) 129 K 747 lv st h nc ns)) := am_u e_129_744
theorem e_129_747 : pg_code 129 747 = some (.iconst 0, 1, 0, 0) := by decide +kernel
theorem u_129_747 {lv : am_L} {st : List Value} : am_W G (am_M G d) 129 K 747 lv st h nc ns = (am_W G (am_M G d) 129 K 748 lv (.int 0 :: st) h nc ns) := am_u e_129_747
theorem e_129_748 : pg_code 129 748 = some (.ireturn, 1, 0, 0) := by decide +kernel
theorem u_129_748 {a : Int32} {lv : am_L} : am_W G (am_M G d) 129 K 748 lv [.int a] h nc ns = (narrow .boolean (.int a) = .int a ∧ K (.inl (some (.int a))) h) := (am_u e_129_748).trans (f_z_eq rfl)
theorem e_129_749 : pg_code 129 749 = some (.iload 5, 2, 0, 0) := by decide +kernel
theorem u_129_749 {a : Int32} {z0 : Option Value} {z1 : Option Value} {z2 : Option Value} {z3 : Option Value} {z4 : Option Value} {lv : am_L} {st : List Value} : am_W G (am_M G d) 129 K 749 (z0 :: z1 :: z2 :: z3 :: z4 :: some (.int a) :: lv) st h nc ns = (am_W G (am_M G d) 129 K 751 (z0 :: z1 :: z2 :: z3 :: z4 :: some (.int a) :: lv) (.int a :: st) h nc ns) := am_u e_129_749
theorem e_129_751 : pg_code 129 751 = some (.ifCond .ne 15, 3, 766, 0) := by decide +kernel
theorem u_129_751 {a : Int32} {lv : am_L} {st : List Value} : am_W G (am_M G d) 129 K 751 lv (.int a :: st) h nc ns = (am_br (¬ a = 0) (am_W G (am_M G d) 129 K 766 lv st h nc ns) (am_W G (am_M G d) 129 K 754 lv st h nc ns)) := am_u e_129_751
theorem e_129_754 : pg_code 129 754 = some (.aload_n 3, 1, 0, 0) := by decide +kernel
theorem u_129_754 {a : Nat} {z0 : Option Value} {z1 : Option Value} {z2 : Option Value} {lv : am_L} {st : List Value} : am_W G (am_M G d) 129 K 754 (z0 :: z1 :: z2 :: some (.ref a) :: lv) st h nc ns = (am_W G (am_M G d) 129 K 755 (z0 :: z1 :: z2 :: some (.ref a) :: lv) (.ref a :: st) h nc ns) := am_u e_129_754
theorem e_129_755 : pg_code 129 755 = some (.iconst 0, 1, 0, 0) := by decide +kernel
theorem u_129_755 {lv : am_L} {st : List Value} : am_W G (am_M G d) 129 K 755 lv st h nc ns = (am_W G (am_M G d) 129 K 756 lv (.int 0 :: st) h nc ns) := am_u e_129_755
theorem e_129_756 : pg_code 129 756 = some (.laload, 1, 0, 0) := by decide +kernel
theorem u_129_756 {a : Nat} {j : Int32} {lv : am_L} {st : List Value} : am_W G (am_M G d) 129 K 756 lv (.int j :: .ref a :: st) h nc ns = (f_la G d 129 K 757 lv st h nc ns (h a) j) := am_u e_129_756
theorem e_129_757 : pg_code 129 757 = some (.iload 6, 2, 0, 0) := by decide +kernel
theorem u_129_757 {a : Int32} {z0 : Option Value} {z1 : Option Value} {z2 : Option Value} {z3 : Option Value} {z4 : Option Value} {z5 : Option Value} {lv : am_L} {st : List Value} : am_W G (am_M G d) 129 K 757 (z0 :: z1 :: z2 :: z3 :: z4 :: z5 :: some (.int a) :: lv) st h nc ns = (am_W G (am_M G d) 129 K 759 (z0 :: z1 :: z2 :: z3 :: z4 :: z5 :: some (.int a) :: lv) (.int a :: st) h nc ns) := am_u e_129_757
theorem e_129_759 : pg_code 129 759 = some (.i2l, 1, 0, 0) := by decide +kernel
theorem u_129_759 {a : Int32} {lv : am_L} {st : List Value} : am_W G (am_M G d) 129 K 759 lv (.int a :: st) h nc ns = (am_W G (am_M G d) 129 K 760 lv (.long a.toInt64 :: st) h nc ns) := am_u e_129_759
theorem e_129_760 : pg_code 129 760 = some (.lcmp, 1, 0, 0) := by decide +kernel
theorem u_129_760 {a b : Int64} {lv : am_L} {st : List Value} : am_W G (am_M G d) 129 K 760 lv (.long b :: .long a :: st) h nc ns = (am_W G (am_M G d) 129 K 761 lv (.int (lg_cmp a b) :: st) h nc ns) := am_u e_129_760
theorem e_129_761 : pg_code 129 761 = some (.ifCond .eq 5, 3, 766, 0) := by decide +kernel
theorem u_129_761 {a : Int32} {lv : am_L} {st : List Value} : am_W G (am_M G d) 129 K 761 lv (.int a :: st) h nc ns = (am_br (a = 0) (am_W G (am_M G d) 129 K 766 lv st h nc ns) (am_W G (am_M G d) 129 K 764 lv st h nc ns)) := am_u e_129_761
theorem e_129_764 : pg_code 129 764 = some (.iconst 0, 1, 0, 0) := by decide +kernel
theorem u_129_764 {lv : am_L} {st : List Value} : am_W G (am_M G d) 129 K 764 lv st h nc ns = (am_W G (am_M G d) 129 K 765 lv (.int 0 :: st) h nc ns) := am_u e_129_764
theorem e_129_765 : pg_code 129 765 = some (.ireturn, 1, 0, 0) := by decide +kernel
theorem u_129_765 {a : Int32} {lv : am_L} : am_W G (am_M G d) 129 K 765 lv [.int a] h nc ns = (narrow .boolean (.int a) = .int a ∧ K (.inl (some (.int a))) h) := (am_u e_129_765).trans (f_z_eq rfl)
theorem e_129_766 : pg_code 129 766 = some (.goto 513, 3, 1279, 0) := by decide +kernel
theorem u_129_766 {lv : am_L} {st : List Value} : am_W G (am_M G d) 129 K 766 lv st h nc ns = (am_W G (am_M G d) 129 K 1279 lv st h nc ns) := am_u e_129_766
theorem e_129_769 : pg_code 129 769 = some (.aload_n 1, 1, 0, 0) := by decide +kernel
theorem u_129_769 {a : Nat} {z0 : Option Value} {lv : am_L} {st : List Value} : am_W G (am_M G d) 129 K 769 (z0 :: some (.ref a) :: lv) st h nc ns = (am_W G (am_M G d) 129 K 770 (z0 :: some (.ref a) :: lv) (.ref a :: st) h nc ns) := am_u e_129_769
theorem e_129_770 : pg_code 129 770 = some (.aload_n 0, 1, 0, 0) := by decide +kernel
theorem u_129_770 {a : Nat} {lv : am_L} {st : List Value} : am_W G (am_M G d) 129 K 770 (some (.ref a) :: lv) st h nc ns = (am_W G (am_M G d) 129 K 771 (some (.ref a) :: lv) (.ref a :: st) h nc ns) := am_u e_129_770
theorem e_129_771 : pg_code 129 771 = some (.iload 4, 2, 0, 0) := by decide +kernel
theorem u_129_771 {a : Int32} {z0 : Option Value} {z1 : Option Value} {z2 : Option Value} {z3 : Option Value} {lv : am_L} {st : List Value} : am_W G (am_M G d) 129 K 771 (z0 :: z1 :: z2 :: z3 :: some (.int a) :: lv) st h nc ns = (am_W G (am_M G d) 129 K 773 (z0 :: z1 :: z2 :: z3 :: some (.int a) :: lv) (.int a :: st) h nc ns) := am_u e_129_771
theorem e_129_773 : pg_code 129 773 = some (.iconst 1, 1, 0, 0) := by decide +kernel
theorem u_129_773 {lv : am_L} {st : List Value} : am_W G (am_M G d) 129 K 773 lv st h nc ns = (am_W G (am_M G d) 129 K 774 lv (.int 1 :: st) h nc ns) := am_u e_129_773
theorem e_129_774 : pg_code 129 774 = some (.iadd, 1, 0, 0) := by decide +kernel
theorem u_129_774 {a b : Int32} {lv : am_L} {st : List Value} : am_W G (am_M G d) 129 K 774 lv (.int b :: .int a :: st) h nc ns = (am_W G (am_M G d) 129 K 775 lv (.int (a + b) :: st) h nc ns) := am_u e_129_774
theorem e_129_775 : pg_code 129 775 = some (.iaload, 1, 1, 0) := by decide +kernel
theorem u_129_775 {a : Nat} {j : Int32} {lv : am_L} {st : List Value} : am_W G (am_M G d) 129 K 775 lv (.int j :: .ref a :: st) h nc ns = ((a = G.1 ∧ vp_in j G.2.1) ∧ am_W G (am_M G d) 129 K 776 lv (.int (G.2.2 j.toNatClampNeg) :: st) h nc ns) := am_u e_129_775
theorem e_129_776 : pg_code 129 776 = some (.aload_n 0, 1, 0, 0) := by decide +kernel
theorem u_129_776 {a : Nat} {lv : am_L} {st : List Value} : am_W G (am_M G d) 129 K 776 (some (.ref a) :: lv) st h nc ns = (am_W G (am_M G d) 129 K 777 (some (.ref a) :: lv) (.ref a :: st) h nc ns) := am_u e_129_776
theorem e_129_777 : pg_code 129 777 = some (.iload 4, 2, 0, 0) := by decide +kernel
theorem u_129_777 {a : Int32} {z0 : Option Value} {z1 : Option Value} {z2 : Option Value} {z3 : Option Value} {lv : am_L} {st : List Value} : am_W G (am_M G d) 129 K 777 (z0 :: z1 :: z2 :: z3 :: some (.int a) :: lv) st h nc ns = (am_W G (am_M G d) 129 K 779 (z0 :: z1 :: z2 :: z3 :: some (.int a) :: lv) (.int a :: st) h nc ns) := am_u e_129_777
theorem e_129_779 : pg_code 129 779 = some (.iconst 2, 1, 0, 0) := by decide +kernel
theorem u_129_779 {lv : am_L} {st : List Value} : am_W G (am_M G d) 129 K 779 lv st h nc ns = (am_W G (am_M G d) 129 K 780 lv (.int 2 :: st) h nc ns) := am_u e_129_779
theorem e_129_780 : pg_code 129 780 = some (.iadd, 1, 0, 0) := by decide +kernel
theorem u_129_780 {a b : Int32} {lv : am_L} {st : List Value} : am_W G (am_M G d) 129 K 780 lv (.int b :: .int a :: st) h nc ns = (am_W G (am_M G d) 129 K 781 lv (.int (a + b) :: st) h nc ns) := am_u e_129_780
theorem e_129_781 : pg_code 129 781 = some (.iaload, 1, 1, 0) := by decide +kernel
theorem u_129_781 {a : Nat} {j : Int32} {lv : am_L} {st : List Value} : am_W G (am_M G d) 129 K 781 lv (.int j :: .ref a :: st) h nc ns = ((a = G.1 ∧ vp_in j G.2.1) ∧ am_W G (am_M G d) 129 K 782 lv (.int (G.2.2 j.toNatClampNeg) :: st) h nc ns) := am_u e_129_781
theorem e_129_782 : pg_code 129 782 = some (.aload_n 3, 1, 0, 0) := by decide +kernel
theorem u_129_782 {a : Nat} {z0 : Option Value} {z1 : Option Value} {z2 : Option Value} {lv : am_L} {st : List Value} : am_W G (am_M G d) 129 K 782 (z0 :: z1 :: z2 :: some (.ref a) :: lv) st h nc ns = (am_W G (am_M G d) 129 K 783 (z0 :: z1 :: z2 :: some (.ref a) :: lv) (.ref a :: st) h nc ns) := am_u e_129_782
theorem e_129_783 : pg_code 129 783 = some (.invokestatic 117, 3, 59, 4) := by decide +kernel
theorem u_129_783 {v0 v1 v2 v3 : Value} {lv : am_L} {st : List Value} : am_W G (am_M G d) 129 K 783 lv (v3 :: v2 :: v1 :: v0 :: st) h nc ns = ((am_words st ≤ 8 ∧ nc + 2 ≤ 601024 ∧ ns + 12 ≤ 7293034) ∧ am_M G d 59 [v0, v1, v2, v3] h (am_back 129 K (am_W G (am_M G d) 129 K) 59 783 lv st nc ns)) := (am_u e_129_783).trans (f_st_eq (G := G) (d := d) (k := 129) (K := K) (pc := 783) (lv := lv) (st := st) (h := h) (nc := nc) (ns := ns) (x := 59) (X := am_W G (am_M G d) 129 K) [v0, v1, v2, v3] (by decide) rfl)
theorem e_129_786 : pg_code 129 786 = some (.istore 5, 2, 0, 0) := by decide +kernel
theorem u_129_786 {a : Int32} {lv : am_L} {st : List Value} : am_W G (am_M G d) 129 K 786 lv (.int a :: st) h nc ns = (am_W G (am_M G d) 129 K 788 (am_st1 lv 5 (.int a)) st h nc ns) := (am_u e_129_786).trans (f_t (by decide +kernel))
theorem e_129_788 : pg_code 129 788 = some (.aload_n 2, 1, 0, 0) := by decide +kernel
theorem u_129_788 {a : Nat} {z0 : Option Value} {z1 : Option Value} {lv : am_L} {st : List Value} : am_W G (am_M G d) 129 K 788 (z0 :: z1 :: some (.ref a) :: lv) st h nc ns = (am_W G (am_M G d) 129 K 789 (z0 :: z1 :: some (.ref a) :: lv) (.ref a :: st) h nc ns) := am_u e_129_788
theorem e_129_789 : pg_code 129 789 = some (.aload_n 0, 1, 0, 0) := by decide +kernel
theorem u_129_789 {a : Nat} {lv : am_L} {st : List Value} : am_W G (am_M G d) 129 K 789 (some (.ref a) :: lv) st h nc ns = (am_W G (am_M G d) 129 K 790 (some (.ref a) :: lv) (.ref a :: st) h nc ns) := am_u e_129_789
theorem e_129_790 : pg_code 129 790 = some (.iload 4, 2, 0, 0) := by decide +kernel
theorem u_129_790 {a : Int32} {z0 : Option Value} {z1 : Option Value} {z2 : Option Value} {z3 : Option Value} {lv : am_L} {st : List Value} : am_W G (am_M G d) 129 K 790 (z0 :: z1 :: z2 :: z3 :: some (.int a) :: lv) st h nc ns = (am_W G (am_M G d) 129 K 792 (z0 :: z1 :: z2 :: z3 :: some (.int a) :: lv) (.int a :: st) h nc ns) := am_u e_129_790
theorem e_129_792 : pg_code 129 792 = some (.iconst 1, 1, 0, 0) := by decide +kernel
theorem u_129_792 {lv : am_L} {st : List Value} : am_W G (am_M G d) 129 K 792 lv st h nc ns = (am_W G (am_M G d) 129 K 793 lv (.int 1 :: st) h nc ns) := am_u e_129_792
theorem e_129_793 : pg_code 129 793 = some (.iadd, 1, 0, 0) := by decide +kernel
theorem u_129_793 {a b : Int32} {lv : am_L} {st : List Value} : am_W G (am_M G d) 129 K 793 lv (.int b :: .int a :: st) h nc ns = (am_W G (am_M G d) 129 K 794 lv (.int (a + b) :: st) h nc ns) := am_u e_129_793
theorem e_129_794 : pg_code 129 794 = some (.iaload, 1, 1, 0) := by decide +kernel
theorem u_129_794 {a : Nat} {j : Int32} {lv : am_L} {st : List Value} : am_W G (am_M G d) 129 K 794 lv (.int j :: .ref a :: st) h nc ns = ((a = G.1 ∧ vp_in j G.2.1) ∧ am_W G (am_M G d) 129 K 795 lv (.int (G.2.2 j.toNatClampNeg) :: st) h nc ns) := am_u e_129_794
theorem e_129_795 : pg_code 129 795 = some (.aload_n 0, 1, 0, 0) := by decide +kernel
theorem u_129_795 {a : Nat} {lv : am_L} {st : List Value} : am_W G (am_M G d) 129 K 795 (some (.ref a) :: lv) st h nc ns = (am_W G (am_M G d) 129 K 796 (some (.ref a) :: lv) (.ref a :: st) h nc ns) := am_u e_129_795
theorem e_129_796 : pg_code 129 796 = some (.iload 4, 2, 0, 0) := by decide +kernel
theorem u_129_796 {a : Int32} {z0 : Option Value} {z1 : Option Value} {z2 : Option Value} {z3 : Option Value} {lv : am_L} {st : List Value} : am_W G (am_M G d) 129 K 796 (z0 :: z1 :: z2 :: z3 :: some (.int a) :: lv) st h nc ns = (am_W G (am_M G d) 129 K 798 (z0 :: z1 :: z2 :: z3 :: some (.int a) :: lv) (.int a :: st) h nc ns) := am_u e_129_796
theorem e_129_798 : pg_code 129 798 = some (.iconst 2, 1, 0, 0) := by decide +kernel
theorem u_129_798 {lv : am_L} {st : List Value} : am_W G (am_M G d) 129 K 798 lv st h nc ns = (am_W G (am_M G d) 129 K 799 lv (.int 2 :: st) h nc ns) := am_u e_129_798
theorem e_129_799 : pg_code 129 799 = some (.iadd, 1, 0, 0) := by decide +kernel
theorem u_129_799 {a b : Int32} {lv : am_L} {st : List Value} : am_W G (am_M G d) 129 K 799 lv (.int b :: .int a :: st) h nc ns = (am_W G (am_M G d) 129 K 800 lv (.int (a + b) :: st) h nc ns) := am_u e_129_799
theorem e_129_800 : pg_code 129 800 = some (.iaload, 1, 1, 0) := by decide +kernel
theorem u_129_800 {a : Nat} {j : Int32} {lv : am_L} {st : List Value} : am_W G (am_M G d) 129 K 800 lv (.int j :: .ref a :: st) h nc ns = ((a = G.1 ∧ vp_in j G.2.1) ∧ am_W G (am_M G d) 129 K 801 lv (.int (G.2.2 j.toNatClampNeg) :: st) h nc ns) := am_u e_129_800
theorem e_129_801 : pg_code 129 801 = some (.invokevirtual 120, 3, 112, 3) := by decide +kernel
theorem u_129_801 {a : Nat} {v0 v1 : Value} {lv : am_L} {st : List Value} : am_W G (am_M G d) 129 K 801 lv (v1 :: v0 :: .ref a :: st) h nc ns = ((am_words st ≤ 8 ∧ nc + 0 ≤ 601024 ∧ ns + 0 ≤ 7293034 ∧ f_rc (h a) 7) ∧ am_M G d 112 [.ref a, v0, v1] h (am_back 129 K (am_W G (am_M G d) 129 K) 112 801 lv st nc ns)) := (am_u e_129_801).trans (f_iv_eq (a := a) (G := G) (d := d) (k := 129) (K := K) (pc := 801) (lv := lv) (st := st) (h := h) (nc := nc) (ns := ns) (x := 112) (X := am_W G (am_M G d) 129 K) [v0, v1] (by decide) rfl)
theorem e_129_804 : pg_code 129 804 = some (.istore 6, 2, 0, 0) := by decide +kernel
theorem u_129_804 {a : Int32} {lv : am_L} {st : List Value} : am_W G (am_M G d) 129 K 804 lv (.int a :: st) h nc ns = (am_W G (am_M G d) 129 K 806 (am_st1 lv 6 (.int a)) st h nc ns) := (am_u e_129_804).trans (f_t (by decide +kernel))
theorem e_129_806 : pg_code 129 806 = some (.aload_n 2, 1, 0, 0) := by decide +kernel
theorem u_129_806 {a : Nat} {z0 : Option Value} {z1 : Option Value} {lv : am_L} {st : List Value} : am_W G (am_M G d) 129 K 806 (z0 :: z1 :: some (.ref a) :: lv) st h nc ns = (am_W G (am_M G d) 129 K 807 (z0 :: z1 :: some (.ref a) :: lv) (.ref a :: st) h nc ns) := am_u e_129_806
theorem e_129_807 : pg_code 129 807 = some (.invokevirtual 84, 3, 83, 1) := by decide +kernel
theorem u_129_807 {a : Nat} {lv : am_L} {st : List Value} : am_W G (am_M G d) 129 K 807 lv (.ref a :: st) h nc ns = ((am_words st ≤ 8 ∧ nc + 0 ≤ 601024 ∧ ns + 0 ≤ 7293034 ∧ f_rc (h a) 7) ∧ am_M G d 83 [.ref a] h (am_back 129 K (am_W G (am_M G d) 129 K) 83 807 lv st nc ns)) := (am_u e_129_807).trans (f_iv_eq (a := a) (G := G) (d := d) (k := 129) (K := K) (pc := 807) (lv := lv) (st := st) (h := h) (nc := nc) (ns := ns) (x := 83) (X := am_W G (am_M G d) 129 K) [] (by decide) rfl)
theorem e_129_810 : pg_code 129 810 = some (.iload 5, 2, 0, 0) := by decide +kernel
theorem u_129_810 {a : Int32} {z0 : Option Value} {z1 : Option Value} {z2 : Option Value} {z3 : Option Value} {z4 : Option Value} {lv : am_L} {st : List Value} : am_W G (am_M G d) 129 K 810 (z0 :: z1 :: z2 :: z3 :: z4 :: some (.int a) :: lv) st h nc ns = (am_W G (am_M G d) 129 K 812 (z0 :: z1 :: z2 :: z3 :: z4 :: some (.int a) :: lv) (.int a :: st) h nc ns) := am_u e_129_810
theorem e_129_812 : pg_code 129 812 = some (.if_icmp .eq 5, 3, 817, 0) := by decide +kernel
theorem u_129_812 {a b : Int32} {lv : am_L} {st : List Value} : am_W G (am_M G d) 129 K 812 lv (.int b :: .int a :: st) h nc ns = (am_br (a = b) (am_W G (am_M G d) 129 K 817 lv st h nc ns) (am_W G (am_M G d) 129 K 815 lv st h nc ns)) := am_u e_129_812
theorem e_129_815 : pg_code 129 815 = some (.iconst 0, 1, 0, 0) := by decide +kernel
theorem u_129_815 {lv : am_L} {st : List Value} : am_W G (am_M G d) 129 K 815 lv st h nc ns = (am_W G (am_M G d) 129 K 816 lv (.int 0 :: st) h nc ns) := am_u e_129_815
theorem e_129_816 : pg_code 129 816 = some (.ireturn, 1, 0, 0) := by decide +kernel
theorem u_129_816 {a : Int32} {lv : am_L} : am_W G (am_M G d) 129 K 816 lv [.int a] h nc ns = (narrow .boolean (.int a) = .int a ∧ K (.inl (some (.int a))) h) := (am_u e_129_816).trans (f_z_eq rfl)
theorem e_129_817 : pg_code 129 817 = some (.iload 5, 2, 0, 0) := by decide +kernel
theorem u_129_817 {a : Int32} {z0 : Option Value} {z1 : Option Value} {z2 : Option Value} {z3 : Option Value} {z4 : Option Value} {lv : am_L} {st : List Value} : am_W G (am_M G d) 129 K 817 (z0 :: z1 :: z2 :: z3 :: z4 :: some (.int a) :: lv) st h nc ns = (am_W G (am_M G d) 129 K 819 (z0 :: z1 :: z2 :: z3 :: z4 :: some (.int a) :: lv) (.int a :: st) h nc ns) := am_u e_129_817
theorem e_129_819 : pg_code 129 819 = some (.ifCond .ne 15, 3, 834, 0) := by decide +kernel
theorem u_129_819 {a : Int32} {lv : am_L} {st : List Value} : am_W G (am_M G d) 129 K 819 lv (.int a :: st) h nc ns = (am_br (¬ a = 0) (am_W G (am_M G d) 129 K 834 lv st h nc ns) (am_W G (am_M G d) 129 K 822 lv st h nc ns)) := am_u e_129_819
theorem e_129_822 : pg_code 129 822 = some (.aload_n 3, 1, 0, 0) := by decide +kernel
theorem u_129_822 {a : Nat} {z0 : Option Value} {z1 : Option Value} {z2 : Option Value} {lv : am_L} {st : List Value} : am_W G (am_M G d) 129 K 822 (z0 :: z1 :: z2 :: some (.ref a) :: lv) st h nc ns = (am_W G (am_M G d) 129 K 823 (z0 :: z1 :: z2 :: some (.ref a) :: lv) (.ref a :: st) h nc ns) := am_u e_129_822
theorem e_129_823 : pg_code 129 823 = some (.iconst 0, 1, 0, 0) := by decide +kernel
theorem u_129_823 {lv : am_L} {st : List Value} : am_W G (am_M G d) 129 K 823 lv st h nc ns = (am_W G (am_M G d) 129 K 824 lv (.int 0 :: st) h nc ns) := am_u e_129_823
theorem e_129_824 : pg_code 129 824 = some (.laload, 1, 0, 0) := by decide +kernel
theorem u_129_824 {a : Nat} {j : Int32} {lv : am_L} {st : List Value} : am_W G (am_M G d) 129 K 824 lv (.int j :: .ref a :: st) h nc ns = (f_la G d 129 K 825 lv st h nc ns (h a) j) := am_u e_129_824
theorem e_129_825 : pg_code 129 825 = some (.iload 6, 2, 0, 0) := by decide +kernel
theorem u_129_825 {a : Int32} {z0 : Option Value} {z1 : Option Value} {z2 : Option Value} {z3 : Option Value} {z4 : Option Value} {z5 : Option Value} {lv : am_L} {st : List Value} : am_W G (am_M G d) 129 K 825 (z0 :: z1 :: z2 :: z3 :: z4 :: z5 :: some (.int a) :: lv) st h nc ns = (am_W G (am_M G d) 129 K 827 (z0 :: z1 :: z2 :: z3 :: z4 :: z5 :: some (.int a) :: lv) (.int a :: st) h nc ns) := am_u e_129_825
theorem e_129_827 : pg_code 129 827 = some (.i2l, 1, 0, 0) := by decide +kernel
theorem u_129_827 {a : Int32} {lv : am_L} {st : List Value} : am_W G (am_M G d) 129 K 827 lv (.int a :: st) h nc ns = (am_W G (am_M G d) 129 K 828 lv (.long a.toInt64 :: st) h nc ns) := am_u e_129_827
theorem e_129_828 : pg_code 129 828 = some (.lcmp, 1, 0, 0) := by decide +kernel
theorem u_129_828 {a b : Int64} {lv : am_L} {st : List Value} : am_W G (am_M G d) 129 K 828 lv (.long b :: .long a :: st) h nc ns = (am_W G (am_M G d) 129 K 829 lv (.int (lg_cmp a b) :: st) h nc ns) := am_u e_129_828
theorem e_129_829 : pg_code 129 829 = some (.ifCond .eq 5, 3, 834, 0) := by decide +kernel
theorem u_129_829 {a : Int32} {lv : am_L} {st : List Value} : am_W G (am_M G d) 129 K 829 lv (.int a :: st) h nc ns = (am_br (a = 0) (am_W G (am_M G d) 129 K 834 lv st h nc ns) (am_W G (am_M G d) 129 K 832 lv st h nc ns)) := am_u e_129_829
theorem e_129_832 : pg_code 129 832 = some (.iconst 0, 1, 0, 0) := by decide +kernel
theorem u_129_832 {lv : am_L} {st : List Value} : am_W G (am_M G d) 129 K 832 lv st h nc ns = (am_W G (am_M G d) 129 K 833 lv (.int 0 :: st) h nc ns) := am_u e_129_832
theorem e_129_833 : pg_code 129 833 = some (.ireturn, 1, 0, 0) := by decide +kernel
theorem u_129_833 {a : Int32} {lv : am_L} : am_W G (am_M G d) 129 K 833 lv [.int a] h nc ns = (narrow .boolean (.int a) = .int a ∧ K (.inl (some (.int a))) h) := (am_u e_129_833).trans (f_z_eq rfl)
theorem e_129_834 : pg_code 129 834 = some (.goto 445, 3, 1279, 0) := by decide +kernel
theorem u_129_834 {lv : am_L} {st : List Value} : am_W G (am_M G d) 129 K 834 lv st h nc ns = (am_W G (am_M G d) 129 K 1279 lv st h nc ns) := am_u e_129_834
theorem e_129_837 : pg_code 129 837 = some (.aload_n 1, 1, 0, 0) := by decide +kernel
theorem u_129_837 {a : Nat} {z0 : Option Value} {lv : am_L} {st : List Value} : am_W G (am_M G d) 129 K 837 (z0 :: some (.ref a) :: lv) st h nc ns = (am_W G (am_M G d) 129 K 838 (z0 :: some (.ref a) :: lv) (.ref a :: st) h nc ns) := am_u e_129_837
theorem e_129_838 : pg_code 129 838 = some (.aload_n 3, 1, 0, 0) := by decide +kernel
theorem u_129_838 {a : Nat} {z0 : Option Value} {z1 : Option Value} {z2 : Option Value} {lv : am_L} {st : List Value} : am_W G (am_M G d) 129 K 838 (z0 :: z1 :: z2 :: some (.ref a) :: lv) st h nc ns = (am_W G (am_M G d) 129 K 839 (z0 :: z1 :: z2 :: some (.ref a) :: lv) (.ref a :: st) h nc ns) := am_u e_129_838
theorem e_129_839 : pg_code 129 839 = some (.invokestatic 121, 3, 61, 2) := by decide +kernel
theorem u_129_839 {v0 v1 : Value} {lv : am_L} {st : List Value} : am_W G (am_M G d) 129 K 839 lv (v1 :: v0 :: st) h nc ns = ((am_words st ≤ 8 ∧ nc + 1 ≤ 601024 ∧ ns + 6 ≤ 7293034) ∧ am_M G d 61 [v0, v1] h (am_back 129 K (am_W G (am_M G d) 129 K) 61 839 lv st nc ns)) := (am_u e_129_839).trans (f_st_eq (G := G) (d := d) (k := 129) (K := K) (pc := 839) (lv := lv) (st := st) (h := h) (nc := nc) (ns := ns) (x := 61) (X := am_W G (am_M G d) 129 K) [v0, v1] (by decide) rfl)
theorem e_129_842 : pg_code 129 842 = some (.istore 5, 2, 0, 0) := by decide +kernel
theorem u_129_842 {a : Int32} {lv : am_L} {st : List Value} : am_W G (am_M G d) 129 K 842 lv (.int a :: st) h nc ns = (am_W G (am_M G d) 129 K 844 (am_st1 lv 5 (.int a)) st h nc ns) := (am_u e_129_842).trans (f_t (by decide +kernel))
theorem e_129_844 : pg_code 129 844 = some (.aload_n 2, 1, 0, 0) := by decide +kernel
theorem u_129_844 {a : Nat} {z0 : Option Value} {z1 : Option Value} {lv : am_L} {st : List Value} : am_W G (am_M G d) 129 K 844 (z0 :: z1 :: some (.ref a) :: lv) st h nc ns = (am_W G (am_M G d) 129 K 845 (z0 :: z1 :: some (.ref a) :: lv) (.ref a :: st) h nc ns) := am_u e_129_844
theorem e_129_845 : pg_code 129 845 = some (.invokevirtual 124, 3, 113, 1) := by decide +kernel
theorem u_129_845 {a : Nat} {lv : am_L} {st : List Value} : am_W G (am_M G d) 129 K 845 lv (.ref a :: st) h nc ns = ((am_words st ≤ 8 ∧ nc + 0 ≤ 601024 ∧ ns + 0 ≤ 7293034 ∧ f_rc (h a) 7) ∧ am_M G d 113 [.ref a] h (am_back 129 K (am_W G (am_M G d) 129 K) 113 845 lv st nc ns)) := (am_u e_129_845).trans (f_iv_eq (a := a) (G := G) (d := d) (k := 129) (K := K) (pc := 845) (lv := lv) (st := st) (h := h) (nc := nc) (ns := ns) (x := 113) (X := am_W G (am_M G d) 129 K) [] (by decide) rfl)
theorem e_129_848 : pg_code 129 848 = some (.istore 6, 2, 0, 0) := by decide +kernel
theorem u_129_848 {a : Int32} {lv : am_L} {st : List Value} : am_W G (am_M G d) 129 K 848 lv (.int a :: st) h nc ns = (am_W G (am_M G d) 129 K 850 (am_st1 lv 6 (.int a)) st h nc ns) := (am_u e_129_848).trans (f_t (by decide +kernel))
theorem e_129_850 : pg_code 129 850 = some (.aload_n 2, 1, 0, 0) := by decide +kernel
theorem u_129_850 {a : Nat} {z0 : Option Value} {z1 : Option Value} {lv : am_L} {st : List Value} : am_W G (am_M G d) 129 K 850 (z0 :: z1 :: some (.ref a) :: lv) st h nc ns = (am_W G (am_M G d) 129 K 851 (z0 :: z1 :: some (.ref a) :: lv) (.ref a :: st) h nc ns) := am_u e_129_850
theorem e_129_851 : pg_code 129 851 = some (.invokevirtual 84, 3, 83, 1) := by decide +kernel
theorem u_129_851 {a : Nat} {lv : am_L} {st : List Value} : am_W G (am_M G d) 129 K 851 lv (.ref a :: st) h nc ns = ((am_words st ≤ 8 ∧ nc + 0 ≤ 601024 ∧ ns + 0 ≤ 7293034 ∧ f_rc (h a) 7) ∧ am_M G d 83 [.ref a] h (am_back 129 K (am_W G (am_M G d) 129 K) 83 851 lv st nc ns)) := (am_u e_129_851).trans (f_iv_eq (a := a) (G := G) (d := d) (k := 129) (K := K) (pc := 851) (lv := lv) (st := st) (h := h) (nc := nc) (ns := ns) (x := 83) (X := am_W G (am_M G d) 129 K) [] (by decide) rfl)
theorem e_129_854 : pg_code 129 854 = some (.iload 5, 2, 0, 0) := by decide +kernel
theorem u_129_854 {a : Int32} {z0 : Option Value} {z1 : Option Value} {z2 : Option Value} {z3 : Option Value} {z4 : Option Value} {lv : am_L} {st : List Value} : am_W G (am_M G d) 129 K 854 (z0 :: z1 :: z2 :: z3 :: z4 :: some (.int a) :: lv) st h nc ns = (am_W G (am_M G d) 129 K 856 (z0 :: z1 :: z2 :: z3 :: z4 :: some (.int a) :: lv) (.int a :: st) h nc ns) := am_u e_129_854
theorem e_129_856 : pg_code 129 856 = some (.if_icmp .eq 5, 3, 861, 0) := by decide +kernel
theorem u_129_856 {a b : Int32} {lv : am_L} {st : List Value} : am_W G (am_M G d) 129 K 856 lv (.int b :: .int a :: st) h nc ns = (am_br (a = b) (am_W G (am_M G d) 129 K 861 lv st h nc ns) (am_W G (am_M G d) 129 K 859 lv st h nc ns)) := am_u e_129_856
theorem e_129_859 : pg_code 129 859 = some (.iconst 0, 1, 0, 0) := by decide +kernel
theorem u_129_859 {lv : am_L} {st : List Value} : am_W G (am_M G d) 129 K 859 lv st h nc ns = (am_W G (am_M G d) 129 K 860 lv (.int 0 :: st) h nc ns) := am_u e_129_859
theorem e_129_860 : pg_code 129 860 = some (.ireturn, 1, 0, 0) := by decide +kernel
theorem u_129_860 {a : Int32} {lv : am_L} : am_W G (am_M G d) 129 K 860 lv [.int a] h nc ns = (narrow .boolean (.int a) = .int a ∧ K (.inl (some (.int a))) h) := (am_u e_129_860).trans (f_z_eq rfl)
theorem e_129_861 : pg_code 129 861 = some (.iload 5, 2, 0, 0) := by decide +kernel
theorem u_129_861 {a : Int32} {z0 : Option Value} {z1 : Option Value} {z2 : Option Value} {z3 : Option Value} {z4 : Option Value} {lv : am_L} {st : List Value} : am_W G (am_M G d) 129 K 861 (z0 :: z1 :: z2 :: z3 :: z4 :: some (.int a) :: lv) st h nc ns = (am_W G (am_M G d) 129 K 863 (z0 :: z1 :: z2 :: z3 :: z4 :: some (.int a) :: lv) (.int a :: st) h nc ns) := am_u e_129_861
theorem e_129_863 : pg_code 129 863 = some (.ifCond .ne 15, 3, 878, 0) := by decide +kernel
theorem u_129_863 {a : Int32} {lv : am_L} {st : List Value} : am_W G (am_M G d) 129 K 863 lv (.int a :: st) h nc ns = (am_br (¬ a = 0) (am_W G (am_M G d) 129 K 878 lv st h nc ns) (am_W G (am_M G d) 129 K 866 lv st h nc ns)) := am_u e_129_863
theorem e_129_866 : pg_code 129 866 = some (.aload_n 3, 1, 0, 0) := by decide +kernel
theorem u_129_866 {a : Nat} {z0 : Option Value} {z1 : Option Value} {z2 : Option Value} {lv : am_L} {st : List Value} : am_W G (am_M G d) 129 K 866 (z0 :: z1 :: z2 :: some (.ref a) :: lv) st h nc ns = (am_W G (am_M G d) 129 K 867 (z0 :: z1 :: z2 :: some (.ref a) :: lv) (.ref a :: st) h nc ns) := am_u e_129_866
theorem e_129_867 : pg_code 129 867 = some (.iconst 0, 1, 0, 0) := by decide +kernel
theorem u_129_867 {lv : am_L} {st : List Value} : am_W G (am_M G d) 129 K 867 lv st h nc ns = (am_W G (am_M G d) 129 K 868 lv (.int 0 :: st) h nc ns) := am_u e_129_867
theorem e_129_868 : pg_code 129 868 = some (.laload, 1, 0, 0) := by decide +kernel
theorem u_129_868 {a : Nat} {j : Int32} {lv : am_L} {st : List Value} : am_W G (am_M G d) 129 K 868 lv (.int j :: .ref a :: st) h nc ns = (f_la G d 129 K 869 lv st h nc ns (h a) j) := am_u e_129_868
theorem e_129_869 : pg_code 129 869 = some (.iload 6, 2, 0, 0) := by decide +kernel
theorem u_129_869 {a : Int32} {z0 : Option Value} {z1 : Option Value} {z2 : Option Value} {z3 : Option Value} {z4 : Option Value} {z5 : Option Value} {lv : am_L} {st : List Value} : am_W G (am_M G d) 129 K 869 (z0 :: z1 :: z2 :: z3 :: z4 :: z5 :: some (.int a) :: lv) st h nc ns = (am_W G (am_M G d) 129 K 871 (z0 :: z1 :: z2 :: z3 :: z4 :: z5 :: some (.int a) :: lv) (.int a :: st) h nc ns) := am_u e_129_869
theorem e_129_871 : pg_code 129 871 = some (.i2l, 1, 0, 0) := by decide +kernel
theorem u_129_871 {a : Int32} {lv : am_L} {st : List Value} : am_W G (am_M G d) 129 K 871 lv (.int a :: st) h nc ns = (am_W G (am_M G d) 129 K 872 lv (.long a.toInt64 :: st) h nc ns) := am_u e_129_871
theorem e_129_872 : pg_code 129 872 = some (.lcmp, 1, 0, 0) := by decide +kernel
theorem u_129_872 {a b : Int64} {lv : am_L} {st : List Value} : am_W G (am_M G d) 129 K 872 lv (.long b :: .long a :: st) h nc ns = (am_W G (am_M G d) 129 K 873 lv (.int (lg_cmp a b) :: st) h nc ns) := am_u e_129_872
theorem e_129_873 : pg_code 129 873 = some (.ifCond .eq 5, 3, 878, 0) := by decide +kernel
theorem u_129_873 {a : Int32} {lv : am_L} {st : List Value} : am_W G (am_M G d) 129 K 873 lv (.int a :: st) h nc ns = (am_br (a = 0) (am_W G (am_M G d) 129 K 878 lv st h nc ns) (am_W G (am_M G d) 129 K 876 lv st h nc ns)) := am_u e_129_873
theorem e_129_876 : pg_code 129 876 = some (.iconst 0, 1, 0, 0) := by decide +kernel
theorem u_129_876 {lv : am_L} {st : List Value} : am_W G (am_M G d) 129 K 876 lv st h nc ns = (am_W G (am_M G d) 129 K 877 lv (.int 0 :: st) h nc ns) := am_u e_129_876
theorem e_129_877 : pg_code 129 877 = some (.ireturn, 1, 0, 0) := by decide +kernel
theorem u_129_877 {a : Int32} {lv : am_L} : am_W G (am_M G d) 129 K 877 lv [.int a] h nc ns = (narrow .boolean (.int a) = .int a ∧ K (.inl (some (.int a))) h) := (am_u e_129_877).trans (f_z_eq rfl)
theorem e_129_878 : pg_code 129 878 = some (.goto 401, 3, 1279, 0) := by decide +kernel
theorem u_129_878 {lv : am_L} {st : List Value} : am_W G (am_M G d) 129 K 878 lv st h nc ns = (am_W G (am_M G d) 129 K 1279 lv st h nc ns) := am_u e_129_878
theorem e_129_881 : pg_code 129 881 = some (.aload_n 1, 1, 0, 0) := by decide +kernel
theorem u_129_881 {a : Nat} {z0 : Option Value} {lv : am_L} {st : List Value} : am_W G (am_M G d) 129 K 881 (z0 :: some (.ref a) :: lv) st h nc ns = (am_W G (am_M G d) 129 K 882 (z0 :: some (.ref a) :: lv) (.ref a :: st) h nc ns) := am_u e_129_881
theorem e_129_882 : pg_code 129 882 = some (.aload_n 0, 1, 0, 0) := by decide +kernel
theorem u_129_882 {a : Nat} {lv : am_L} {st : List Value} : am_W G (am_M G d) 129 K 882 (some (.ref a) :: lv) st h nc ns = (am_W G (am_M G d) 129 K 883 (some (.ref a) :: lv) (.ref a :: st) h nc ns) := am_u e_129_882
theorem e_129_883 : pg_code 129 883 = some (.iload 4, 2, 0, 0) := by decide +kernel
theorem u_129_883 {a : Int32} {z0 : Option Value} {z1 : Option Value} {z2 : Option Value} {z3 : Option Value} {lv : am_L} {st : List Value} : am_W G (am_M G d) 129 K 883 (z0 :: z1 :: z2 :: z3 :: some (.int a) :: lv) st h nc ns = (am_W G (am_M G d) 129 K 885 (z0 :: z1 :: z2 :: z3 :: some (.int a) :: lv) (.int a :: st) h nc ns) := am_u e_129_883
theorem e_129_885 : pg_code 129 885 = some (.iconst 1, 1, 0, 0) := by decide +kernel
theorem u_129_885 {lv : am_L} {st : List Value} : am_W G (am_M G d) 129 K 885 lv st h nc ns = (am_W G (am_M G d) 129 K 886 lv (.int 1 :: st) h nc ns) := am_u e_129_885
theorem e_129_886 : pg_code 129 886 = some (.iadd, 1, 0, 0) := by decide +kernel
theorem u_129_886 {a b : Int32} {lv : am_L} {st : List Value} : am_W G (am_M G d) 129 K 886 lv (.int b :: .int a :: st) h nc ns = (am_W G (am_M G d) 129 K 887 lv (.int (a + b) :: st) h nc ns) := am_u e_129_886
theorem e_129_887 : pg_code 129 887 = some (.iaload, 1, 1, 0) := by decide +kernel
theorem u_129_887 {a : Nat} {j : Int32} {lv : am_L} {st : List Value} : am_W G (am_M G d) 129 K 887 lv (.int j :: .ref a :: st) h nc ns = ((a = G.1 ∧ vp_in j G.2.1) ∧ am_W G (am_M G d) 129 K 888 lv (.int (G.2.2 j.toNatClampNeg) :: st) h nc ns) := am_u e_129_887
theorem e_129_888 : pg_code 129 888 = some (.aload_n 0, 1, 0, 0) := by decide +kernel
theorem u_129_888 {a : Nat} {lv : am_L} {st : List Value} : am_W G (am_M G d) 129 K 888 (some (.ref a) :: lv) st h nc ns = (am_W G (am_M G d) 129 K 889 (some (.ref a) :: lv) (.ref a :: st) h nc ns) := am_u e_129_888
theorem e_129_889 : pg_code 129 889 = some (.iload 4, 2, 0, 0) := by decide +kernel
theorem u_129_889 {a : Int32} {z0 : Option Value} {z1 : Option Value} {z2 : Option Value} {z3 : Option Value} {lv : am_L} {st : List Value} : am_W G (am_M G d) 129 K 889 (z0 :: z1 :: z2 :: z3 :: some (.int a) :: lv) st h nc ns = (am_W G (am_M G d) 129 K 891 (z0 :: z1 :: z2 :: z3 :: some (.int a) :: lv) (.int a :: st) h nc ns) := am_u e_129_889
theorem e_129_891 : pg_code 129 891 = some (.iconst 2, 1, 0, 0) := by decide +kernel
theorem u_129_891 {lv : am_L} {st : List Value} : am_W G (am_M G d) 129 K 891 lv st h nc ns = (am_W G (am_M G d) 129 K 892 lv (.int 2 :: st) h nc ns) := am_u e_129_891
theorem e_129_892 : pg_code 129 892 = some (.iadd, 1, 0, 0) := by decide +kernel
theorem u_129_892 {a b : Int32} {lv : am_L} {st : List Value} : am_W G (am_M G d) 129 K 892 lv (.int b :: .int a :: st) h nc ns = (am_W G (am_M G d) 129 K 893 lv (.int (a + b) :: st) h nc ns) := am_u e_129_892
theorem e_129_893 : pg_code 129 893 = some (.iaload, 1, 1, 0) := by decide +kernel
theorem u_129_893 {a : Nat} {j : Int32} {lv : am_L} {st : List Value} : am_W G (am_M G d) 129 K 893 lv (.int j :: .ref a :: st) h nc ns = ((a = G.1 ∧ vp_in j G.2.1) ∧ am_W G (am_M G d) 129 K 894 lv (.int (G.2.2 j.toNatClampNeg) :: st) h nc ns) := am_u e_129_893
theorem e_129_894 : pg_code 129 894 = some (.aload_n 0, 1, 0, 0) := by decide +kernel
theorem u_129_894 {a : Nat} {lv : am_L} {st : List Value} : am_W G (am_M G d) 129 K 894 (some (.ref a) :: lv) st h nc ns = (am_W G (am_M G d) 129 K 895 (some (.ref a) :: lv) (.ref a :: st) h nc ns) := am_u e_129_894
theorem e_129_895 : pg_code 129 895 = some (.iload 4, 2, 0, 0) := by decide +kernel
theorem u_129_895 {a : Int32} {z0 : Option Value} {z1 : Option Value} {z2 : Option Value} {z3 : Option Value} {lv : am_L} {st : List Value} : am_W G (am_M G d) 129 K 895 (z0 :: z1 :: z2 :: z3 :: some (.int a) :: lv) st h nc ns = (am_W G (am_M G d) 129 K 897 (z0 :: z1 :: z2 :: z3 :: some (.int a) :: lv) (.int a :: st) h nc ns) := am_u e_129_895
theorem e_129_897 : pg_code 129 897 = some (.iconst 3, 1, 0, 0) := by decide +kernel
theorem u_129_897 {lv : am_L} {st : List Value} : am_W G (am_M G d) 129 K 897 lv st h nc ns = (am_W G (am_M G d) 129 K 898 lv (.int 3 :: st) h nc ns) := am_u e_129_897
theorem e_129_898 : pg_code 129 898 = some (.iadd, 1, 0, 0) := by decide +kernel
theorem u_129_898 {a b : Int32} {lv : am_L} {st : List Value} : am_W G (am_M G d) 129 K 898 lv (.int b :: .int a :: st) h nc ns = (am_W G (am_M G d) 129 K 899 lv (.int (a + b) :: st) h nc ns) := am_u e_129_898
theorem e_129_899 : pg_code 129 899 = some (.iaload, 1, 1, 0) := by decide +kernel
theorem u_129_899 {a : Nat} {j : Int32} {lv : am_L} {st : List Value} : am_W G (am_M G d) 129 K 899 lv (.int j :: .ref a :: st) h nc ns = ((a = G.1 ∧ vp_in j G.2.1) ∧ am_W G (am_M G d) 129 K 900 lv (.int (G.2.2 j.toNatClampNeg) :: st) h nc ns) := am_u e_129_899
theorem e_129_900 : pg_code 129 900 = some (.aload_n 0, 1, 0, 0) := by decide +kernel
theorem u_129_900 {a : Nat} {lv : am_L} {st : List Value} : am_W G (am_M G d) 129 K 900 (some (.ref a) :: lv) st h nc ns = (am_W G (am_M G d) 129 K 901 (some (.ref a) :: lv) (.ref a :: st) h nc ns) := am_u e_129_900
theorem e_129_901 : pg_code 129 901 = some (.iload 4, 2, 0, 0) := by decide +kernel
theorem u_129_901 {a : Int32} {z0 : Option Value} {z1 : Option Value} {z2 : Option Value} {z3 : Option Value} {lv : am_L} {st : List Value} : am_W G (am_M G d) 129 K 901 (z0 :: z1 :: z2 :: z3 :: some (.int a) :: lv) st h nc ns = (am_W G (am_M G d) 129 K 903 (z0 :: z1 :: z2 :: z3 :: some (.int a) :: lv) (.int a :: st) h nc ns) := am_u e_129_901
theorem e_129_903 : pg_code 129 903 = some (.iconst 4, 1, 0, 0) := by decide +kernel
theorem u_129_903 {lv : am_L} {st : List Value} : am_W G (am_M G d) 129 K 903 lv st h nc ns = (am_W G (am_M G d) 129 K 904 lv (.int 4 :: st) h nc ns) := am_u e_129_903
theorem e_129_904 : pg_code 129 904 = some (.iadd, 1, 0, 0) := by decide +kernel
theorem u_129_904 {a b : Int32} {lv : am_L} {st : List Value} : am_W G (am_M G d) 129 K 904 lv (.int b :: .int a :: st) h nc ns = (am_W G (am_M G d) 129 K 905 lv (.int (a + b) :: st) h nc ns) := am_u e_129_904
theorem e_129_905 : pg_code 129 905 = some (.iaload, 1, 1, 0) := by decide +kernel
theorem u_129_905 {a : Nat} {j : Int32} {lv : am_L} {st : List Value} : am_W G (am_M G d) 129 K 905 lv (.int j :: .ref a :: st) h nc ns = ((a = G.1 ∧ vp_in j G.2.1) ∧ am_W G (am_M G d) 129 K 906 lv (.int (G.2.2 j.toNatClampNeg) :: st) h nc ns) := am_u e_129_905
theorem e_129_906 : pg_code 129 906 = some (.aload_n 0, 1, 0, 0) := by decide +kernel
theorem u_129_906 {a : Nat} {lv : am_L} {st : List Value} : am_W G (am_M G d) 129 K 906 (some (.ref a) :: lv) st h nc ns = (am_W G (am_M G d) 129 K 907 (some (.ref a) :: lv) (.ref a :: st) h nc ns) := am_u e_129_906
theorem e_129_907 : pg_code 129 907 = some (.iload 4, 2, 0, 0) := by decide +kernel
theorem u_129_907 {a : Int32} {z0 : Option Value} {z1 : Option Value} {z2 : Option Value} {z3 : Option Value} {lv : am_L} {st : List Value} : am_W G (am_M G d) 129 K 907 (z0 :: z1 :: z2 :: z3 :: some (.int a) :: lv) st h nc ns = (am_W G (am_M G d) 129 K 909 (z0 :: z1 :: z2 :: z3 :: some (.int a) :: lv) (.int a :: st) h nc ns) := am_u e_129_907
theorem e_129_909 : pg_code 129 909 = some (.iconst 5, 1, 0, 0) := by decide +kernel
theorem u_129_909 {lv : am_L} {st : List Value} : am_W G (am_M G d) 129 K 909 lv st h nc ns = (am_W G (am_M G d) 129 K 910 lv (.int 5 :: st) h nc ns) := am_u e_129_909
theorem e_129_910 : pg_code 129 910 = some (.iadd, 1, 0, 0) := by decide +kernel
theorem u_129_910 {a b : Int32} {lv : am_L} {st : List Value} : am_W G (am_M G d) 129 K 910 lv (.int b :: .int a :: st) h nc ns = (am_W G (am_M G d) 129 K 911 lv (.int (a + b) :: st) h nc ns) := am_u e_129_910
theorem e_129_911 : pg_code 129 911 = some (.iaload, 1, 1, 0) := by decide +kernel
theorem u_129_911 {a : Nat} {j : Int32} {lv : am_L} {st : List Value} : am_W G (am_M G d) 129 K 911 lv (.int j :: .ref a :: st) h nc ns = ((a = G.1 ∧ vp_in j G.2.1) ∧ am_W G (am_M G d) 129 K 912 lv (.int (G.2.2 j.toNatClampNeg) :: st) h nc ns) := am_u e_129_911
theorem e_129_912 : pg_code 129 912 = some (.aload_n 3, 1, 0, 0) := by decide +kernel
theorem u_129_912 {a : Nat} {z0 : Option Value} {z1 : Option Value} {z2 : Option Value} {lv : am_L} {st : List Value} : am_W G (am_M G d) 129 K 912 (z0 :: z1 :: z2 :: some (.ref a) :: lv) st h nc ns = (am_W G (am_M G d) 129 K 913 (z0 :: z1 :: z2 :: some (.ref a) :: lv) (.ref a :: st) h nc ns) := am_u e_129_912
theorem e_129_913 : pg_code 129 913 = some (.invokestatic 125, 3, 64, 7) := by decide +kernel
theorem u_129_913 {v0 v1 v2 v3 v4 v5 v6 : Value} {lv : am_L} {st : List Value} : am_W G (am_M G d) 129 K 913 lv (v6 :: v5 :: v4 :: v3 :: v2 :: v1 :: v0 :: st) h nc ns = ((am_words st ≤ 8 ∧ nc + 3 ≤ 601024 ∧ ns + 18 ≤ 7293034) ∧ am_M G d 64 [v0, v1, v2, v3, v4, v5, v6] h (am_back 129 K (am_W G (am_M G d) 129 K) 64 913 lv st nc ns)) := (am_u e_129_913).trans (f_st_eq (G := G) (d := d) (k := 129) (K := K) (pc := 913) (lv := lv) (st := st) (h := h) (nc := nc) (ns := ns) (x := 64) (X := am_W G (am_M G d) 129 K) [v0, v1, v2, v3, v4, v5, v6] (by decide) rfl)
theorem e_129_916 : pg_code 129 916 = some (.istore 5, 2, 0, 0) := by decide +kernel
theorem u_129_916 {a : Int32} {lv : am_L} {st : List Value} : am_W G (am_M G d) 129 K 916 lv (.int a :: st) h nc ns = (am_W G (am_M G d) 129 K 918 (am_st1 lv 5 (.int a)) st h nc ns) := (am_u e_129_916).trans (f_t (by decide +kernel))
theorem e_129_918 : pg_code 129 918 = some (.aload_n 2, 1, 0, 0) := by decide +kernel
theorem u_129_918 {a : Nat} {z0 : Option Value} {z1 : Option Value} {lv : am_L} {st : List Value} : am_W G (am_M G d) 129 K 918 (z0 :: z1 :: some (.ref a) :: lv) st h nc ns = (am_W G (am_M G d) 129 K 919 (z0 :: z1 :: some (.ref a) :: lv) (.ref a :: st) h nc ns) := am_u e_129_918
theorem e_129_919 : pg_code 129 919 = some (.aload_n 0, 1, 0, 0) := by decide +kernel
theorem u_129_919 {a : Nat} {lv : am_L} {st : List Value} : am_W G (am_M G d) 129 K 919 (some (.ref a) :: lv) st h nc ns = (am_W G (am_M G d) 129 K 920 (some (.ref a) :: lv) (.ref a :: st) h nc ns) := am_u e_129_919
theorem e_129_920 : pg_code 129 920 = some (.iload 4, 2, 0, 0) := by decide +kernel
theorem u_129_920 {a : Int32} {z0 : Option Value} {z1 : Option Value} {z2 : Option Value} {z3 : Option Value} {lv : am_L} {st : List Value} : am_W G (am_M G d) 129 K 920 (z0 :: z1 :: z2 :: z3 :: some (.int a) :: lv) st h nc ns = (am_W G (am_M G d) 129 K 922 (z0 :: z1 :: z2 :: z3 :: some (.int a) :: lv) (.int a :: st) h nc ns) := am_u e_129_920
theorem e_129_922 : pg_code 129 922 = some (.iconst 1, 1, 0, 0) := by decide +kernel
theorem u_129_922 {lv : am_L} {st : List Value} : am_W G (am_M G d) 129 K 922 lv st h nc ns = (am_W G (am_M G d) 129 K 923 lv (.int 1 :: st) h nc ns) := am_u e_129_922
theorem e_129_923 : pg_code 129 923 = some (.iadd, 1, 0, 0) := by decide +kernel
theorem u_129_923 {a b : Int32} {lv : am_L} {st : List Value} : am_W G (am_M G d) 129 K 923 lv (.int b :: .int a :: st) h nc ns = (am_W G (am_M G d) 129 K 924 lv (.int (a + b) :: st) h nc ns) := am_u e_129_923
theorem e_129_924 : pg_code 129 924 = some (.iaload, 1, 1, 0) := by decide +kernel
theorem u_129_924 {a : Nat} {j : Int32} {lv : am_L} {st : List Value} : am_W G (am_M G d) 129 K 924 lv (.int j :: .ref a :: st) h nc ns = ((a = G.1 ∧ vp_in j G.2.1) ∧ am_W G (am_M G d) 129 K 925 lv (.int (G.2.2 j.toNatClampNeg) :: st) h nc ns) := am_u e_129_924
theorem e_129_925 : pg_code 129 925 = some (.aload_n 0, 1, 0, 0) := by decide +kernel
theorem u_129_925 {a : Nat} {lv : am_L} {st : List Value} : am_W G (am_M G d) 129 K 925 (some (.ref a) :: lv) st h nc ns = (am_W G (am_M G d) 129 K 926 (some (.ref a) :: lv) (.ref a :: st) h nc ns) := am_u e_129_925
theorem e_129_926 : pg_code 129 926 = some (.iload 4, 2, 0, 0) := by decide +kernel
theorem u_129_926 {a : Int32} {z0 : Option Value} {z1 : Option Value} {z2 : Option Value} {z3 : Option Value} {lv : am_L} {st : List Value} : am_W G (am_M G d) 129 K 926 (z0 :: z1 :: z2 :: z3 :: some (.int a) :: lv) st h nc ns = (am_W G (am_M G d) 129 K 928 (z0 :: z1 :: z2 :: z3 :: some (.int a) :: lv) (.int a :: st) h nc ns) := am_u e_129_926
theorem e_129_928 : pg_code 129 928 = some (.iconst 2, 1, 0, 0) := by decide +kernel
theorem u_129_928 {lv : am_L} {st : List Value} : am_W G (am_M G d) 129 K 928 lv st h nc ns = (am_W G (am_M G d) 129 K 929 lv (.int 2 :: st) h nc ns) := am_u e_129_928
theorem e_129_929 : pg_code 129 929 = some (.iadd, 1, 0, 0) := by decide +kernel
theorem u_129_929 {a b : Int32} {lv : am_L} {st : List Value} : am_W G (am_M G d) 129 K 929 lv (.int b :: .int a :: st) h nc ns = (am_W G (am_M G d) 129 K 930 lv (.int (a + b) :: st) h nc ns) := am_u e_129_929
theorem e_129_930 : pg_code 129 930 = some (.iaload, 1, 1, 0) := by decide +kernel
theorem u_129_930 {a : Nat} {j : Int32} {lv : am_L} {st : List Value} : am_W G (am_M G d) 129 K 930 lv (.int j :: .ref a :: st) h nc ns = ((a = G.1 ∧ vp_in j G.2.1) ∧ am_W G (am_M G d) 129 K 931 lv (.int (G.2.2 j.toNatClampNeg) :: st) h nc ns) := am_u e_129_930
theorem e_129_931 : pg_code 129 931 = some (.aload_n 0, 1, 0, 0) := by decide +kernel
theorem u_129_931 {a : Nat} {lv : am_L} {st : List Value} : am_W G (am_M G d) 129 K 931 (some (.ref a) :: lv) st h nc ns = (am_W G (am_M G d) 129 K 932 (some (.ref a) :: lv) (.ref a :: st) h nc ns) := am_u e_129_931
theorem e_129_932 : pg_code 129 932 = some (.iload 4, 2, 0, 0) := by decide +kernel
theorem u_129_932 {a : Int32} {z0 : Option Value} {z1 : Option Value} {z2 : Option Value} {z3 : Option Value} {lv : am_L} {st : List Value} : am_W G (am_M G d) 129 K 932 (z0 :: z1 :: z2 :: z3 :: some (.int a) :: lv) st h nc ns = (am_W G (am_M G d) 129 K 934 (z0 :: z1 :: z2 :: z3 :: some (.int a) :: lv) (.int a :: st) h nc ns) := am_u e_129_932
theorem e_129_934 : pg_code 129 934 = some (.iconst 3, 1, 0, 0) := by decide +kernel
theorem u_129_934 {lv : am_L} {st : List Value} : am_W G (am_M G d) 129 K 934 lv st h nc ns = (am_W G (am_M G d) 129 K 935 lv (.int 3 :: st) h nc ns) := am_u e_129_934
theorem e_129_935 : pg_code 129 935 = some (.iadd, 1, 0, 0) := by decide +kernel
theorem u_129_935 {a b : Int32} {lv : am_L} {st : List Value} : am_W G (am_M G d) 129 K 935 lv (.int b :: .int a :: st) h nc ns = (am_W G (am_M G d) 129 K 936 lv (.int (a + b) :: st) h nc ns) := am_u e_129_935
theorem e_129_936 : pg_code 129 936 = some (.iaload, 1, 1, 0) := by decide +kernel
theorem u_129_936 {a : Nat} {j : Int32} {lv : am_L} {st : List Value} : am_W G (am_M G d) 129 K 936 lv (.int j :: .ref a :: st) h nc ns = ((a = G.1 ∧ vp_in j G.2.1) ∧ am_W G (am_M G d) 129 K 937 lv (.int (G.2.2 j.toNatClampNeg) :: st) h nc ns) := am_u e_129_936
theorem e_129_937 : pg_code 129 937 = some (.aload_n 0, 1, 0, 0) := by decide +kernel
theorem u_129_937 {a : Nat} {lv : am_L} {st : List Value} : am_W G (am_M G d) 129 K 937 (some (.ref a) :: lv) st h nc ns = (am_W G (am_M G d) 129 K 938 (some (.ref a) :: lv) (.ref a :: st) h nc ns) := am_u e_129_937
theorem e_129_938 : pg_code 129 938 = some (.iload 4, 2, 0, 0) := by decide +kernel
theorem u_129_938 {a : Int32} {z0 : Option Value} {z1 : Option Value} {z2 : Option Value} {z3 : Option Value} {lv : am_L} {st : List Value} : am_W G (am_M G d) 129 K 938 (z0 :: z1 :: z2 :: z3 :: some (.int a) :: lv) st h nc ns = (am_W G (am_M G d) 129 K 940 (z0 :: z1 :: z2 :: z3 :: some (.int a) :: lv) (.int a :: st) h nc ns) := am_u e_129_938
theorem e_129_940 : pg_code 129 940 = some (.iconst 4, 1, 0, 0) := by decide +kernel
theorem u_129_940 {lv : am_L} {st : List Value} : am_W G (am_M G d) 129 K 940 lv st h nc ns = (am_W G (am_M G d) 129 K 941 lv (.int 4 :: st) h nc ns) := am_u e_129_940
theorem e_129_941 : pg_code 129 941 = some (.iadd, 1, 0, 0) := by decide +kernel
theorem u_129_941 {a b : Int32} {lv : am_L} {st : List Value} : am_W G (am_M G d) 129 K 941 lv (.int b :: .int a :: st) h nc ns = (am_W G (am_M G d) 129 K 942 lv (.int (a + b) :: st) h nc ns) := am_u e_129_941
theorem e_129_942 : pg_code 129 942 = some (.iaload, 1, 1, 0) := by decide +kernel
theorem u_129_942 {a : Nat} {j : Int32} {lv : am_L} {st : List Value} : am_W G (am_M G d) 129 K 942 lv (.int j :: .ref a :: st) h nc ns = ((a = G.1 ∧ vp_in j G.2.1) ∧ am_W G (am_M G d) 129 K 943 lv (.int (G.2.2 j.toNatClampNeg) :: st) h nc ns) := am_u e_129_942
theorem e_129_943 : pg_code 129 943 = some (.aload_n 0, 1, 0, 0) := by decide +kernel
theorem u_129_943 {a : Nat} {lv : am_L} {st : List Value} : am_W G (am_M G d) 129 K 943 (some (.ref a) :: lv) st h nc ns = (am_W G (am_M G d) 129 K 944 (some (.ref a) :: lv) (.ref a :: st) h nc ns) := am_u e_129_943
theorem e_129_944 : pg_code 129 944 = some (.iload 4, 2, 0, 0) := by decide +kernel
theorem u_129_944 {a : Int32} {z0 : Option Value} {z1 : Option Value} {z2 : Option Value} {z3 : Option Value} {lv : am_L} {st : List Value} : am_W G (am_M G d) 129 K 944 (z0 :: z1 :: z2 :: z3 :: some (.int a) :: lv) st h nc ns = (am_W G (am_M G d) 129 K 946 (z0 :: z1 :: z2 :: z3 :: some (.int a) :: lv) (.int a :: st) h nc ns) := am_u e_129_944
theorem e_129_946 : pg_code 129 946 = some (.iconst 5, 1, 0, 0) := by decide +kernel
theorem u_129_946 {lv : am_L} {st : List Value} : am_W G (am_M G d) 129 K 946 lv st h nc ns = (am_W G (am_M G d) 129 K 947 lv (.int 5 :: st) h nc ns) := am_u e_129_946
theorem e_129_947 : pg_code 129 947 = some (.iadd, 1, 0, 0) := by decide +kernel
theorem u_129_947 {a b : Int32} {lv : am_L} {st : List Value} : am_W G (am_M G d) 129 K 947 lv (.int b :: .int a :: st) h nc ns = (am_W G (am_M G d) 129 K 948 lv (.int (a + b) :: st) h nc ns) := am_u e_129_947
theorem e_129_948 : pg_code 129 948 = some (.iaload, 1, 1, 0) := by decide +kernel
theorem u_129_948 {a : Nat} {j : Int32} {lv : am_L} {st : List Value} : am_W G (am_M G d) 129 K 948 lv (.int j :: .ref a :: st) h nc ns = ((a = G.1 ∧ vp_in j G.2.1) ∧ am_W G (am_M G d) 129 K 949 lv (.int (G.2.2 j.toNatClampNeg) :: st) h nc ns) := am_u e_129_948
theorem e_129_949 : pg_code 129 949 = some (.invokevirtual 128, 3, 115, 6) := by decide +kernel
theorem u_129_949 {a : Nat} {v0 v1 v2 v3 v4 : Value} {lv : am_L} {st : List Value} : am_W G (am_M G d) 129 K 949 lv (v4 :: v3 :: v2 :: v1 :: v0 :: .ref a :: st) h nc ns = ((am_words st ≤ 8 ∧ nc + 0 ≤ 601024 ∧ ns + 0 ≤ 7293034 ∧ f_rc (h a) 7) ∧ am_M G d 115 [.ref a, v0, v1, v2, v3, v4] h (am_back 129 K (am_W G (am_M G d) 129 K) 115 949 lv st nc ns)) := (am_u e_129_949).trans (f_iv_eq (a := a) (G := G) (d := d) (k := 129) (K := K) (pc := 949) (lv := lv) (st := st) (h := h) (nc := nc) (ns := ns) (x := 115) (X := am_W G (am_M G d) 129 K) [v0, v1, v2, v3, v4] (by decide) rfl)
theorem e_129_952 : pg_code 129 952 = some (.istore 6, 2, 0, 0) := by decide +kernel
theorem u_129_952 {a : Int32} {lv : am_L} {st : List Value} : am_W G (am_M G d) 129 K 952 lv (.int a :: st) h nc ns = (am_W G (am_M G d) 129 K 954 (am_st1 lv 6 (.int a)) st h nc ns) := (am_u e_129_952).trans (f_t (by decide +kernel))
theorem e_129_954 : pg_code 129 954 = some (.aload_n 2, 1, 0, 0) := by decide +kernel
theorem u_129_954 {a : Nat} {z0 : Option Value} {z1 : Option Value} {lv : am_L} {st : List Value} : am_W G (am_M G d) 129 K 954 (z0 :: z1 :: some (.ref a) :: lv) st h nc ns = (am_W G (am_M G d) 129 K 955 (z0 :: z1 :: some (.ref a) :: lv) (.ref a :: st) h nc ns) := am_u e_129_954
theorem e_129_955 : pg_code 129 955 = some (.invokevirtual 84, 3, 83, 1) := by decide +kernel
theorem u_129_955 {a : Nat} {lv : am_L} {st : List Value} : am_W G (am_M G d) 129 K 955 lv (.ref a :: st) h nc ns = ((am_words st ≤ 8 ∧ nc + 0 ≤ 601024 ∧ ns + 0 ≤ 7293034 ∧ f_rc (h a) 7) ∧ am_M G d 83 [.ref a] h (am_back 129 K (am_W G (am_M G d) 129 K) 83 955 lv st nc ns)) := (am_u e_129_955).trans (f_iv_eq (a := a) (G := G) (d := d) (k := 129) (K := K) (pc := 955) (lv := lv) (st := st) (h := h) (nc := nc) (ns := ns) (x := 83) (X := am_W G (am_M G d) 129 K) [] (by decide) rfl)
theorem e_129_958 : pg_code 129 958 = some (.iload 5, 2, 0, 0) := by decide +kernel
theorem u_129_958 {a : Int32} {z0 : Option Value} {z1 : Option Value} {z2 : Option Value} {z3 : Option Value} {z4 : Option Value} {lv : am_L} {st : List Value} : am_W G (am_M G d) 129 K 958 (z0 :: z1 :: z2 :: z3 :: z4 :: some (.int a) :: lv) st h nc ns = (am_W G (am_M G d) 129 K 960 (z0 :: z1 :: z2 :: z3 :: z4 :: some (.int a) :: lv) (.int a :: st) h nc ns) := am_u e_129_958
theorem e_129_960 : pg_code 129 960 = some (.if_icmp .eq 5, 3, 965, 0) := by decide +kernel
theorem u_129_960 {a b : Int32} {lv : am_L} {st : List Value} : am_W G (am_M G d) 129 K 960 lv (.int b :: .int a :: st) h nc ns = (am_br (a = b) (am_W G (am_M G d) 129 K 965 lv st h nc ns) (am_W G (am_M G d) 129 K 963 lv st h nc ns)) := am_u e_129_960
theorem e_129_963 : pg_code 129 963 = some (.iconst 0, 1, 0, 0) := by decide +kernel
theorem u_129_963 {lv : am_L} {st : List Value} : am_W G (am_M G d) 129 K 963 lv st h nc ns = (am_W G (am_M G d) 129 K 964 lv (.int 0 :: st) h nc ns) := am_u e_129_963
theorem e_129_964 : pg_code 129 964 = some (.ireturn, 1, 0, 0) := by decide +kernel
theorem u_129_964 {a : Int32} {lv : am_L} : am_W G (am_M G d) 129 K 964 lv [.int a] h nc ns = (narrow .boolean (.int a) = .int a ∧ K (.inl (some (.int a))) h) := (am_u e_129_964).trans (f_z_eq rfl)
theorem e_129_965 : pg_code 129 965 = some (.iload 5, 2, 0, 0) := by decide +kernel
theorem u_129_965 {a : Int32} {z0 : Option Value} {z1 : Option Value} {z2 : Option Value} {z3 : Option Value} {z4 : Option Value} {lv : am_L} {st : List Value} : am_W G (am_M G d) 129 K 965 (z0 :: z1 :: z2 :: z3 :: z4 :: some (.int a) :: lv) st h nc ns = (am_W G (am_M G d) 129 K 967 (z0 :: z1 :: z2 :: z3 :: z4 :: some (.int a) :: lv) (.int a :: st) h nc ns) := am_u e_129_965
theorem e_129_967 : pg_code 129 967 = some (.ifCond .ne 22, 3, 989, 0) := by decide +kernel
theorem u_129_967 {a : Int32} {lv : am_L} {st : List Value} : am_W G (am_M G d) 129 K 967 lv (.int a :: st) h nc ns = (am_br (¬ a = 0) (am_W G (am_M G d) 129 K 989 lv st h nc ns) (am_W G (am_M G d) 129 K 970 lv st h nc ns)) := am_u e_129_967
theorem e_129_970 : pg_code 129 970 = some (.aload_n 3, 1, 0, 0) := by decide +kernel
theorem u_129_970 {a : Nat} {z0 : Option Value} {z1 : Option Value} {z2 : Option Value} {lv : am_L} {st : List Value} : am_W G (am_M G d) 129 K 970 (z0 :: z1 :: z2 :: some (.ref a) :: lv) st h nc ns = (am_W G (am_M G d) 129 K 971 (z0 :: z1 :: z2 :: some (.ref a) :: lv) (.ref a :: st) h nc ns) := am_u e_129_970
theorem e_129_971 : pg_code 129 971 = some (.iconst 0, 1, 0, 0) := by decide +kernel
theorem u_129_971 {lv : am_L} {st : List Value} : am_W G (am_M G d) 129 K 971 lv st h nc ns = (am_W G (am_M G d) 129 K 972 lv (.int 0 :: st) h nc ns) := am_u e_129_971
theorem e_129_972 : pg_code 129 972 = some (.laload, 1, 0, 0) := by decide +kernel
theorem u_129_972 {a : Nat} {j : Int32} {lv : am_L} {st : List Value} : am_W G (am_M G d) 129 K 972 lv (.int j :: .ref a :: st) h nc ns = (f_la G d 129 K 973 lv st h nc ns (h a) j) := am_u e_129_972
theorem e_129_973 : pg_code 129 973 = some (.iload 6, 2, 0, 0) := by decide +kernel
theorem u_129_973 {a : Int32} {z0 : Option Value} {z1 : Option Value} {z2 : Option Value} {z3 : Option Value} {z4 : Option Value} {z5 : Option Value} {lv : am_L} {st : List Value} : am_W G (am_M G d) 129 K 973 (z0 :: z1 :: z2 :: z3 :: z4 :: z5 :: some (.int a) :: lv) st h nc ns = (am_W G (am_M G d) 129 K 975 (z0 :: z1 :: z2 :: z3 :: z4 :: z5 :: some (.int a) :: lv) (.int a :: st) h nc ns) := am_u e_129_973
theorem e_129_975 : pg_code 129 975 = some (.ifCond .eq 7, 3, 982, 0) := by decide +kernel
theorem u_129_975 {a : Int32} {lv : am_L} {st : List Value} : am_W G (am_M G d) 129 K 975 lv (.int a :: st) h nc ns = (am_br (a = 0) (am_W G (am_M G d) 129 K 982 lv st h nc ns) (am_W G (am_M G d) 129 K 978 lv st h nc ns)) := am_u e_129_975
theorem e_129_978 : pg_code 129 978 = some (.lconst 1, 1, 0, 0) := by decide +kernel
theorem u_129_978 {lv : am_L} {st : List Value} : am_W G (am_M G d) 129 K 978 lv st h nc ns = (am_W G (am_M G d) 129 K 979 lv (.long 1 :: st) h nc ns) := am_u e_129_978
theorem e_129_979 : pg_code 129 979 = some (.goto 4, 3, 983, 0) := by decide +kernel
theorem u_129_979 {lv : am_L} {st : List Value} : am_W G (am_M G d) 129 K 979 lv st h nc ns = (am_W G (am_M G d) 129 K 983 lv st h nc ns) := am_u e_129_979
theorem e_129_982 : pg_code 129 982 = some (.lconst 0, 1, 0, 0) := by decide +kernel
theorem u_129_982 {lv : am_L} {st : List Value} : am_W G (am_M G d) 129 K 982 lv st h nc ns = (am_W G (am_M G d) 129 K 983 lv (.long 0 :: st) h nc ns) := am_u e_129_982
theorem e_129_983 : pg_code 129 983 = some (.lcmp, 1, 0, 0) := by decide +kernel
theorem u_129_983 {a b : Int64} {lv : am_L} {st : List Value} : am_W G (am_M G d) 129 K 983 lv (.long b :: .long a :: st) h nc ns = (am_W G (am_M G d) 129 K 984 lv (.int (lg_cmp a b) :: st) h nc ns) := am_u e_129_983
theorem e_129_984 : pg_code 129 984 = some (.ifCond .eq 5, 3, 989, 0) := by decide +kernel
theorem u_129_984 {a : Int32} {lv : am_L} {st : List Value} : am_W G (am_M G d) 129 K 984 lv (.int a :: st) h nc ns = (am_br (a = 0) (am_W G (am_M G d) 129 K 989 lv st h nc ns) (am_W G (am_M G d) 129 K 987 lv st h nc ns)) := am_u e_129_984
theorem e_129_987 : pg_code 129 987 = some (.iconst 0, 1, 0, 0) := by decide +kernel
theorem u_129_987 {lv : am_L} {st : List Value} : am_W G (am_M G d) 129 K 987 lv st h nc ns = (am_W G (am_M G d) 129 K 988 lv (.int 0 :: st) h nc ns) := am_u e_129_987
theorem e_129_988 : pg_code 129 988 = some (.ireturn, 1, 0, 0) := by decide +kernel
theorem u_129_988 {a : Int32} {lv : am_L} : am_W G (am_M G d) 129 K 988 lv [.int a] h nc ns = (narrow .boolean (.int a) = .int a ∧ K (.inl (some (.int a))) h) := (am_u e_129_988).trans (f_z_eq rfl)
theorem e_129_989 : pg_code 129 989 = some (.goto 290, 3, 1279, 0) := by decide +kernel
theorem u_129_989 {lv : am_L} {st : List Value} : am_W G (am_M G d) 129 K 989 lv st h nc ns = (am_W G (am_M G d) 129 K 1279 lv st h nc ns) := am_u e_129_989
theorem e_129_992 : pg_code 129 992 = some (.aload_n 1, 1, 0, 0) := by decide +kernel
theorem u_129_992 {a : Nat} {z0 : Option Value} {lv : am_L} {st : List Value} : am_W G (am_M G d) 129 K 992 (z0 :: some (.ref a) :: lv) st h nc ns = (am_W G (am_M G d) 129 K 993 (z0 :: some (.ref a) :: lv) (.ref a :: st) h nc ns) := am_u e_129_992
theorem e_129_993 : pg_code 129 993 = some (.aload_n 0, 1, 0, 0) := by decide +kernel
theorem u_129_993 {a : Nat} {lv : am_L} {st : List Value} : am_W G (am_M G d) 129 K 993 (some (.ref a) :: lv) st h nc ns = (am_W G (am_M G d) 129 K 994 (some (.ref a) :: lv) (.ref a :: st) h nc ns) := am_u e_129_993
theorem e_129_994 : pg_code 129 994 = some (.iload 4, 2, 0, 0) := by decide +kernel
theorem u_129_994 {a : Int32} {z0 : Option Value} {z1 : Option Value} {z2 : Option Value} {z3 : Option Value} {lv : am_L} {st : List Value} : am_W G (am_M G d) 129 K 994 (z0 :: z1 :: z2 :: z3 :: some (.int a) :: lv) st h nc ns = (am_W G (am_M G d) 129 K 996 (z0 :: z1 :: z2 :: z3 :: some (.int a) :: lv) (.int a :: st) h nc ns) := am_u e_129_994
theorem e_129_996 : pg_code 129 996 = some (.iconst 1, 1, 0, 0) := by decide +kernel
theorem u_129_996 {lv : am_L} {st : List Value} : am_W G (am_M G d) 129 K 996 lv st h nc ns = (am_W G (am_M G d) 129 K 997 lv (.int 1 :: st) h nc ns) := am_u e_129_996
theorem e_129_997 : pg_code 129 997 = some (.iadd, 1, 0, 0) := by decide +kernel
theorem u_129_997 {a b : Int32} {lv : am_L} {st : List Value} : am_W G (am_M G d) 129 K 997 lv (.int b :: .int a :: st) h nc ns = (am_W G (am_M G d) 129 K 998 lv (.int (a + b) :: st) h nc ns) := am_u e_129_997
theorem e_129_998 : pg_code 129 998 = some (.iaload, 1, 1, 0) := by decide +kernel
theorem u_129_998 {a : Nat} {j : Int32} {lv : am_L} {st : List Value} : am_W G (am_M G d) 129 K 998 lv (.int j :: .ref a :: st) h nc ns = ((a = G.1 ∧ vp_in j G.2.1) ∧ am_W G (am_M G d) 129 K 999 lv (.int (G.2.2 j.toNatClampNeg) :: st) h nc ns) := am_u e_129_998
theorem e_129_999 : pg_code 129 999 = some (.aload_n 3, 1, 0, 0) := by decide +kernel
theorem u_129_999 {a : Nat} {z0 : Option Value} {z1 : Option Value} {z2 : Option Value} {lv : am_L} {st : List Value} : am_W G (am_M G d) 129 K 999 (z0 :: z1 :: z2 :: some (.ref a) :: lv) st h nc ns = (am_W G (am_M G d) 129 K 1000 (z0 :: z1 :: z2 :: some (.ref a) :: lv) (.ref a :: st) h nc ns) := am_u e_129_999
theorem e_129_1000 : pg_code 129 1000 = some (.invokestatic 129, 3, 67, 3) := by decide +kernel
theorem u_129_1000 {v0 v1 v2 : Value} {lv : am_L} {st : List Value} : am_W G (am_M G d) 129 K 1000 lv (v2 :: v1 :: v0 :: st) h nc ns = ((am_words st ≤ 8 ∧ nc + 1 ≤ 601024 ∧ ns + 6 ≤ 7293034) ∧ am_M G d 67 [v0, v1, v2] h (am_back 129 K (am_W G (am_M G d) 129 K) 67 1000 lv st nc ns)) := (am_u e_129_1000).trans (f_st_eq (G := G) (d := d) (k := 129) (K := K) (pc := 1000) (lv := lv) (st := st) (h := h) (nc := nc) (ns := ns) (x := 67) (X := am_W G (am_M G d) 129 K) [v0, v1, v2] (by decide) rfl)
theorem e_129_1003 : pg_code 129 1003 = some (.istore 5, 2, 0, 0) := by decide +kernel
theorem u_129_1003 {a : Int32} {lv : am_L} {st : List Value} : am_W G (am_M G d) 129 K 1003 lv (.int a :: st) h nc ns = (am_W G (am_M G d) 129 K 1005 (am_st1 lv 5 (.int a)) st h nc ns) := (am_u e_129_1003).trans (f_t (by decide +kernel))
theorem e_129_1005 : pg_code 129 1005 = some (.aload_n 2, 1, 0, 0) := by decide +kernel
theorem u_129_1005 {a : Nat} {z0 : Option Value} {z1 : Option Value} {lv : am_L} {st : List Value} : am_W G (am_M G d) 129 K 1005 (z0 :: z1 :: some (.ref a) :: lv) st h nc ns = (am_W G (am_M G d) 129 K 1006 (z0 :: z1 :: some (.ref a) :: lv) (.ref a :: st) h nc ns) := am_u e_129_1005
theorem e_129_1006 : pg_code 129 1006 = some (.aload_n 0, 1, 0, 0) := by decide +kernel
theorem u_129_1006 {a : Nat} {lv : am_L} {st : List Value} : am_W G (am_M G d) 129 K 1006 (some (.ref a) :: lv) st h nc ns = (am_W G (am_M G d) 129 K 1007 (some (.ref a) :: lv) (.ref a :: st) h nc ns) := am_u e_129_1006
theorem e_129_1007 : pg_code 129 1007 = some (.iload 4, 2, 0, 0) := by decide +kernel
theorem u_129_1007 {a : Int32} {z0 : Option Value} {z1 : Option Value} {z2 : Option Value} {z3 : Option Value} {lv : am_L} {st : List Value} : am_W G (am_M G d) 129 K 1007 (z0 :: z1 :: z2 :: z3 :: some (.int a) :: lv) st h nc ns = (am_W G (am_M G d) 129 K 1009 (z0 :: z1 :: z2 :: z3 :: some (.int a) :: lv) (.int a :: st) h nc ns) := am_u e_129_1007
theorem e_129_1009 : pg_code 129 1009 = some (.iconst 1, 1, 0, 0) := by decide +kernel
theorem u_129_1009 {lv : am_L} {st : List Value} : am_W G (am_M G d) 129 K 1009 lv st h nc ns = (am_W G (am_M G d) 129 K 1010 lv (.int 1 :: st) h nc ns) := am_u e_129_1009
theorem e_129_1010 : pg_code 129 1010 = some (.iadd, 1, 0, 0) := by decide +kernel
theorem u_129_1010 {a b : Int32} {lv : am_L} {st : List Value} : am_W G (am_M G d) 129 K 1010 lv (.int b :: .int a :: st) h nc ns = (am_W G (am_M G d) 129 K 1011 lv (.int (a + b) :: st) h nc ns) := am_u e_129_1010
theorem e_129_1011 : pg_code 129 1011 = some (.iaload, 1, 1, 0) := by decide +kernel
theorem u_129_1011 {a : Nat} {j : Int32} {lv : am_L} {st : List Value} : am_W G (am_M G d) 129 K 1011 lv (.int j :: .ref a :: st) h nc ns = ((a = G.1 ∧ vp_in j G.2.1) ∧ am_W G (am_M G d) 129 K 1012 lv (.int (G.2.2 j.toNatClampNeg) :: st) h nc ns) := am_u e_129_1011
theorem e_129_1012 : pg_code 129 1012 = some (.invokevirtual 131, 3, 116, 2) := by decide +kernel
theorem u_129_1012 {a : Nat} {v0 : Value} {lv : am_L} {st : List Value} : am_W G (am_M G d) 129 K 1012 lv (v0 :: .ref a :: st) h nc ns = ((am_words st ≤ 8 ∧ nc + 0 ≤ 601024 ∧ ns + 0 ≤ 7293034 ∧ f_rc (h a) 7) ∧ am_M G d 116 [.ref a, v0] h (am_back 129 K (am_W G (am_M G d) 129 K) 116 1012 lv st nc ns)) := (am_u e_129_1012).trans (f_iv_eq (a := a) (G := G) (d := d) (k := 129) (K := K) (pc := 1012) (lv := lv) (st := st) (h := h) (nc := nc) (ns := ns) (x := 116) (X := am_W G (am_M G d) 129 K) [v0] (by decide) rfl)
theorem e_129_1015 : pg_code 129 1015 = some (.istore 6, 2, 0, 0) := by decide +kernel
theorem u_129_1015 {a : Int32} {lv : am_L} {st : List Value} : am_W G (am_M G d) 129 K 1015 lv (.int a :: st) h nc ns = (am_W G (am_M G d) 129 K 1017 (am_st1 lv 6 (.int a)) st h nc ns) := (am_u e_129_1015).trans (f_t (by decide +kernel))
theorem e_129_1017 : pg_code 129 1017 = some (.aload_n 2, 1, 0, 0) := by decide +kernel
theorem u_129_1017 {a : Nat} {z0 : Option Value} {z1 : Option Value} {lv : am_L} {st : List Value} : am_W G (am_M G d) 129 K 1017 (z0 :: z1 :: some (.ref a) :: lv) st h nc ns = (am_W G (am_M G d) 129 K 1018 (z0 :: z1 :: some (.ref a) :: lv) (.ref a :: st) h nc ns) := am_u e_129_1017
theorem e_129_1018 : pg_code 129 1018 = some (.invokevirtual 84, 3, 83, 1) := by decide +kernel
theorem u_129_1018 {a : Nat} {lv : am_L} {st : List Value} : am_W G (am_M G d) 129 K 1018 lv (.ref a :: st) h nc ns = ((am_words st ≤ 8 ∧ nc + 0 ≤ 601024 ∧ ns + 0 ≤ 7293034 ∧ f_rc (h a) 7) ∧ am_M G d 83 [.ref a] h (am_back 129 K (am_W G (am_M G d) 129 K) 83 1018 lv st nc ns)) := (am_u e_129_1018).trans (f_iv_eq (a := a) (G := G) (d := d) (k := 129) (K := K) (pc := 1018) (lv := lv) (st := st) (h := h) (nc := nc) (ns := ns) (x := 83) (X := am_W G (am_M G d) 129 K) [] (by decide) rfl)
theorem e_129_1021 : pg_code 129 1021 = some (.iload 5, 2, 0, 0) := by decide +kernel
theorem u_129_1021 {a : Int32} {z0 : Option Value} {z1 : Option Value} {z2 : Option Value} {z3 : Option Value} {z4 : Option Value} {lv : am_L} {st : List Value} : am_W G (am_M G d) 129 K 1021 (z0 :: z1 :: z2 :: z3 :: z4 :: some (.int a) :: lv) st h nc ns = (am_W G (am_M G d) 129 K 1023 (z0 :: z1 :: z2 :: z3 :: z4 :: some (.int a) :: lv) (.int a :: st) h nc ns) := am_u e_129_1021
theorem e_129_1023 : pg_code 129 1023 = some (.if_icmp .eq 5, 3, 1028, 0) := by decide +kernel
theorem u_129_1023 {a b : Int32} {lv : am_L} {st : List Value} : am_W G (am_M G d) 129 K 1023 lv (.int b :: .int a :: st) h nc ns = (am_br (a = b) (am_W G (am_M G d) 129 K 1028 lv st h nc ns) (am_W G (am_M G d) 129 K 1026 lv st h nc ns)) := am_u e_129_1023
theorem e_129_1026 : pg_code 129 1026 = some (.iconst 0, 1, 0, 0) := by decide +kernel
theorem u_129_1026 {lv : am_L} {st : List Value} : am_W G (am_M G d) 129 K 1026 lv st h nc ns = (am_W G (am_M G d) 129 K 1027 lv (.int 0 :: st) h nc ns) := am_u e_129_1026
theorem e_129_1027 : pg_code 129 1027 = some (.ireturn, 1, 0, 0) := by decide +kernel
theorem u_129_1027 {a : Int32} {lv : am_L} : am_W G (am_M G d) 129 K 1027 lv [.int a] h nc ns = (narrow .boolean (.int a) = .int a ∧ K (.inl (some (.int a))) h) := (am_u e_129_1027).trans (f_z_eq rfl)
theorem e_129_1028 : pg_code 129 1028 = some (.iload 5, 2, 0, 0) := by decide +kernel
theorem u_129_1028 {a : Int32} {z0 : Option Value} {z1 : Option Value} {z2 : Option Value} {z3 : Option Value} {z4 : Option Value} {lv : am_L} {st : List Value} : am_W G (am_M G d) 129 K 1028 (z0 :: z1 :: z2 :: z3 :: z4 :: some (.int a) :: lv) st h nc ns = (am_W G (am_M G d) 129 K 1030 (z0 :: z1 :: z2 :: z3 :: z4 :: some (.int a) :: lv) (.int a :: st) h nc ns) := am_u e_129_1028
theorem e_129_1030 : pg_code 129 1030 = some (.ifCond .ne 15, 3, 1045, 0) := by decide +kernel
theorem u_129_1030 {a : Int32} {lv : am_L} {st : List Value} : am_W G (am_M G d) 129 K 1030 lv (.int a :: st) h nc ns = (am_br (¬ a = 0) (am_W G (am_M G d) 129 K 1045 lv st h nc ns) (am_W G (am_M G d) 129 K 1033 lv st h nc ns)) := am_u e_129_1030
theorem e_129_1033 : pg_code 129 1033 = some (.aload_n 3, 1, 0, 0) := by decide +kernel
theorem u_129_1033 {a : Nat} {z0 : Option Value} {z1 : Option Value} {z2 : Option Value} {lv : am_L} {st : List Value} : am_W G (am_M G d) 129 K 1033 (z0 :: z1 :: z2 :: some (.ref a) :: lv) st h nc ns = (am_W G (am_M G d) 129 K 1034 (z0 :: z1 :: z2 :: some (.ref a) :: lv) (.ref a :: st) h nc ns) := am_u e_129_1033
theorem e_129_1034 : pg_code 129 1034 = some (.iconst 0, 1, 0, 0) := by decide +kernel
theorem u_129_1034 {lv : am_L} {st : List Value} : am_W G (am_M G d) 129 K 1034 lv st h nc ns = (am_W G (am_M G d) 129 K 1035 lv (.int 0 :: st) h nc ns) := am_u e_129_1034
theorem e_129_1035 : pg_code 129 1035 = some (.laload, 1, 0, 0) := by decide +kernel
theorem u_129_1035 {a : Nat} {j : Int32} {lv : am_L} {st : List Value} : am_W G (am_M G d) 129 K 1035 lv (.int j :: .ref a :: st) h nc ns = (f_la G d 129 K 1036 lv st h nc ns (h a) j) := am_u e_129_1035
theorem e_129_1036 : pg_code 129 1036 = some (.iload 6, 2, 0, 0) := by decide +kernel
theorem u_129_1036 {a : Int32} {z0 : Option Value} {z1 : Option Value} {z2 : Option Value} {z3 : Option Value} {z4 : Option Value} {z5 : Option Value} {lv : am_L} {st : List Value} : am_W G (am_M G d) 129 K 1036 (z0 :: z1 :: z2 :: z3 :: z4 :: z5 :: some (.int a) :: lv) st h nc ns = (am_W G (am_M G d) 129 K 1038 (z0 :: z1 :: z2 :: z3 :: z4 :: z5 :: some (.int a) :: lv) (.int a :: st) h nc ns) := am_u e_129_1036
theorem e_129_1038 : pg_code 129 1038 = some (.i2l, 1, 0, 0) := by decide +kernel
theorem u_129_1038 {a : Int32} {lv : am_L} {st : List Value} : am_W G (am_M G d) 129 K 1038 lv (.int a :: st) h nc ns = (am_W G (am_M G d) 129 K 1039 lv (.long a.toInt64 :: st) h nc ns) := am_u e_129_1038
theorem e_129_1039 : pg_code 129 1039 = some (.lcmp, 1, 0, 0) := by decide +kernel
theorem u_129_1039 {a b : Int64} {lv : am_L} {st : List Value} : am_W G (am_M G d) 129 K 1039 lv (.long b :: .long a :: st) h nc ns = (am_W G (am_M G d) 129 K 1040 lv (.int (lg_cmp a b) :: st) h nc ns) := am_u e_129_1039
theorem e_129_1040 : pg_code 129 1040 = some (.ifCond .eq 5, 3, 1045, 0) := by decide +kernel
theorem u_129_1040 {a : Int32} {lv : am_L} {st : List Value} : am_W G (am_M G d) 129 K 1040 lv (.int a :: st) h nc ns = (am_br (a = 0) (am_W G (am_M G d) 129 K 1045 lv st h nc ns) (am_W G (am_M G d) 129 K 1043 lv st h nc ns)) := am_u e_129_1040
theorem e_129_1043 : pg_code 129 1043 = some (.iconst 0, 1, 0, 0) := by decide +kernel
theorem u_129_1043 {lv : am_L} {st : List Value} : am_W G (am_M G d) 129 K 1043 lv st h nc ns = (am_W G (am_M G d) 129 K 1044 lv (.int 0 :: st) h nc ns) := am_u e_129_1043
theorem e_129_1044 : pg_code 129 1044 = some (.ireturn, 1, 0, 0) := by decide +kernel
theorem u_129_1044 {a : Int32} {lv : am_L} : am_W G (am_M G d) 129 K 1044 lv [.int a] h nc ns = (narrow .boolean (.int a) = .int a ∧ K (.inl (some (.int a))) h) := (am_u e_129_1044).trans (f_z_eq rfl)
theorem e_129_1045 : pg_code 129 1045 = some (.goto 234, 3, 1279, 0) := by decide +kernel
theorem u_129_1045 {lv : am_L} {st : List Value} : am_W G (am_M G d) 129 K 1045 lv st h nc ns = (am_W G (am_M G d) 129 K 1279 lv st h nc ns) := am_u e_129_1045
theorem e_129_1048 : pg_code 129 1048 = some (.aload_n 1, 1, 0, 0) := by decide +kernel
theorem u_129_1048 {a : Nat} {z0 : Option Value} {lv : am_L} {st : List Value} : am_W G (am_M G d) 129 K 1048 (z0 :: some (.ref a) :: lv) st h nc ns = (am_W G (am_M G d) 129 K 1049 (z0 :: some (.ref a) :: lv) (.ref a :: st) h nc ns) := am_u e_129_1048
theorem e_129_1049 : pg_code 129 1049 = some (.aload_n 0, 1, 0, 0) := by decide +kernel
theorem u_129_1049 {a : Nat} {lv : am_L} {st : List Value} : am_W G (am_M G d) 129 K 1049 (some (.ref a) :: lv) st h nc ns = (am_W G (am_M G d) 129 K 1050 (some (.ref a) :: lv) (.ref a :: st) h nc ns) := am_u e_129_1049
theorem e_129_1050 : pg_code 129 1050 = some (.iload 4, 2, 0, 0) := by decide +kernel
theorem u_129_1050 {a : Int32} {z0 : Option Value} {z1 : Option Value} {z2 : Option Value} {z3 : Option Value} {lv : am_L} {st : List Value} : am_W G (am_M G d) 129 K 1050 (z0 :: z1 :: z2 :: z3 :: some (.int a) :: lv) st h nc ns = (am_W G (am_M G d) 129 K 1052 (z0 :: z1 :: z2 :: z3 :: some (.int a) :: lv) (.int a :: st) h nc ns) := am_u e_129_1050
theorem e_129_1052 : pg_code 129 1052 = some (.iconst 1, 1, 0, 0) := by decide +kernel
theorem u_129_1052 {lv : am_L} {st : List Value} : am_W G (am_M G d) 129 K 1052 lv st h nc ns = (am_W G (am_M G d) 129 K 1053 lv (.int 1 :: st) h nc ns) := am_u e_129_1052
theorem e_129_1053 : pg_code 129 1053 = some (.iadd, 1, 0, 0) := by decide +kernel
theorem u_129_1053 {a b : Int32} {lv : am_L} {st : List Value} : am_W G (am_M G d) 129 K 1053 lv (.int b :: .int a :: st) h nc ns = (am_W G (am_M G d) 129 K 1054 lv (.int (a + b) :: st) h nc ns) := am_u e_129_1053
theorem e_129_1054 : pg_code 129 1054 = some (.iaload, 1, 1, 0) := by decide +kernel
theorem u_129_1054 {a : Nat} {j : Int32} {lv : am_L} {st : List Value} : am_W G (am_M G d) 129 K 1054 lv (.int j :: .ref a :: st) h nc ns = ((a = G.1 ∧ vp_in j G.2.1) ∧ am_W G (am_M G d) 129 K 1055 lv (.int (G.2.2 j.toNatClampNeg) :: st) h nc ns) := am_u e_129_1054
theorem e_129_1055 : pg_code 129 1055 = some (.aload_n 3, 1, 0, 0) := by decide +kernel
theorem u_129_1055 {a : Nat} {z0 : Option Value} {z1 : Option Value} {z2 : Option Value} {lv : am_L} {st : List Value} : am_W G (am_M G d) 129 K 1055 (z0 :: z1 :: z2 :: some (.ref a) :: lv) st h nc ns = (am_W G (am_M G d) 129 K 1056 (z0 :: z1 :: z2 :: some (.ref a) :: lv) (.ref a :: st) h nc ns) := am_u e_129_1055
theorem e_129_1056 : pg_code 129 1056 = some (.invokestatic 132, 3, 72, 3) := by decide +kernel
theorem u_129_1056 {v0 v1 v2 : Value} {lv : am_L} {st : List Value} : am_W G (am_M G d) 129 K 1056 lv (v2 :: v1 :: v0 :: st) h nc ns = ((am_words st ≤ 8 ∧ nc + 1 ≤ 601024 ∧ ns + 6 ≤ 7293034) ∧ am_M G d 72 [v0, v1, v2] h (am_back 129 K (am_W G (am_M G d) 129 K) 72 1056 lv st nc ns)) := (am_u e_129_1056).trans (f_st_eq (G := G) (d := d) (k := 129) (K := K) (pc := 1056) (lv := lv) (st := st) (h := h) (nc := nc) (ns := ns) (x := 72) (X := am_W G (am_M G d) 129 K) [v0, v1, v2] (by decide) rfl)
theorem e_129_1059 : pg_code 129 1059 = some (.istore 5, 2, 0, 0) := by decide +kernel
theorem u_129_1059 {a : Int32} {lv : am_L} {st : List Value} : am_W G (am_M G d) 129 K 1059 lv (.int a :: st) h nc ns = (am_W G (am_M G d) 129 K 1061 (am_st1 lv 5 (.int a)) st h nc ns) := (am_u e_129_1059).trans (f_t (by decide +kernel))
theorem e_129_1061 : pg_code 129 1061 = some (.aload_n 2, 1, 0, 0) := by decide +kernel
theorem u_129_1061 {a : Nat} {z0 : Option Value} {z1 : Option Value} {lv : am_L} {st : List Value} : am_W G (am_M G d) 129 K 1061 (z0 :: z1 :: some (.ref a) :: lv) st h nc ns = (am_W G (am_M G d) 129 K 1062 (z0 :: z1 :: some (.ref a) :: lv) (.ref a :: st) h nc ns) := am_u e_129_1061
theorem e_129_1062 : pg_code 129 1062 = some (.aload_n 0, 1, 0, 0) := by decide +kernel
theorem u_129_1062 {a : Nat} {lv : am_L} {st : List Value} : am_W G (am_M G d) 129 K 1062 (some (.ref a) :: lv) st h nc ns = (am_W G (am_M G d) 129 K 1063 (some (.ref a) :: lv) (.ref a :: st) h nc ns) := am_u e_129_1062
theorem e_129_1063 : pg_code 129 1063 = some (.iload 4, 2, 0, 0) := by decide +kernel
theorem u_129_1063 {a : Int32} {z0 : Option Value} {z1 : Option Value} {z2 : Option Value} {z3 : Option Value} {lv : am_L} {st : List Value} : am_W G (am_M G d) 129 K 1063 (z0 :: z1 :: z2 :: z3 :: some (.int a) :: lv) st h nc ns = (am_W G (am_M G d) 129 K 1065 (z0 :: z1 :: z2 :: z3 :: some (.int a) :: lv) (.int a :: st) h nc ns) := am_u e_129_1063
theorem e_129_1065 : pg_code 129 1065 = some (.iconst 1, 1, 0, 0) := by decide +kernel
theorem u_129_1065 {lv : am_L} {st : List Value} : am_W G (am_M G d) 129 K 1065 lv st h nc ns = (am_W G (am_M G d) 129 K 1066 lv (.int 1 :: st) h nc ns) := am_u e_129_1065
theorem e_129_1066 : pg_code 129 1066 = some (.iadd, 1, 0, 0) := by decide +kernel
theorem u_129_1066 {a b : Int32} {lv : am_L} {st : List Value} : am_W G (am_M G d) 129 K 1066 lv (.int b :: .int a :: st) h nc ns = (am_W G (am_M G d) 129 K 1067 lv (.int (a + b) :: st) h nc ns) := am_u e_129_1066
theorem e_129_1067 : pg_code 129 1067 = some (.iaload, 1, 1, 0) := by decide +kernel
theorem u_129_1067 {a : Nat} {j : Int32} {lv : am_L} {st : List Value} : am_W G (am_M G d) 129 K 1067 lv (.int j :: .ref a :: st) h nc ns = ((a = G.1 ∧ vp_in j G.2.1) ∧ am_W G (am_M G d) 129 K 1068 lv (.int (G.2.2 j.toNatClampNeg) :: st) h nc ns) := am_u e_129_1067
theorem e_129_1068 : pg_code 129 1068 = some (.invokevirtual 134, 3, 120, 2) := by decide +kernel
theorem u_129_1068 {a : Nat} {v0 : Value} {lv : am_L} {st : List Value} : am_W G (am_M G d) 129 K 1068 lv (v0 :: .ref a :: st) h nc ns = ((am_words st ≤ 8 ∧ nc + 0 ≤ 601024 ∧ ns + 0 ≤ 7293034 ∧ f_rc (h a) 7) ∧ am_M G d 120 [.ref a, v0] h (am_back 129 K (am_W G (am_M G d) 129 K) 120 1068 lv st nc ns)) := (am_u e_129_1068).trans (f_iv_eq (a := a) (G := G) (d := d) (k := 129) (K := K) (pc := 1068) (lv := lv) (st := st) (h := h) (nc := nc) (ns := ns) (x := 120) (X := am_W G (am_M G d) 129 K) [v0] (by decide) rfl)
theorem e_129_1071 : pg_code 129 1071 = some (.istore 6, 2, 0, 0) := by decide +kernel
theorem u_129_1071 {a : Int32} {lv : am_L} {st : List Value} : am_W G (am_M G d) 129 K 1071 lv (.int a :: st) h nc ns = (am_W G (am_M G d) 129 K 1073 (am_st1 lv 6 (.int a)) st h nc ns) := (am_u e_129_1071).trans (f_t (by decide +kernel))
theorem e_129_1073 : pg_code 129 1073 = some (.aload_n 2, 1, 0, 0) := by decide +kernel
theorem u_129_1073 {a : Nat} {z0 : Option Value} {z1 : Option Value} {lv : am_L} {st : List Value} : am_W G (am_M G d) 129 K 1073 (z0 :: z1 :: some (.ref a) :: lv) st h nc ns = (am_W G (am_M G d) 129 K 1074 (z0 :: z1 :: some (.ref a) :: lv) (.ref a :: st) h nc ns) := am_u e_129_1073
theorem e_129_1074 : pg_code 129 1074 = some (.invokevirtual 84, 3, 83, 1) := by decide +kernel
theorem u_129_1074 {a : Nat} {lv : am_L} {st : List Value} : am_W G (am_M G d) 129 K 1074 lv (.ref a :: st) h nc ns = ((am_words st ≤ 8 ∧ nc + 0 ≤ 601024 ∧ ns + 0 ≤ 7293034 ∧ f_rc (h a) 7) ∧ am_M G d 83 [.ref a] h (am_back 129 K (am_W G (am_M G d) 129 K) 83 1074 lv st nc ns)) := (am_u e_129_1074).trans (f_iv_eq (a := a) (G := G) (d := d) (k := 129) (K := K) (pc := 1074) (lv := lv) (st := st) (h := h) (nc := nc) (ns := ns) (x := 83) (X := am_W G (am_M G d) 129 K) [] (by decide) rfl)
theorem e_129_1077 : pg_code 129 1077 = some (.iload 5, 2, 0, 0) := by decide +kernel
theorem u_129_1077 {a : Int32} {z0 : Option Value} {z1 : Option Value} {z2 : Option Value} {z3 : Option Value} {z4 : Option Value} {lv : am_L} {st : List Value} : am_W G (am_M G d) 129 K 1077 (z0 :: z1 :: z2 :: z3 :: z4 :: some (.int a) :: lv) st h nc ns = (am_W G (am_M G d) 129 K 1079 (z0 :: z1 :: z2 :: z3 :: z4 :: some (.int a) :: lv) (.int a :: st) h nc ns) := am_u e_129_1077
theorem e_129_1079 : pg_code 129 1079 = some (.if_icmp .eq 5, 3, 1084, 0) := by decide +kernel
theorem u_129_1079 {a b : Int32} {lv : am_L} {st : List Value} : am_W G (am_M G d) 129 K 1079 lv (.int b :: .int a :: st) h nc ns = (am_br (a = b) (am_W G (am_M G d) 129 K 1084 lv st h nc ns) (am_W G (am_M G d) 129 K 1082 lv st h nc ns)) := am_u e_129_1079
theorem e_129_1082 : pg_code 129 1082 = some (.iconst 0, 1, 0, 0) := by decide +kernel
theorem u_129_1082 {lv : am_L} {st : List Value} : am_W G (am_M G d) 129 K 1082 lv st h nc ns = (am_W G (am_M G d) 129 K 1083 lv (.int 0 :: st) h nc ns) := am_u e_129_1082
theorem e_129_1083 : pg_code 129 1083 = some (.ireturn, 1, 0, 0) := by decide +kernel
theorem u_129_1083 {a : Int32} {lv : am_L} : am_W G (am_M G d) 129 K 1083 lv [.int a] h nc ns = (narrow .boolean (.int a) = .int a ∧ K (.inl (some (.int a))) h) := (am_u e_129_1083).trans (f_z_eq rfl)
theorem e_129_1084 : pg_code 129 1084 = some (.iload 5, 2, 0, 0) := by decide +kernel
theorem u_129_1084 {a : Int32} {z0 : Option Value} {z1 : Option Value} {z2 : Option Value} {z3 : Option Value} {z4 : Option Value} {lv : am_L} {st : List Value} : am_W G (am_M G d) 129 K 1084 (z0 :: z1 :: z2 :: z3 :: z4 :: some (.int a) :: lv) st h nc ns = (am_W G (am_M G d) 129 K 1086 (z0 :: z1 :: z2 :: z3 :: z4 :: some (.int a) :: lv) (.int a :: st) h nc ns) := am_u e_129_1084
theorem e_129_1086 : pg_code 129 1086 = some (.ifCond .ne 15, 3, 1101, 0) := by decide +kernel
theorem u_129_1086 {a : Int32} {lv : am_L} {st : List Value} : am_W G (am_M G d) 129 K 1086 lv (.int a :: st) h nc ns = (am_br (¬ a = 0) (am_W G (am_M G d) 129 K 1101 lv st h nc ns) (am_W G (am_M G d) 129 K 1089 lv st h nc ns)) := am_u e_129_1086
theorem e_129_1089 : pg_code 129 1089 = some (.aload_n 3, 1, 0, 0) := by decide +kernel
theorem u_129_1089 {a : Nat} {z0 : Option Value} {z1 : Option Value} {z2 : Option Value} {lv : am_L} {st : List Value} : am_W G (am_M G d) 129 K 1089 (z0 :: z1 :: z2 :: some (.ref a) :: lv) st h nc ns = (am_W G (am_M G d) 129 K 1090 (z0 :: z1 :: z2 :: some (.ref a) :: lv) (.ref a :: st) h nc ns) := am_u e_129_1089
theorem e_129_1090 : pg_code 129 1090 = some (.iconst 0, 1, 0, 0) := by decide +kernel
theorem u_129_1090 {lv : am_L} {st : List Value} : am_W G (am_M G d) 129 K 1090 lv st h nc ns = (am_W G (am_M G d) 129 K 1091 lv (.int 0 :: st) h nc ns) := am_u e_129_1090
theorem e_129_1091 : pg_code 129 1091 = some (.laload, 1, 0, 0) := by decide +kernel
theorem u_129_1091 {a : Nat} {j : Int32} {lv : am_L} {st : List Value} : am_W G (am_M G d) 129 K 1091 lv (.int j :: .ref a :: st) h nc ns = (f_la G d 129 K 1092 lv st h nc ns (h a) j) := am_u e_129_1091
theorem e_129_1092 : pg_code 129 1092 = some (.iload 6, 2, 0, 0) := by decide +kernel
theorem u_129_1092 {a : Int32} {z0 : Option Value} {z1 : Option Value} {z2 : Option Value} {z3 : Option Value} {z4 : Option Value} {z5 : Option Value} {lv : am_L} {st : List Value} : am_W G (am_M G d) 129 K 1092 (z0 :: z1 :: z2 :: z3 :: z4 :: z5 :: some (.int a) :: lv) st h nc ns = (am_W G (am_M G d) 129 K 1094 (z0 :: z1 :: z2 :: z3 :: z4 :: z5 :: some (.int a) :: lv) (.int a :: st) h nc ns) := am_u e_129_1092
theorem e_129_1094 : pg_code 129 1094 = some (.i2l, 1, 0, 0) := by decide +kernel
theorem u_129_1094 {a : Int32} {lv : am_L} {st : List Value} : am_W G (am_M G d) 129 K 1094 lv (.int a :: st) h nc ns = (am_W G (am_M G d) 129 K 1095 lv (.long a.toInt64 :: st) h nc ns) := am_u e_129_1094
theorem e_129_1095 : pg_code 129 1095 = some (.lcmp, 1, 0, 0) := by decide +kernel
theorem u_129_1095 {a b : Int64} {lv : am_L} {st : List Value} : am_W G (am_M G d) 129 K 1095 lv (.long b :: .long a :: st) h nc ns = (am_W G (am_M G d) 129 K 1096 lv (.int (lg_cmp a b) :: st) h nc ns) := am_u e_129_1095
theorem e_129_1096 : pg_code 129 1096 = some (.ifCond .eq 5, 3, 1101, 0) := by decide +kernel
theorem u_129_1096 {a : Int32} {lv : am_L} {st : List Value} : am_W G (am_M G d) 129 K 1096 lv (.int a :: st) h nc ns = (am_br (a = 0) (am_W G (am_M G d) 129 K 1101 lv st h nc ns) (am_W G (am_M G d) 129 K 1099 lv st h nc ns)) := am_u e_129_1096
theorem e_129_1099 : pg_code 129 1099 = some (.iconst 0, 1, 0, 0) := by decide +kernel
theorem u_129_1099 {lv : am_L} {st : List Value} : am_W G (am_M G d) 129 K 1099 lv st h nc ns = (am_W G (am_M G d) 129 K 1100 lv (.int 0 :: st) h nc ns) := am_u e_129_1099
theorem e_129_1100 : pg_code 129 1100 = some (.ireturn, 1, 0, 0) := by decide +kernel
theorem u_129_1100 {a : Int32} {lv : am_L} : am_W G (am_M G d) 129 K 1100 lv [.int a] h nc ns = (narrow .boolean (.int a) = .int a ∧ K (.inl (some (.int a))) h) := (am_u e_129_1100).trans (f_z_eq rfl)
theorem e_129_1101 : pg_code 129 1101 = some (.goto 178, 3, 1279, 0) := by decide +kernel
theorem u_129_1101 {lv : am_L} {st : List Value} : am_W G (am_M G d) 129 K 1101 lv st h nc ns = (am_W G (am_M G d) 129 K 1279 lv st h nc ns) := am_u e_129_1101
theorem e_129_1104 : pg_code 129 1104 = some (.aload_n 1, 1, 0, 0) := by decide +kernel
theorem u_129_1104 {a : Nat} {z0 : Option Value} {lv : am_L} {st : List Value} : am_W G (am_M G d) 129 K 1104 (z0 :: some (.ref a) :: lv) st h nc ns = (am_W G (am_M G d) 129 K 1105 (z0 :: some (.ref a) :: lv) (.ref a :: st) h nc ns) := am_u e_129_1104
theorem e_129_1105 : pg_code 129 1105 = some (.invokevirtual 135, 3, 31, 1) := by decide +kernel
theorem u_129_1105 {a : Nat} {lv : am_L} {st : List Value} : am_W G (am_M G d) 129 K 1105 lv (.ref a :: st) h nc ns = ((am_words st ≤ 8 ∧ nc + 0 ≤ 601024 ∧ ns + 0 ≤ 7293034 ∧ f_rc (h a) 0) ∧ am_M G d 31 [.ref a] h (am_back 129 K (am_W G (am_M G d) 129 K) 31 1105 lv st nc ns)) := (am_u e_129_1105).trans (f_iv_eq (a := a) (G := G) (d := d) (k := 129) (K := K) (pc := 1105) (lv := lv) (st := st) (h := h) (nc := nc) (ns := ns) (x := 31) (X := am_W G (am_M G d) 129 K) [] (by decide) rfl)
theorem e_129_1108 : pg_code 129 1108 = some (.aload_n 2, 1, 0, 0) := by decide +kernel
theorem u_129_1108 {a : Nat} {z0 : Option Value} {z1 : Option Value} {lv : am_L} {st : List Value} : am_W G (am_M G d) 129 K 1108 (z0 :: z1 :: some (.ref a) :: lv) st h nc ns = (am_W G (am_M G d) 129 K 1109 (z0 :: z1 :: some (.ref a) :: lv) (.ref a :: st) h nc ns) := am_u e_129_1108
theorem e_129_1109 : pg_code 129 1109 = some (.invokevirtual 139, 3, 121, 1) := by decide +kernel
theorem u_129_1109 {a : Nat} {lv : am_L} {st : List Value} : am_W G (am_M G d) 129 K 1109 lv (.ref a :: st) h nc ns = ((am_words st ≤ 8 ∧ nc + 0 ≤ 601024 ∧ ns + 0 ≤ 7293034 ∧ f_rc (h a) 7) ∧ am_M G d 121 [.ref a] h (am_back 129 K (am_W G (am_M G d) 129 K) 121 1109 lv st nc ns)) := (am_u e_129_1109).trans (f_iv_eq (a := a) (G := G) (d := d) (k := 129) (K := K) (pc := 1109) (lv := lv) (st := st) (h := h) (nc := nc) (ns := ns) (x := 121) (X := am_W G (am_M G d) 129 K) [] (by decide) rfl)
theorem e_129_1112 : pg_code 129 1112 = some (.if_icmp .eq 167, 3, 1279, 0) := by decide +kernel
theorem u_129_1112 {a b : Int32} {lv : am_L} {st : List Value} : am_W G (am_M G d) 129 K 1112 lv (.int b :: .int a :: st) h nc ns = (am_br (a = b) (am_W G (am_M G d) 129 K 1279 lv st h nc ns) (am_W G (am_M G d) 129 K 1115 lv st h nc ns)) := am_u e_129_1112
theorem e_129_1115 : pg_code 129 1115 = some (.iconst 0, 1, 0, 0) := by decide +kernel
theorem u_129_1115 {lv : am_L} {st : List Value} : am_W G (am_M G d) 129 K 1115 lv st h nc ns = (am_W G (am_M G d) 129 K 1116 lv (.int 0 :: st) h nc ns) := am_u e_129_1115
theorem e_129_1116 : pg_code 129 1116 = some (.ireturn, 1, 0, 0) := by decide +kernel
theorem u_129_1116 {a : Int32} {lv : am_L} : am_W G (am_M G d) 129 K 1116 lv [.int a] h nc ns = (narrow .boolean (.int a) = .int a ∧ K (.inl (some (.int a))) h) := (am_u e_129_1116).trans (f_z_eq rfl)
theorem e_129_1117 : pg_code 129 1117 = some (.aload_n 1, 1, 0, 0) := by decide +kernel
theorem u_129_1117 {a : Nat} {z0 : Option Value} {lv : am_L} {st : List Value} : am_W G (am_M G d) 129 K 1117 (z0 :: some (.ref a) :: lv) st h nc ns = (am_W G (am_M G d) 129 K 1118 (z0 :: some (.ref a) :: lv) (.ref a :: st) h nc ns) := am_u e_129_1117
theorem e_129_1118 : pg_code 129 1118 = some (.aload_n 0, 1, 0, 0) := by decide +kernel
theorem u_129_1118 {a : Nat} {lv : am_L} {st : List Value} : am_W G (am_M G d) 129 K 1118 (some (.ref a) :: lv) st h nc ns = (am_W G (am_M G d) 129 K 1119 (some (.ref a) :: lv) (.ref a :: st) h nc ns) := am_u e_129_1118
theorem e_129_1119 : pg_code 129 1119 = some (.iload 4, 2, 0, 0) := by decide +kernel
theorem u_129_1119 {a : Int32} {z0 : Option Value} {z1 : Option Value} {z2 : Option Value} {z3 : Option Value} {lv : am_L} {st : List Value} : am_W G (am_M G d) 129 K 1119 (z0 :: z1 :: z2 :: z3 :: some (.int a) :: lv) st h nc ns = (am_W G (am_M G d) 129 K 1121 (z0 :: z1 :: z2 :: z3 :: some (.int a) :: lv) (.int a :: st) h nc ns) := am_u e_129_1119
theorem e_129_1121 : pg_code 129 1121 = some (.iconst 1, 1, 0, 0) := by decide +kernel
theorem u_129_1121 {lv : am_L} {st : List Value} : am_W G (am_M G d) 129 K 1121 lv st h nc ns = (am_W G (am_M G d) 129 K 1122 lv (.int 1 :: st) h nc ns) := am_u e_129_1121
theorem e_129_1122 : pg_code 129 1122 = some (.iadd, 1, 0, 0) := by decide +kernel
theorem u_129_1122 {a b : Int32} {lv : am_L} {st : List Value} : am_W G (am_M G d) 129 K 1122 lv (.int b :: .int a :: st) h nc ns = (am_W G (am_M G d) 129 K 1123 lv (.int (a + b) :: st) h nc ns) := am_u e_129_1122
theorem e_129_1123 : pg_code 129 1123 = some (.iaload, 1, 1, 0) := by decide +kernel
theorem u_129_1123 {a : Nat} {j : Int32} {lv : am_L} {st : List Value} : am_W G (am_M G d) 129 K 1123 lv (.int j :: .ref a :: st) h nc ns = ((a = G.1 ∧ vp_in j G.2.1) ∧ am_W G (am_M G d) 129 K 1124 lv (.int (G.2.2 j.toNatClampNeg) :: st) h nc ns) := am_u e_129_1123
theorem e_129_1124 : pg_code 129 1124 = some (.aload_n 0, 1, 0, 0) := by decide +kernel
theorem u_129_1124 {a : Nat} {lv : am_L} {st : List Value} : am_W G (am_M G d) 129 K 1124 (some (.ref a) :: lv) st h nc ns = (am_W G (am_M G d) 129 K 1125 (some (.ref a) :: lv) (.ref a :: st) h nc ns) := am_u e_129_1124
theorem e_129_1125 : pg_code 129 1125 = some (.iload 4, 2, 0, 0) := by decide +kernel
theorem u_129_1125 {a : Int32} {z0 : Option Value} {z1 : Option Value} {z2 : Option Value} {z3 : Option Value} {lv : am_L} {st : List Value} : am_W G (am_M G d) 129 K 1125 (z0 :: z1 :: z2 :: z3 :: some (.int a) :: lv) st h nc ns = (am_W G (am_M G d) 129 K 1127 (z0 :: z1 :: z2 :: z3 :: some (.int a) :: lv) (.int a :: st) h nc ns) := am_u e_129_1125
theorem e_129_1127 : pg_code 129 1127 = some (.iconst 2, 1, 0, 0) := by decide +kernel
theorem u_129_1127 {lv : am_L} {st : List Value} : am_W G (am_M G d) 129 K 1127 lv st h nc ns = (am_W G (am_M G d) 129 K 1128 lv (.int 2 :: st) h nc ns) := am_u e_129_1127
theorem e_129_1128 : pg_code 129 1128 = some (.iadd, 1, 0, 0) := by decide +kernel
theorem u_129_1128 {a b : Int32} {lv : am_L} {st : List Value} : am_W G (am_M G d) 129 K 1128 lv (.int b :: .int a :: st) h nc ns = (am_W G (am_M G d) 129 K 1129 lv (.int (a + b) :: st) h nc ns) := am_u e_129_1128
theorem e_129_1129 : pg_code 129 1129 = some (.iaload, 1, 1, 0) := by decide +kernel
theorem u_129_1129 {a : Nat} {j : Int32} {lv : am_L} {st : List Value} : am_W G (am_M G d) 129 K 1129 lv (.int j :: .ref a :: st) h nc ns = ((a = G.1 ∧ vp_in j G.2.1) ∧ am_W G (am_M G d) 129 K 1130 lv (.int (G.2.2 j.toNatClampNeg) :: st) h nc ns) := am_u e_129_1129
theorem e_129_1130 : pg_code 129 1130 = some (.aload_n 3, 1, 0, 0) := by decide +kernel
theorem u_129_1130 {a : Nat} {z0 : Option Value} {z1 : Option Value} {z2 : Option Value} {lv : am_L} {st : List Value} : am_W G (am_M G d) 129 K 1130 (z0 :: z1 :: z2 :: some (.ref a) :: lv) st h nc ns = (am_W G (am_M G d) 129 K 1131 (z0 :: z1 :: z2 :: some (.ref a) :: lv) (.ref a :: st) h nc ns) := am_u e_129_1130
theorem e_129_1131 : pg_code 129 1131 = some (.invokestatic 140, 3, 75, 4) := by decide +kernel
theorem u_129_1131 {v0 v1 v2 v3 : Value} {lv : am_L} {st : List Value} : am_W G (am_M G d) 129 K 1131 lv (v3 :: v2 :: v1 :: v0 :: st) h nc ns = ((am_words st ≤ 8 ∧ nc + 2 ≤ 601024 ∧ ns + 12 ≤ 7293034) ∧ am_M G d 75 [v0, v1, v2, v3] h (am_back 129 K (am_W G (am_M G d) 129 K) 75 1131 lv st nc ns)) := (am_u e_129_1131).trans (f_st_eq (G := G) (d := d) (k := 129) (K := K) (pc := 1131) (lv := lv) (st := st) (h := h) (nc := nc) (ns := ns) (x := 75) (X := am_W G (am_M G d) 129 K) [v0, v1, v2, v3] (by decide) rfl)
theorem e_129_1134 : pg_code 129 1134 = some (.istore 5, 2, 0, 0) := by decide +kernel
theorem u_129_1134 {a : Int32} {lv : am_L} {st : List Value} : am_W G (am_M G d) 129 K 1134 lv (.int a :: st) h nc ns = (am_W G (am_M G d) 129 K 1136 (am_st1 lv 5 (.int a)) st h nc ns) := (am_u e_129_1134).trans (f_t (by decide +kernel))
theorem e_129_1136 : pg_code 129 1136 = some (.aload_n 2, 1, 0, 0) := by decide +kernel
theorem u_129_1136 {a : Nat} {z0 : Option Value} {z1 : Option Value} {lv : am_L} {st : List Value} : am_W G (am_M G d) 129 K 1136 (z0 :: z1 :: some (.ref a) :: lv) st h nc ns = (am_W G (am_M G d) 129 K 1137 (z0 :: z1 :: some (.ref a) :: lv) (.ref a :: st) h nc ns) := am_u e_129_1136
theorem e_129_1137 : pg_code 129 1137 = some (.aload_n 0, 1, 0, 0) := by decide +kernel
theorem u_129_1137 {a : Nat} {lv : am_L} {st : List Value} : am_W G (am_M G d) 129 K 1137 (some (.ref a) :: lv) st h nc ns = (am_W G (am_M G d) 129 K 1138 (some (.ref a) :: lv) (.ref a :: st) h nc ns) := am_u e_129_1137
theorem e_129_1138 : pg_code 129 1138 = some (.iload 4, 2, 0, 0) := by decide +kernel
theorem u_129_1138 {a : Int32} {z0 : Option Value} {z1 : Option Value} {z2 : Option Value} {z3 : Option Value} {lv : am_L} {st : List Value} : am_W G (am_M G d) 129 K 1138 (z0 :: z1 :: z2 :: z3 :: some (.int a) :: lv) st h nc ns = (am_W G (am_M G d) 129 K 1140 (z0 :: z1 :: z2 :: z3 :: some (.int a) :: lv) (.int a :: st) h nc ns) := am_u e_129_1138
theorem e_129_1140 : pg_code 129 1140 = some (.iconst 1, 1, 0, 0) := by decide +kernel
theorem u_129_1140 {lv : am_L} {st : List Value} : am_W G (am_M G d) 129 K 1140 lv st h nc ns = (am_W G (am_M G d) 129 K 1141 lv (.int 1 :: st) h nc ns) := am_u e_129_1140
theorem e_129_1141 : pg_code 129 1141 = some (.iadd, 1, 0, 0) := by decide +kernel
theorem u_129_1141 {a b : Int32} {lv : am_L} {st : List Value} : am_W G (am_M G d) 129 K 1141 lv (.int b :: .int a :: st) h nc ns = (am_W G (am_M G d) 129 K 1142 lv (.int (a + b) :: st) h nc ns) := am_u e_129_1141
theorem e_129_1142 : pg_code 129 1142 = some (.iaload, 1, 1, 0) := by decide +kernel
theorem u_129_1142 {a : Nat} {j : Int32} {lv : am_L} {st : List Value} : am_W G (am_M G d) 129 K 1142 lv (.int j :: .ref a :: st) h nc ns = ((a = G.1 ∧ vp_in j G.2.1) ∧ am_W G (am_M G d) 129 K 1143 lv (.int (G.2.2 j.toNatClampNeg) :: st) h nc ns) := am_u e_129_1142
theorem e_129_1143 : pg_code 129 1143 = some (.aload_n 0, 1, 0, 0) := by decide +kernel
theorem u_129_1143 {a : Nat} {lv : am_L} {st : List Value} : am_W G (am_M G d) 129 K 1143 (some (.ref a) :: lv) st h nc ns = (am_W G (am_M G d) 129 K 1144 (some (.ref a) :: lv) (.ref a :: st) h nc ns) := am_u e_129_1143
theorem e_129_1144 : pg_code 129 1144 = some (.iload 4, 2, 0, 0) := by decide +kernel
theorem u_129_1144 {a : Int32} {z0 : Option Value} {z1 : Option Value} {z2 : Option Value} {z3 : Option Value} {lv : am_L} {st : List Value} : am_W G (am_M G d) 129 K 1144 (z0 :: z1 :: z2 :: z3 :: some (.int a) :: lv) st h nc ns = (am_W G (am_M G d) 129 K 1146 (z0 :: z1 :: z2 :: z3 :: some (.int a) :: lv) (.int a :: st) h nc ns) := am_u e_129_1144
theorem e_129_1146 : pg_code 129 1146 = some (.iconst 2, 1, 0, 0) := by decide +kernel
theorem u_129_1146 {lv : am_L} {st : List Value} : am_W G (am_M G d) 129 K 1146 lv st h nc ns = (am_W G (am_M G d) 129 K 1147 lv (.int 2 :: st) h nc ns) := am_u e_129_1146
theorem e_129_1147 : pg_code 129 1147 = some (.iadd, 1, 0, 0) := by decide +kernel
theorem u_129_1147 {a b : Int32} {lv : am_L} {st : List Value} : am_W G (am_M G d) 129 K 1147 lv (.int b :: .int a :: st) h nc ns = (am_W G (am_M G d) 129 K 1148 lv (.int (a + b) :: st) h nc ns) := am_u e_129_1147
theorem e_129_1148 : pg_code 129 1148 = some (.iaload, 1, 1, 0) := by decide +kernel
theorem u_129_1148 {a : Nat} {j : Int32} {lv : am_L} {st : List Value} : am_W G (am_M G d) 129 K 1148 lv (.int j :: .ref a :: st) h nc ns = ((a = G.1 ∧ vp_in j G.2.1) ∧ am_W G (am_M G d) 129 K 1149 lv (.int (G.2.2 j.toNatClampNeg) :: st) h nc ns) := am_u e_129_1148
theorem e_129_1149 : pg_code 129 1149 = some (.invokevirtual 142, 3, 122, 3) := by decide +kernel
theorem u_129_1149 {a : Nat} {v0 v1 : Value} {lv : am_L} {st : List Value} : am_W G (am_M G d) 129 K 1149 lv (v1 :: v0 :: .ref a :: st) h nc ns = ((am_words st ≤ 8 ∧ nc + 0 ≤ 601024 ∧ ns + 0 ≤ 7293034 ∧ f_rc (h a) 7) ∧ am_M G d 122 [.ref a, v0, v1] h (am_back 129 K (am_W G (am_M G d) 129 K) 122 1149 lv st nc ns)) := (am_u e_129_1149).trans (f_iv_eq (a := a) (G := G) (d := d) (k := 129) (K := K) (pc := 1149) (lv := lv) (st := st) (h := h) (nc := nc) (ns := ns) (x := 122) (X := am_W G (am_M G d) 129 K) [v0, v1] (by decide) rfl)
theorem e_129_1152 : pg_code 129 1152 = some (.istore 6, 2, 0, 0) := by decide +kernel
theorem u_129_1152 {a : Int32} {lv : am_L} {st : List Value} : am_W G (am_M G d) 129 K 1152 lv (.int a :: st) h nc ns = (am_W G (am_M G d) 129 K 1154 (am_st1 lv 6 (.int a)) st h nc ns) := (am_u e_129_1152).trans (f_t (by decide +kernel))
theorem e_129_1154 : pg_code 129 1154 = some (.aload_n 2, 1, 0, 0) := by decide +kernel
theorem u_129_1154 {a : Nat} {z0 : Option Value} {z1 : Option Value} {lv : am_L} {st : List Value} : am_W G (am_M G d) 129 K 1154 (z0 :: z1 :: some (.ref a) :: lv) st h nc ns = (am_W G (am_M G d) 129 K 1155 (z0 :: z1 :: some (.ref a) :: lv) (.ref a :: st) h nc ns) := am_u e_129_1154
theorem e_129_1155 : pg_code 129 1155 = some (.invokevirtual 84, 3, 83, 1) := by decide +kernel
theorem u_129_1155 {a : Nat} {lv : am_L} {st : List Value} : am_W G (am_M G d) 129 K 1155 lv (.ref a :: st) h nc ns = ((am_words st ≤ 8 ∧ nc + 0 ≤ 601024 ∧ ns + 0 ≤ 7293034 ∧ f_rc (h a) 7) ∧ am_M G d 83 [.ref a] h (am_back 129 K (am_W G (am_M G d) 129 K) 83 1155 lv st nc ns)) := (am_u e_129_1155).trans (f_iv_eq (a := a) (G := G) (d := d) (k := 129) (K := K) (pc := 1155) (lv := lv) (st := st) (h := h) (nc := nc) (ns := ns) (x := 83) (X := am_W G (am_M G d) 129 K) [] (by decide) rfl)
theorem e_129_1158 : pg_code 129 1158 = some (.iload 5, 2, 0, 0) := by decide +kernel
theorem u_129_1158 {a : Int32} {z0 : Option Value} {z1 : Option Value} {z2 : Option Value} {z3 : Option Value} {z4 : Option Value} {lv : am_L} {st : List Value} : am_W G (am_M G d) 129 K 1158 (z0 :: z1 :: z2 :: z3 :: z4 :: some (.int a) :: lv) st h nc ns = (am_W G (am_M G d) 129 K 1160 (z0 :: z1 :: z2 :: z3 :: z4 :: some (.int a) :: lv) (.int a :: st) h nc ns) := am_u e_129_1158
theorem e_129_1160 : pg_code 129 1160 = some (.if_icmp .eq 5, 3, 1165, 0) := by decide +kernel
theorem u_129_1160 {a b : Int32} {lv : am_L} {st : List Value} : am_W G (am_M G d) 129 K 1160 lv (.int b :: .int a :: st) h nc ns = (am_br (a = b) (am_W G (am_M G d) 129 K 1165 lv st h nc ns) (am_W G (am_M G d) 129 K 1163 lv st h nc ns)) := am_u e_129_1160
theorem e_129_1163 : pg_code 129 1163 = some (.iconst 0, 1, 0, 0) := by decide +kernel
theorem u_129_1163 {lv : am_L} {st : List Value} : am_W G (am_M G d) 129 K 1163 lv st h nc ns = (am_W G (am_M G d) 129 K 1164 lv (.int 0 :: st) h nc ns) := am_u e_129_1163
theorem e_129_1164 : pg_code 129 1164 = some (.ireturn, 1, 0, 0) := by decide +kernel
theorem u_129_1164 {a : Int32} {lv : am_L} : am_W G (am_M G d) 129 K 1164 lv [.int a] h nc ns = (narrow .boolean (.int a) = .int a ∧ K (.inl (some (.int a))) h) := (am_u e_129_1164).trans (f_z_eq rfl)
theorem e_129_1165 : pg_code 129 1165 = some (.iload 5, 2, 0, 0) := by decide +kernel
theorem u_129_1165 {a : Int32} {z0 : Option Value} {z1 : Option Value} {z2 : Option Value} {z3 : Option Value} {z4 : Option Value} {lv : am_L} {st : List Value} : am_W G (am_M G d) 129 K 1165 (z0 :: z1 :: z2 :: z3 :: z4 :: some (.int a) :: lv) st h nc ns = (am_W G (am_M G d) 129 K 1167 (z0 :: z1 :: z2 :: z3 :: z4 :: some (.int a) :: lv) (.int a :: st) h nc ns) := am_u e_129_1165
theorem e_129_1167 : pg_code 129 1167 = some (.ifCond .ne 15, 3, 1182, 0) := by decide +kernel
theorem u_129_1167 {a : Int32} {lv : am_L} {st : List Value} : am_W G (am_M G d) 129 K 1167 lv (.int a :: st) h nc ns = (am_br (¬ a = 0) (am_W G (am_M G d) 129 K 1182 lv st h nc ns) (am_W G (am_M G d) 129 K 1170 lv st h nc ns)) := am_u e_129_1167
theorem e_129_1170 : pg_code 129 1170 = some (.aload_n 3, 1, 0, 0) := by decide +kernel
theorem u_129_1170 {a : Nat} {z0 : Option Value} {z1 : Option Value} {z2 : Option Value} {lv : am_L} {st : List Value} : am_W G (am_M G d) 129 K 1170 (z0 :: z1 :: z2 :: some (.ref a) :: lv) st h nc ns = (am_W G (am_M G d) 129 K 1171 (z0 :: z1 :: z2 :: some (.ref a) :: lv) (.ref a :: st) h nc ns) := am_u e_129_1170
theorem e_129_1171 : pg_code 129 1171 = some (.iconst 0, 1, 0, 0) := by decide +kernel
theorem u_129_1171 {lv : am_L} {st : List Value} : am_W G (am_M G d) 129 K 1171 lv st h nc ns = (am_W G (am_M G d) 129 K 1172 lv (.int 0 :: st) h nc ns) := am_u e_129_1171
theorem e_129_1172 : pg_code 129 1172 = some (.laload, 1, 0, 0) := by decide +kernel
theorem u_129_1172 {a : Nat} {j : Int32} {lv : am_L} {st : List Value} : am_W G (am_M G d) 129 K 1172 lv (.int j :: .ref a :: st) h nc ns = (f_la G d 129 K 1173 lv st h nc ns (h a) j) := am_u e_129_1172
theorem e_129_1173 : pg_code 129 1173 = some (.iload 6, 2, 0, 0) := by decide +kernel
theorem u_129_1173 {a : Int32} {z0 : Option Value} {z1 : Option Value} {z2 : Option Value} {z3 : Option Value} {z4 : Option Value} {z5 : Option Value} {lv : am_L} {st : List Value} : am_W G (am_M G d) 129 K 1173 (z0 :: z1 :: z2 :: z3 :: z4 :: z5 :: some (.int a) :: lv) st h nc ns = (am_W G (am_M G d) 129 K 1175 (z0 :: z1 :: z2 :: z3 :: z4 :: z5 :: some (.int a) :: lv) (.int a :: st) h nc ns) := am_u e_129_1173
theorem e_129_1175 : pg_code 129 1175 = some (.i2l, 1, 0, 0) := by decide +kernel
theorem u_129_1175 {a : Int32} {lv : am_L} {st : List Value} : am_W G (am_M G d) 129 K 1175 lv (.int a :: st) h nc ns = (am_W G (am_M G d) 129 K 1176 lv (.long a.toInt64 :: st) h nc ns) := am_u e_129_1175
theorem e_129_1176 : pg_code 129 1176 = some (.lcmp, 1, 0, 0) := by decide +kernel
theorem u_129_1176 {a b : Int64} {lv : am_L} {st : List Value} : am_W G (am_M G d) 129 K 1176 lv (.long b :: .long a :: st) h nc ns = (am_W G (am_M G d) 129 K 1177 lv (.int (lg_cmp a b) :: st) h nc ns) := am_u e_129_1176
theorem e_129_1177 : pg_code 129 1177 = some (.ifCond .eq 5, 3, 1182, 0) := by decide +kernel
theorem u_129_1177 {a : Int32} {lv : am_L} {st : List Value} : am_W G (am_M G d) 129 K 1177 lv (.int a :: st) h nc ns = (am_br (a = 0) (am_W G (am_M G d) 129 K 1182 lv st h nc ns) (am_W G (am_M G d) 129 K 1180 lv st h nc ns)) := am_u e_129_1177
theorem e_129_1180 : pg_code 129 1180 = some (.iconst 0, 1, 0, 0) := by decide +kernel
theorem u_129_1180 {lv : am_L} {st : List Value} : am_W G (am_M G d) 129 K 1180 lv st h nc ns = (am_W G (am_M G d) 129 K 1181 lv (.int 0 :: st) h nc ns) := am_u e_129_1180
theorem e_129_1181 : pg_code 129 1181 = some (.ireturn, 1, 0, 0) := by decide +kernel
theorem u_129_1181 {a : Int32} {lv : am_L} : am_W G (am_M G d) 129 K 1181 lv [.int a] h nc ns = (narrow .boolean (.int a) = .int a ∧ K (.inl (some (.int a))) h) := (am_u e_129_1181).trans (f_z_eq rfl)
theorem e_129_1182 : pg_code 129 1182 = some (.goto 97, 3, 1279, 0) := by decide +kernel
theorem u_129_1182 {lv : am_L} {st : List Value} : am_W G (am_M G d) 129 K 1182 lv st h nc ns = (am_W G (am_M G d) 129 K 1279 lv st h nc ns) := am_u e_129_1182
theorem e_129_1185 : pg_code 129 1185 = some (.aload_n 1, 1, 0, 0) := by decide +kernel
theorem u_129_1185 {a : Nat} {z0 : Option Value} {lv : am_L} {st : List Value} : am_W G (am_M G d) 129 K 1185 (z0 :: some (.ref a) :: lv) st h nc ns = (am_W G (am_M G d) 129 K 1186 (z0 :: some (.ref a) :: lv) (.ref a :: st) h nc ns) := am_u e_129_1185
theorem e_129_1186 : pg_code 129 1186 = some (.invokevirtual 143, 3, 34, 1) := by decide +kernel
theorem u_129_1186 {a : Nat} {lv : am_L} {st : List Value} : am_W G (am_M G d) 129 K 1186 lv (.ref a :: st) h nc ns = ((am_words st ≤ 8 ∧ nc + 0 ≤ 601024 ∧ ns + 0 ≤ 7293034 ∧ f_rc (h a) 0) ∧ am_M G d 34 [.ref a] h (am_back 129 K (am_W G (am_M G d) 129 K) 34 1186 lv st nc ns)) := (am_u e_129_1186).trans (f_iv_eq (a := a) (G := G) (d := d) (k := 129) (K := K) (pc := 1186) (lv := lv) (st := st) (h := h) (nc := nc) (ns := ns) (x := 34) (X := am_W G (am_M G d) 129 K) [] (by decide) rfl)
theorem e_129_1189 : pg_code 129 1189 = some (.aload_n 2, 1, 0, 0) := by decide +kernel
theorem u_129_1189 {a : Nat} {z0 : Option Value} {z1 : Option Value} {lv : am_L} {st : List Value} : am_W G (am_M G d) 129 K 1189 (z0 :: z1 :: some (.ref a) :: lv) st h nc ns = (am_W G (am_M G d) 129 K 1190 (z0 :: z1 :: some (.ref a) :: lv) (.ref a :: st) h nc ns) := am_u e_129_1189
theorem e_129_1190 : pg_code 129 1190 = some (.invokevirtual 146, 3, 124, 1) := by decide +kernel
theorem u_129_1190 {a : Nat} {lv : am_L} {st : List Value} : am_W G (am_M G d) 129 K 1190 lv (.ref a :: st) h nc ns = ((am_words st ≤ 8 ∧ nc + 0 ≤ 601024 ∧ ns + 0 ≤ 7293034 ∧ f_rc (h a) 7) ∧ am_M G d 124 [.ref a] h (am_back 129 K (am_W G (am_M G d) 129 K) 124 1190 lv st nc ns)) := (am_u e_129_1190).trans (f_iv_eq (a := a) (G := G) (d := d) (k := 129) (K := K) (pc := 1190) (lv := lv) (st := st) (h := h) (nc := nc) (ns := ns) (x := 124) (X := am_W G (am_M G d) 129 K) [] (by decide) rfl)
theorem e_129_1193 : pg_code 129 1193 = some (.if_icmp .eq 86, 3, 1279, 0) := by decide +kernel
theorem u_129_1193 {a b : Int32} {lv : am_L} {st : List Value} : am_W G (am_M G d) 129 K 1193 lv (.int b :: .int a :: st) h nc ns = (am_br (a = b) (am_W G (am_M G d) 129 K 1279 lv st h nc ns) (am_W G (am_M G d) 129 K 1196 lv st h nc ns)) := am_u e_129_1193
theorem e_129_1196 : pg_code 129 1196 = some (.iconst 0, 1, 0, 0) := by decide +kernel
theorem u_129_1196 {lv : am_L} {st : List Value} : am_W G (am_M G d) 129 K 1196 lv st h nc ns = (am_W G (am_M G d) 129 K 1197 lv (.int 0 :: st) h nc ns) := am_u e_129_1196
theorem e_129_1197 : pg_code 129 1197 = some (.ireturn, 1, 0, 0) := by decide +kernel
theorem u_129_1197 {a : Int32} {lv : am_L} : am_W G (am_M G d) 129 K 1197 lv [.int a] h nc ns = (narrow .boolean (.int a) = .int a ∧ K (.inl (some (.int a))) h) := (am_u e_129_1197).trans (f_z_eq rfl)
theorem e_129_1198 : pg_code 129 1198 = some (.aload_n 1, 1, 0, 0) := by decide +kernel
theorem u_129_1198 {a : Nat} {z0 : Option Value} {lv : am_L} {st : List Value} : am_W G (am_M G d) 129 K 1198 (z0 :: some (.ref a) :: lv) st h nc ns = (am_W G (am_M G d) 129 K 1199 (z0 :: some (.ref a) :: lv) (.ref a :: st) h nc ns) := am_u e_129_1198
theorem e_129_1199 : pg_code 129 1199 = some (.aload_n 0, 1, 0, 0) := by decide +kernel
theorem u_129_1199 {a : Nat} {lv : am_L} {st : List Value} : am_W G (am_M G d) 129 K 1199 (some (.ref a) :: lv) st h nc ns = (am_W G (am_M G d) 129 K 1200 (some (.ref a) :: lv) (.ref a :: st) h nc ns) := am_u e_129_1199
theorem e_129_1200 : pg_code 129 1200 = some (.iload 4, 2, 0, 0) := by decide +kernel
theorem u_129_1200 {a : Int32} {z0 : Option Value} {z1 : Option Value} {z2 : Option Value} {z3 : Option Value} {lv : am_L} {st : List Value} : am_W G (am_M G d) 129 K 1200 (z0 :: z1 :: z2 :: z3 :: some (.int a) :: lv) st h nc ns = (am_W G (am_M G d) 129 K 1202 (z0 :: z1 :: z2 :: z3 :: some (.int a) :: lv) (.int a :: st) h nc ns) := am_u e_129_1200
theorem e_129_1202 : pg_code 129 1202 = some (.iconst 1, 1, 0, 0) := by decide +kernel
theorem u_129_1202 {lv : am_L} {st : List Value} : am_W G (am_M G d) 129 K 1202 lv st h nc ns = (am_W G (am_M G d) 129 K 1203 lv (.int 1 :: st) h nc ns) := am_u e_129_1202
theorem e_129_1203 : pg_code 129 1203 = some (.iadd, 1, 0, 0) := by decide +kernel
theorem u_129_1203 {a b : Int32} {lv : am_L} {st : List Value} : am_W G (am_M G d) 129 K 1203 lv (.int b :: .int a :: st) h nc ns = (am_W G (am_M G d) 129 K 1204 lv (.int (a + b) :: st) h nc ns) := am_u e_129_1203
theorem e_129_1204 : pg_code 129 1204 = some (.iaload, 1, 1, 0) := by decide +kernel
theorem u_129_1204 {a : Nat} {j : Int32} {lv : am_L} {st : List Value} : am_W G (am_M G d) 129 K 1204 lv (.int j :: .ref a :: st) h nc ns = ((a = G.1 ∧ vp_in j G.2.1) ∧ am_W G (am_M G d) 129 K 1205 lv (.int (G.2.2 j.toNatClampNeg) :: st) h nc ns) := am_u e_129_1204
theorem e_129_1205 : pg_code 129 1205 = some (.aload_n 3, 1, 0, 0) := by decide +kernel
theorem u_129_1205 {a : Nat} {z0 : Option Value} {z1 : Option Value} {z2 : Option Value} {lv : am_L} {st : List Value} : am_W G (am_M G d) 129 K 1205 (z0 :: z1 :: z2 :: some (.ref a) :: lv) st h nc ns = (am_W G (am_M G d) 129 K 1206 (z0 :: z1 :: z2 :: some (.ref a) :: lv) (.ref a :: st) h nc ns) := am_u e_129_1205
theorem e_129_1206 : pg_code 129 1206 = some (.invokestatic 147, 3, 80, 3) := by decide +kernel
theorem u_129_1206 {v0 v1 v2 : Value} {lv : am_L} {st : List Value} : am_W G (am_M G d) 129 K 1206 lv (v2 :: v1 :: v0 :: st) h nc ns = ((am_words st ≤ 8 ∧ nc + 1 ≤ 601024 ∧ ns + 6 ≤ 7293034) ∧ am_M G d 80 [v0, v1, v2] h (am_back 129 K (am_W G (am_M G d) 129 K) 80 1206 lv st nc ns)) := (am_u e_129_1206).trans (f_st_eq (G := G) (d := d) (k := 129) (K := K) (pc := 1206) (lv := lv) (st := st) (h := h) (nc := nc) (ns := ns) (x := 80) (X := am_W G (am_M G d) 129 K) [v0, v1, v2] (by decide) rfl)
theorem e_129_1209 : pg_code 129 1209 = some (.istore 5, 2, 0, 0) := by decide +kernel
theorem u_129_1209 {a : Int32} {lv : am_L} {st : List Value} : am_W G (am_M G d) 129 K 1209 lv (.int a :: st) h nc ns = (am_W G (am_M G d) 129 K 1211 (am_st1 lv 5 (.int a)) st h nc ns) := (am_u e_129_1209).trans (f_t (by decide +kernel))
theorem e_129_1211 : pg_code 129 1211 = some (.aload_n 2, 1, 0, 0) := by decide +kernel
theorem u_129_1211 {a : Nat} {z0 : Option Value} {z1 : Option Value} {lv : am_L} {st : List Value} : am_W G (am_M G d) 129 K 1211 (z0 :: z1 :: some (.ref a) :: lv) st h nc ns = (am_W G (am_M G d) 129 K 1212 (z0 :: z1 :: some (.ref a) :: lv) (.ref a :: st) h nc ns) := am_u e_129_1211
theorem e_129_1212 : pg_code 129 1212 = some (.aload_n 0, 1, 0, 0) := by decide +kernel
theorem u_129_1212 {a : Nat} {lv : am_L} {st : List Value} : am_W G (am_M G d) 129 K 1212 (some (.ref a) :: lv) st h nc ns = (am_W G (am_M G d) 129 K 1213 (some (.ref a) :: lv) (.ref a :: st) h nc ns) := am_u e_129_1212
theorem e_129_1213 : pg_code 129 1213 = some (.iload 4, 2, 0, 0) := by decide +kernel
theorem u_129_1213 {a : Int32} {z0 : Option Value} {z1 : Option Value} {z2 : Option Value} {z3 : Option Value} {lv : am_L} {st : List Value} : am_W G (am_M G d) 129 K 1213 (z0 :: z1 :: z2 :: z3 :: some (.int a) :: lv) st h nc ns = (am_W G (am_M G d) 129 K 1215 (z0 :: z1 :: z2 :: z3 :: some (.int a) :: lv) (.int a :: st) h nc ns) := am_u e_129_1213
theorem e_129_1215 : pg_code 129 1215 = some (.iconst 1, 1, 0, 0) := by decide +kernel
theorem u_129_1215 {lv : am_L} {st : List Value} : am_W G (am_M G d) 129 K 1215 lv st h nc ns = (am_W G (am_M G d) 129 K 1216 lv (.int 1 :: st) h nc ns) := am_u e_129_1215
theorem e_129_1216 : pg_code 129 1216 = some (.iadd, 1, 0, 0) := by decide +kernel
theorem u_129_1216 {a b : Int32} {lv : am_L} {st : List Value} : am_W G (am_M G d) 129 K 1216 lv (.int b :: .int a :: st) h nc ns = (am_W G (am_M G d) 129 K 1217 lv (.int (a + b) :: st) h nc ns) := am_u e_129_1216
theorem e_129_1217 : pg_code 129 1217 = some (.iaload, 1, 1, 0) := by decide +kernel
theorem u_129_1217 {a : Nat} {j : Int32} {lv : am_L} {st : List Value} : am_W G (am_M G d) 129 K 1217 lv (.int j :: .ref a :: st) h nc ns = ((a = G.1 ∧ vp_in j G.2.1) ∧ am_W G (am_M G d) 129 K 1218 lv (.int (G.2.2 j.toNatClampNeg) :: st) h nc ns) := am_u e_129_1217
theorem e_129_1218 : pg_code 129 1218 = some (.invokevirtual 149, 3, 127, 2) := by decide +kernel
theorem u_129_1218 {a : Nat} {v0 : Value} {lv : am_L} {st : List Value} : am_W G (am_M G d) 129 K 1218 lv (v0 :: .ref a :: st) h nc ns = ((am_words st ≤ 8 ∧ nc + 0 ≤ 601024 ∧ ns + 0 ≤ 7293034 ∧ f_rc (h a) 7) ∧ am_M G d 127 [.ref a, v0] h (am_back 129 K (am_W G (am_M G d) 129 K) 127 1218 lv st nc ns)) := (am_u e_129_1218).trans (f_iv_eq (a := a) (G := G) (d := d) (k := 129) (K := K) (pc := 1218) (lv := lv) (st := st) (h := h) (nc := nc) (ns := ns) (x := 127) (X := am_W G (am_M G d) 129 K) [v0] (by decide) rfl)
theorem e_129_1221 : pg_code 129 1221 = some (.istore 6, 2, 0, 0) := by decide +kernel
theorem u_129_1221 {a : Int32} {lv : am_L} {st : List Value} : am_W G (am_M G d) 129 K 1221 lv (.int a :: st) h nc ns = (am_W G (am_M G d) 129 K 1223 (am_st1 lv 6 (.int a)) st h nc ns) := (am_u e_129_1221).trans (f_t (by decide +kernel))
theorem e_129_1223 : pg_code 129 1223 = some (.aload_n 2, 1, 0, 0) := by decide +kernel
theorem u_129_1223 {a : Nat} {z0 : Option Value} {z1 : Option Value} {lv : am_L} {st : List Value} : am_W G (am_M G d) 129 K 1223 (z0 :: z1 :: some (.ref a) :: lv) st h nc ns = (am_W G (am_M G d) 129 K 1224 (z0 :: z1 :: some (.ref a) :: lv) (.ref a :: st) h nc ns) := am_u e_129_1223
theorem e_129_1224 : pg_code 129 1224 = some (.invokevirtual 84, 3, 83, 1) := by decide +kernel
theorem u_129_1224 {a : Nat} {lv : am_L} {st : List Value} : am_W G (am_M G d) 129 K 1224 lv (.ref a :: st) h nc ns = ((am_words st ≤ 8 ∧ nc + 0 ≤ 601024 ∧ ns + 0 ≤ 7293034 ∧ f_rc (h a) 7) ∧ am_M G d 83 [.ref a] h (am_back 129 K (am_W G (am_M G d) 129 K) 83 1224 lv st nc ns)) := (am_u e_129_1224).trans (f_iv_eq (a := a) (G := G) (d := d) (k := 129) (K := K) (pc := 1224) (lv := lv) (st := st) (h := h) (nc := nc) (ns := ns) (x := 83) (X := am_W G (am_M G d) 129 K) [] (by decide) rfl)
theorem e_129_1227 : pg_code 129 1227 = some (.iload 5, 2, 0, 0) := by decide +kernel
theorem u_129_1227 {a : Int32} {z0 : Option Value} {z1 : Option Value} {z2 : Option Value} {z3 : Option Value} {z4 : Option Value} {lv : am_L} {st : List Value} : am_W G (am_M G d) 129 K 1227 (z0 :: z1 :: z2 :: z3 :: z4 :: some (.int a) :: lv) st h nc ns = (am_W G (am_M G d) 129 K 1229 (z0 :: z1 :: z2 :: z3 :: z4 :: some (.int a) :: lv) (.int a :: st) h nc ns) := am_u e_129_1227
theorem e_129_1229 : pg_code 129 1229 = some (.if_icmp .eq 5, 3, 1234, 0) := by decide +kernel
theorem u_129_1229 {a b : Int32} {lv : am_L} {st : List Value} : am_W G (am_M G d) 129 K 1229 lv (.int b :: .int a :: st) h nc ns = (am_br (a = b) (am_W G (am_M G d) 129 K 1234 lv st h nc ns) (am_W G (am_M G d) 129 K 1232 lv st h nc ns)) := am_u e_129_1229
theorem e_129_1232 : pg_code 129 1232 = some (.iconst 0, 1, 0, 0) := by decide +kernel
theorem u_129_1232 {lv : am_L} {st : List Value} : am_W G (am_M G d) 129 K 1232 lv st h nc ns = (am_W G (am_M G d) 129 K 1233 lv (.int 0 :: st) h nc ns) := am_u e_129_1232
theorem e_129_1233 : pg_code 129 1233 = some (.ireturn, 1, 0, 0) := by decide +kernel
theorem u_129_1233 {a : Int32} {lv : am_L} : am_W G (am_M G d) 129 K 1233 lv [.int a] h nc ns = (narrow .boolean (.int a) = .int a ∧ K (.inl (some (.int a))) h) := (am_u e_129_1233).trans (f_z_eq rfl)
theorem e_129_1234 : pg_code 129 1234 = some (.iload 5, 2, 0, 0) := by decide +kernel
theorem u_129_1234 {a : Int32} {z0 : Option Value} {z1 : Option Value} {z2 : Option Value} {z3 : Option Value} {z4 : Option Value} {lv : am_L} {st : List Value} : am_W G (am_M G d) 129 K 1234 (z0 :: z1 :: z2 :: z3 :: z4 :: some (.int a) :: lv) st h nc ns = (am_W G (am_M G d) 129 K 1236 (z0 :: z1 :: z2 :: z3 :: z4 :: some (.int a) :: lv) (.int a :: st) h nc ns) := am_u e_129_1234
theorem e_129_1236 : pg_code 129 1236 = some (.ifCond .ne 15, 3, 1251, 0) := by decide +kernel
theorem u_129_1236 {a : Int32} {lv : am_L} {st : List Value} : am_W G (am_M G d) 129 K 1236 lv (.int a :: st) h nc ns = (am_br (¬ a = 0) (am_W G (am_M G d) 129 K 1251 lv st h nc ns) (am_W G (am_M G d) 129 K 1239 lv st h nc ns)) := am_u e_129_1236
theorem e_129_1239 : pg_code 129 1239 = some (.aload_n 3, 1, 0, 0) := by decide +kernel
theorem u_129_1239 {a : Nat} {z0 : Option Value} {z1 : Option Value} {z2 : Option Value} {lv : am_L} {st : List Value} : am_W G (am_M G d) 129 K 1239 (z0 :: z1 :: z2 :: some (.ref a) :: lv) st h nc ns = (am_W G (am_M G d) 129 K 1240 (z0 :: z1 :: z2 :: some (.ref a) :: lv) (.ref a :: st) h nc ns) := am_u e_129_1239
theorem e_129_1240 : pg_code 129 1240 = some (.iconst 0, 1, 0, 0) := by decide +kernel
theorem u_129_1240 {lv : am_L} {st : List Value} : am_W G (am_M G d) 129 K 1240 lv st h nc ns = (am_W G (am_M G d) 129 K 1241 lv (.int 0 :: st) h nc ns) := am_u e_129_1240
theorem e_129_1241 : pg_code 129 1241 = some (.laload, 1, 0, 0) := by decide +kernel
theorem u_129_1241 {a : Nat} {j : Int32} {lv : am_L} {st : List Value} : am_W G (am_M G d) 129 K 1241 lv (.int j :: .ref a :: st) h nc ns = (f_la G d 129 K 1242 lv st h nc ns (h a) j) := am_u e_129_1241
theorem e_129_1242 : pg_code 129 1242 = some (.iload 6, 2, 0, 0) := by decide +kernel
theorem u_129_1242 {a : Int32} {z0 : Option Value} {z1 : Option Value} {z2 : Option Value} {z3 : Option Value} {z4 : Option Value} {z5 : Option Value} {lv : am_L} {st : List Value} : am_W G (am_M G d) 129 K 1242 (z0 :: z1 :: z2 :: z3 :: z4 :: z5 :: some (.int a) :: lv) st h nc ns = (am_W G (am_M G d) 129 K 1244 (z0 :: z1 :: z2 :: z3 :: z4 :: z5 :: some (.int a) :: lv) (.int a :: st) h nc ns) := am_u e_129_1242
theorem e_129_1244 : pg_code 129 1244 = some (.i2l, 1, 0, 0) := by decide +kernel
theorem u_129_1244 {a : Int32} {lv : am_L} {st : List Value} : am_W G (am_M G d) 129 K 1244 lv (.int a :: st) h nc ns = (am_W G (am_M G d) 129 K 1245 lv (.long a.toInt64 :: st) h nc ns) := am_u e_129_1244
theorem e_129_1245 : pg_code 129 1245 = some (.lcmp, 1, 0, 0) := by decide +kernel
theorem u_129_1245 {a b : Int64} {lv : am_L} {st : List Value} : am_W G (am_M G d) 129 K 1245 lv (.long b :: .long a :: st) h nc ns = (am_W G (am_M G d) 129 K 1246 lv (.int (lg_cmp a b) :: st) h nc ns) := am_u e_129_1245
theorem e_129_1246 : pg_code 129 1246 = some (.ifCond .eq 5, 3, 1251, 0) := by decide +kernel
theorem u_129_1246 {a : Int32} {lv : am_L} {st : List Value} : am_W G (am_M G d) 129 K 1246 lv (.int a :: st) h nc ns = (am_br (a = 0) (am_W G (am_M G d) 129 K 1251 lv st h nc ns) (am_W G (am_M G d) 129 K 1249 lv st h nc ns)) := am_u e_129_1246
theorem e_129_1249 : pg_code 129 1249 = some (.iconst 0, 1, 0, 0) := by decide +kernel
theorem u_129_1249 {lv : am_L} {st : List Value} : am_W G (am_M G d) 129 K 1249 lv st h nc ns = (am_W G (am_M G d) 129 K 1250 lv (.int 0 :: st) h nc ns) := am_u e_129_1249
theorem e_129_1250 : pg_code 129 1250 = some (.ireturn, 1, 0, 0) := by decide +kernel
theorem u_129_1250 {a : Int32} {lv : am_L} : am_W G (am_M G d) 129 K 1250 lv [.int a] h nc ns = (narrow .boolean (.int a) = .int a ∧ K (.inl (some (.int a))) h) := (am_u e_129_1250).trans (f_z_eq rfl)
theorem e_129_1251 : pg_code 129 1251 = some (.goto 28, 3, 1279, 0) := by decide +kernel
theorem u_129_1251 {lv : am_L} {st : List Value} : am_W G (am_M G d) 129 K 1251 lv st h nc ns = (am_W G (am_M G d) 129 K 1279 lv st h nc ns) := am_u e_129_1251
theorem e_129_1254 : pg_code 129 1254 = some (.aload_n 1, 1, 0, 0) := by decide +kernel
theorem u_129_1254 {a : Nat} {z0 : Option Value} {lv : am_L} {st : List Value} : am_W G (am_M G d) 129 K 1254 (z0 :: some (.ref a) :: lv) st h nc ns = (am_W G (am_M G d) 129 K 1255 (z0 :: some (.ref a) :: lv) (.ref a :: st) h nc ns) := am_u e_129_1254
theorem e_129_1255 : pg_code 129 1255 = some (.aload_n 0, 1, 0, 0) := by decide +kernel
theorem u_129_1255 {a : Nat} {lv : am_L} {st : List Value} : am_W G (am_M G d) 129 K 1255 (some (.ref a) :: lv) st h nc ns = (am_W G (am_M G d) 129 K 1256 (some (.ref a) :: lv) (.ref a :: st) h nc ns) := am_u e_129_1255
theorem e_129_1256 : pg_code 129 1256 = some (.iload 4, 2, 0, 0) := by decide +kernel
theorem u_129_1256 {a : Int32} {z0 : Option Value} {z1 : Option Value} {z2 : Option Value} {z3 : Option Value} {lv : am_L} {st : List Value} : am_W G (am_M G d) 129 K 1256 (z0 :: z1 :: z2 :: z3 :: some (.int a) :: lv) st h nc ns = (am_W G (am_M G d) 129 K 1258 (z0 :: z1 :: z2 :: z3 :: some (.int a) :: lv) (.int a :: st) h nc ns) := am_u e_129_1256
theorem e_129_1258 : pg_code 129 1258 = some (.iconst 1, 1, 0, 0) := by decide +kernel
theorem u_129_1258 {lv : am_L} {st : List Value} : am_W G (am_M G d) 129 K 1258 lv st h nc ns = (am_W G (am_M G d) 129 K 1259 lv (.int 1 :: st) h nc ns) := am_u e_129_1258
theorem e_129_1259 : pg_code 129 1259 = some (.iadd, 1, 0, 0) := by decide +kernel
theorem u_129_1259 {a b : Int32} {lv : am_L} {st : List Value} : am_W G (am_M G d) 129 K 1259 lv (.int b :: .int a :: st) h nc ns = (am_W G (am_M G d) 129 K 1260 lv (.int (a + b) :: st) h nc ns) := am_u e_129_1259
theorem e_129_1260 : pg_code 129 1260 = some (.iaload, 1, 1, 0) := by decide +kernel
theorem u_129_1260 {a : Nat} {j : Int32} {lv : am_L} {st : List Value} : am_W G (am_M G d) 129 K 1260 lv (.int j :: .ref a :: st) h nc ns = ((a = G.1 ∧ vp_in j G.2.1) ∧ am_W G (am_M G d) 129 K 1261 lv (.int (G.2.2 j.toNatClampNeg) :: st) h nc ns) := am_u e_129_1260
theorem e_129_1261 : pg_code 129 1261 = some (.invokevirtual 150, 3, 35, 2) := by decide +kernel
theorem u_129_1261 {a : Nat} {v0 : Value} {lv : am_L} {st : List Value} : am_W G (am_M G d) 129 K 1261 lv (v0 :: .ref a :: st) h nc ns = ((am_words st ≤ 8 ∧ nc + 0 ≤ 601024 ∧ ns + 0 ≤ 7293034 ∧ f_rc (h a) 0) ∧ am_M G d 35 [.ref a, v0] h (am_back 129 K (am_W G (am_M G d) 129 K) 35 1261 lv st nc ns)) := (am_u e_129_1261).trans (f_iv_eq (a := a) (G := G) (d := d) (k := 129) (K := K) (pc := 1261) (lv := lv) (st := st) (h := h) (nc := nc) (ns := ns) (x := 35) (X := am_W G (am_M G d) 129 K) [v0] (by decide) rfl)
theorem e_129_1264 : pg_code 129 1264 = some (.aload_n 2, 1, 0, 0) := by decide +kernel
theorem u_129_1264 {a : Nat} {z0 : Option Value} {z1 : Option Value} {lv : am_L} {st : List Value} : am_W G (am_M G d) 129 K 1264 (z0 :: z1 :: some (.ref a) :: lv) st h nc ns = (am_W G (am_M G d) 129 K 1265 (z0 :: z1 :: some (.ref a) :: lv) (.ref a :: st) h nc ns) := am_u e_129_1264
theorem e_129_1265 : pg_code 129 1265 = some (.aload_n 0, 1, 0, 0) := by decide +kernel
theorem u_129_1265 {a : Nat} {lv : am_L} {st : List Value} : am_W G (am_M G d) 129 K 1265 (some (.ref a) :: lv) st h nc ns = (am_W G (am_M G d) 129 K 1266 (some (.ref a) :: lv) (.ref a :: st) h nc ns) := am_u e_129_1265
theorem e_129_1266 : pg_code 129 1266 = some (.iload 4, 2, 0, 0) := by decide +kernel
theorem u_129_1266 {a : Int32} {z0 : Option Value} {z1 : Option Value} {z2 : Option Value} {z3 : Option Value} {lv : am_L} {st : List Value} : am_W G (am_M G d) 129 K 1266 (z0 :: z1 :: z2 :: z3 :: some (.int a) :: lv) st h nc ns = (am_W G (am_M G d) 129 K 1268 (z0 :: z1 :: z2 :: z3 :: some (.int a) :: lv) (.int a :: st) h nc ns) := am_u e_129_1266
theorem e_129_1268 : pg_code 129 1268 = some (.iconst 1, 1, 0, 0) := by decide +kernel
theorem u_129_1268 {lv : am_L} {st : List Value} : am_W G (am_M G d) 129 K 1268 lv st h nc ns = (am_W G (am_M G d) 129 K 1269 lv (.int 1 :: st) h nc ns) := am_u e_129_1268
theorem e_129_1269 : pg_code 129 1269 = some (.iadd, 1, 0, 0) := by decide +kernel
theorem u_129_1269 {a b : Int32} {lv : am_L} {st : List Value} : am_W G (am_M G d) 129 K 1269 lv (.int b :: .int a :: st) h nc ns = (am_W G (am_M G d) 129 K 1270 lv (.int (a + b) :: st) h nc ns) := am_u e_129_1269
theorem e_129_1270 : pg_code 129 1270 = some (.iaload, 1, 1, 0) := by decide +kernel
theorem u_129_1270 {a : Nat} {j : Int32} {lv : am_L} {st : List Value} : am_W G (am_M G d) 129 K 1270 lv (.int j :: .ref a :: st) h nc ns = ((a = G.1 ∧ vp_in j G.2.1) ∧ am_W G (am_M G d) 129 K 1271 lv (.int (G.2.2 j.toNatClampNeg) :: st) h nc ns) := am_u e_129_1270
theorem e_129_1271 : pg_code 129 1271 = some (.invokevirtual 153, 3, 128, 2) := by decide +kernel
theorem u_129_1271 {a : Nat} {v0 : Value} {lv : am_L} {st : List Value} : am_W G (am_M G d) 129 K 1271 lv (v0 :: .ref a :: st) h nc ns = ((am_words st ≤ 8 ∧ nc + 0 ≤ 601024 ∧ ns + 0 ≤ 7293034 ∧ f_rc (h a) 7) ∧ am_M G d 128 [.ref a, v0] h (am_back 129 K (am_W G (am_M G d) 129 K) 128 1271 lv st nc ns)) := (am_u e_129_1271).trans (f_iv_eq (a := a) (G := G) (d := d) (k := 129) (K := K) (pc := 1271) (lv := lv) (st := st) (h := h) (nc := nc) (ns := ns) (x := 128) (X := am_W G (am_M G d) 129 K) [v0] (by decide) rfl)
theorem e_129_1274 : pg_code 129 1274 = some (.if_icmp .eq 5, 3, 1279, 0) := by decide +kernel
theorem u_129_1274 {a b : Int32} {lv : am_L} {st : List Value} : am_W G (am_M G d) 129 K 1274 lv (.int b :: .int a :: st) h nc ns = (am_br (a = b) (am_W G (am_M G d) 129 K 1279 lv st h nc ns) (am_W G (am_M G d) 129 K 1277 lv st h nc ns)) := am_u e_129_1274
theorem e_129_1277 : pg_code 129 1277 = some (.iconst 0, 1, 0, 0) := by decide +kernel
theorem u_129_1277 {lv : am_L} {st : List Value} : am_W G (am_M G d) 129 K 1277 lv st h nc ns = (am_W G (am_M G d) 129 K 1278 lv (.int 0 :: st) h nc ns) := am_u e_129_1277
theorem e_129_1278 : pg_code 129 1278 = some (.ireturn, 1, 0, 0) := by decide +kernel
theorem u_129_1278 {a : Int32} {lv : am_L} : am_W G (am_M G d) 129 K 1278 lv [.int a] h nc ns = (narrow .boolean (.int a) = .int a ∧ K (.inl (some (.int a))) h) := (am_u e_129_1278).trans (f_z_eq rfl)
theorem e_129_1279 : pg_code 129 1279 = some (.iinc 4 6, 3, 0, 0) := by decide +kernel
theorem u_129_1279 {a : Int32} {z0 : Option Value} {z1 : Option Value} {z2 : Option Value} {z3 : Option Value} {lv : am_L} {st : List Value} : am_W G (am_M G d) 129 K 1279 (z0 :: z1 :: z2 :: z3 :: some (.int a) :: lv) st h nc ns = (am_W G (am_M G d) 129 K 1282 (am_st1 (z0 :: z1 :: z2 :: z3 :: some (.int a) :: lv) 4 (.int (a + Int32.ofInt 6))) st h nc ns) := (am_u e_129_1279).trans (f_t (by decide +kernel))
theorem e_129_1282 : pg_code 129 1282 = some (.goto (-1259), 3, 23, 0) := by decide +kernel
theorem u_129_1282 {lv : am_L} {st : List Value} : am_W G (am_M G d) 129 K 1282 lv st h nc ns = (am_W G (am_M G d) 129 K 23 lv st h nc ns) := am_u e_129_1282
theorem e_129_1285 : pg_code 129 1285 = some (.iconst 1, 1, 0, 0) := by decide +kernel
theorem u_129_1285 {lv : am_L} {st : List Value} : am_W G (am_M G d) 129 K 1285 lv st h nc ns = (am_W G (am_M G d) 129 K 1286 lv (.int 1 :: st) h nc ns) := am_u e_129_1285
theorem e_129_1286 : pg_code 129 1286 = some (.ireturn, 1, 0, 0) := by decide +kernel
theorem u_129_1286 {a : Int32} {lv : am_L} : am_W G (am_M G d) 129 K 1286 lv [.int a] h nc ns = (narrow .boolean (.int a) = .int a ∧ K (.inl (some (.int a))) h) := (am_u e_129_1286).trans (f_z_eq rfl)
end Steps

-- PRINTED by wip/whole/gen.py: a row an instruction: where the machine stands behind it
section Steps
variable {G : am_G} {d : Nat} {K : am_K} {h : am_H} {nc ns : Nat}
theorem e_0_0 : pg_code 0 0 = some (.aload_n 0, 1, 0, 0) := by decide +kernel
theorem u_0_0 {a : Nat} {lv : am_L} {st : List Value} : am_W G (am_M G d) 0 K 0 (some (.ref a) :: lv) st h nc ns = (am_W G (am_M G d) 0 K 1 (some (.ref a) :: lv) (.ref a :: st) h nc ns) := am_u e_0_0
theorem e_0_1 : pg_code 0 1 = some (.invokespecial 1, 3, 900, 1) := by decide +kernel
theorem u_0_1 {a : Nat} {lv : am_L} {st : List Value} : am_W G (am_M G d) 0 K 1 lv (.ref a :: st) h nc ns = (am_words st ≤ 8 ∧ am_W G (am_M G d) 0 K 4 lv st h nc ns) := am_u e_0_1
theorem e_0_4 : pg_code 0 4 = some (.new 7, 3, 2, 0) := by decide +kernel
theorem e_0_7 : pg_code 0 7 = some (.dup, 1, 0, 0) := by decide +kernel
theorem u_0_7 {a : Nat} {lv : am_L} {st : List Value} : am_W G (am_M G d) 0 K 7 lv (.ref a :: st) h nc ns = (am_W G (am_M G d) 0 K 8 lv (.ref a :: .ref a :: st) h nc ns) := (am_u e_0_7).trans (f_t rfl)
theorem e_0_8 : pg_code 0 8 = some (.invokespecial 9, 3, 1, 1) := by decide +kernel
theorem u_0_8 {a : Nat} {lv : am_L} {st : List Value} : am_W G (am_M G d) 0 K 8 lv (.ref a :: st) h nc ns = ((am_words st ≤ 8 ∧ nc + 3 ≤ 321 ∧ ns + 450 ≤ 36713 ∧ f_rc (h a) 2) ∧ am_M G d 1 [.ref a] h (am_back 0 K (am_W G (am_M G d) 0 K) 1 8 lv st nc ns)) := (am_u e_0_8).trans (f_iv_eq (a := a) (G := G) (d := d) (k := 0) (K := K) (pc := 8) (lv := lv) (st := st) (h := h) (nc := nc) (ns := ns) (x := 1) (X := am_W G (am_M G d) 0 K) [] (by decide) rfl)
theorem e_0_11 : pg_code 0 11 = some (.astore_n 1, 1, 0, 0) := by decide +kernel
theorem u_0_11 {a : Nat} {lv : am_L} {st : List Value} : am_W G (am_M G d) 0 K 11 lv (.ref a :: st) h nc ns = (am_W G (am_M G d) 0 K 12 (am_st1 lv 1 (.ref a)) st h nc ns) := (am_u e_0_11).trans (f_t (by decide +kernel))
theorem e_0_12 : pg_code 0 12 = some (.aload_n 0, 1, 0, 0) := by decide +kernel
theorem u_0_12 {a : Nat} {lv : am_L} {st : List Value} : am_W G (am_M G d) 0 K 12 (some (.ref a) :: lv) st h nc ns = (am_W G (am_M G d) 0 K 13 (some (.ref a) :: lv) (.ref a :: st) h nc ns) := am_u e_0_12
theorem e_0_13 : pg_code 0 13 = some (.new 10, 3, 5, 0) := by decide +kernel
theorem e_0_16 : pg_code 0 16 = some (.dup, 1, 0, 0) := by decide +kernel
theorem u_0_16 {a : Nat} {lv : am_L} {st : List Value} : am_W G (am_M G d) 0 K 16 lv (.ref a :: st) h nc ns = (am_W G (am_M G d) 0 K 17 lv (.ref a :: .ref a :: st) h nc ns) := (am_u e_0_16).trans (f_t rfl)
theorem e_0_17 : pg_code 0 17 = some (.aload_n 1, 1, 0, 0) := by decide +kernel
theorem u_0_17 {a : Nat} {z0 : Option Value} {lv : am_L} {st : List Value} : am_W G (am_M G d) 0 K 17 (z0 :: some (.ref a) :: lv) st h nc ns = (am_W G (am_M G d) 0 K 18 (z0 :: some (.ref a) :: lv) (.ref a :: st) h nc ns) := am_u e_0_17
theorem e_0_18 : pg_code 0 18 = some (.invokespecial 12, 3, 2, 2) := by decide +kernel
theorem u_0_18 {a : Nat} {v0 : Value} {lv : am_L} {st : List Value} : am_W G (am_M G d) 0 K 18 lv (v0 :: .ref a :: st) h nc ns = ((am_words st ≤ 8 ∧ nc + 11 ≤ 321 ∧ ns + 1414 ≤ 36713 ∧ f_rc (h a) 5) ∧ am_M G d 2 [.ref a, v0] h (am_back 0 K (am_W G (am_M G d) 0 K) 2 18 lv st nc ns)) := (am_u e_0_18).trans (f_iv_eq (a := a) (G := G) (d := d) (k := 0) (K := K) (pc := 18) (lv := lv) (st := st) (h := h) (nc := nc) (ns := ns) (x := 2) (X := am_W G (am_M G d) 0 K) [v0] (by decide) rfl)
theorem e_0_21 : pg_code 0 21 = some (.putfield 15, 3, 0, 0) := by decide +kernel
theorem u_0_21 {a b : Nat} {lv : am_L} {st : List Value} : am_W G (am_M G d) 0 K 21 lv (.ref b :: .ref a :: st) h nc ns = (f_pf G d 0 K 24 lv st h nc ns (h a) 0 0 a (.ref b)) := (am_u e_0_21).trans (f_pf_eq ⟨rfl, rfl⟩)
theorem e_0_24 : pg_code 0 24 = some (.aload_n 0, 1, 0, 0) := by decide +kernel
theorem u_0_24 {a : Nat} {lv : am_L} {st : List Value} : am_W G (am_M G d) 0 K 24 (some (.ref a) :: lv) st h nc ns = (am_W G (am_M G d) 0 K 25 (some (.ref a) :: lv) (.ref a :: st) h nc ns) := am_u e_0_24
theorem e_0_25 : pg_code 0 25 = some (.new 21, 3, 3, 0) := by decide +kernel
theorem e_0_28 : pg_code 0 28 = some (.dup, 1, 0, 0) := by decide +kernel
theorem u_0_28 {a : Nat} {lv : am_L} {st : List Value} : am_W G (am_M G d) 0 K 28 lv (.ref a :: st) h nc ns = (am_W G (am_M G d) 0 K 29 lv (.ref a :: .ref a :: st) h nc ns) := (am_u e_0_28).trans (f_t rfl)
theorem e_0_29 : pg_code 0 29 = some (.invokespecial 23, 3, 3, 1) := by decide +kernel
theorem u_0_29 {a : Nat} {lv : am_L} {st : List Value} : am_W G (am_M G d) 0 K 29 lv (.ref a :: st) h nc ns = ((am_words st ≤ 8 ∧ nc + 257 ≤ 321 ∧ ns + 30064 ≤ 36713 ∧ f_rc (h a) 3) ∧ am_M G d 3 [.ref a] h (am_back 0 K (am_W G (am_M G d) 0 K) 3 29 lv st nc ns)) := (am_u e_0_29).trans (f_iv_eq (a := a) (G := G) (d := d) (k := 0) (K := K) (pc := 29) (lv := lv) (st := st) (h := h) (nc := nc) (ns := ns) (x := 3) (X := am_W G (am_M G d) 0 K) [] (by decide) rfl)
theorem e_0_32 : pg_code 0 32 = some (.putfield 24, 3, 0, 1) := by decide +kernel
theorem u_0_32 {a b : Nat} {lv : am_L} {st : List Value} : am_W G (am_M G d) 0 K 32 lv (.ref b :: .ref a :: st) h nc ns = (f_pf G d 0 K 35 lv st h nc ns (h a) 0 1 a (.ref b)) := (am_u e_0_32).trans (f_pf_eq ⟨rfl, rfl⟩)
theorem e_0_35 : pg_code 0 35 = some (.aload_n 0, 1, 0, 0) := by decide +kernel
theorem u_0_35 {a : Nat} {lv : am_L} {st : List Value} : am_W G (am_M G d) 0 K 35 (some (.ref a) :: lv) st h nc ns = (am_W G (am_M G d) 0 K 36 (some (.ref a) :: lv) (.ref a :: st) h nc ns) := am_u e_0_35
theorem e_0_36 : pg_code 0 36 = some (.new 28, 3, 4, 0) := by decide +kernel
theorem e_0_39 : pg_code 0 39 = some (.dup, 1, 0, 0) := by decide +kernel
theorem u_0_39 {a : Nat} {lv : am_L} {st : List Value} : am_W G (am_M G d) 0 K 39 lv (.ref a :: st) h nc ns = (am_W G (am_M G d) 0 K 40 lv (.ref a :: .ref a :: st) h nc ns) := (am_u e_0_39).trans (f_t rfl)
theorem e_0_40 : pg_code 0 40 = some (.aload_n 1, 1, 0, 0) := by decide +kernel
theorem u_0_40 {a : Nat} {z0 : Option Value} {lv : am_L} {st : List Value} : am_W G (am_M G d) 0 K 40 (z0 :: some (.ref a) :: lv) st h nc ns = (am_W G (am_M G d) 0 K 41 (z0 :: some (.ref a) :: lv) (.ref a :: st) h nc ns) := am_u e_0_40
theorem e_0_41 : pg_code 0 41 = some (.invokespecial 30, 3, 4, 2) := by decide +kernel
theorem u_0_41 {a : Nat} {v0 : Value} {lv : am_L} {st : List Value} : am_W G (am_M G d) 0 K 41 lv (v0 :: .ref a :: st) h nc ns = ((am_words st ≤ 8 ∧ nc + 8 ≤ 321 ∧ ns + 965 ≤ 36713 ∧ f_rc (h a) 4) ∧ am_M G d 4 [.ref a, v0] h (am_back 0 K (am_W G (am_M G d) 0 K) 4 41 lv st nc ns)) := (am_u e_0_41).trans (f_iv_eq (a := a) (G := G) (d := d) (k := 0) (K := K) (pc := 41) (lv := lv) (st := st) (h := h) (nc := nc) (ns := ns) (x := 4) (X := am_W G (am_M G d) 0 K) [v0] (by decide) rfl)
theorem e_0_44 : pg_code 0 44 = some (.putfield 31, 3, 0, 2) := by decide +kernel
theorem u_0_44 {a b : Nat} {lv : am_L} {st : List Value} : am_W G (am_M G d) 0 K 44 lv (.ref b :: .ref a :: st) h nc ns = (f_pf G d 0 K 47 lv st h nc ns (h a) 0 2 a (.ref b)) := (am_u e_0_44).trans (f_pf_eq ⟨rfl, rfl⟩)
theorem e_0_47 : pg_code 0 47 = some (.aload_n 0, 1, 0, 0) := by decide +kernel
theorem u_0_47 {a : Nat} {lv : am_L} {st : List Value} : am_W G (am_M G d) 0 K 47 (some (.ref a) :: lv) st h nc ns = (am_W G (am_M G d) 0 K 48 (some (.ref a) :: lv) (.ref a :: st) h nc ns) := am_u e_0_47
theorem e_0_48 : pg_code 0 48 = some (.iconst 4, 1, 0, 0) := by decide +kernel
theorem u_0_48 {lv : am_L} {st : List Value} : am_W G (am_M G d) 0 K 48 lv st h nc ns = (am_W G (am_M G d) 0 K 49 lv (.int 4 :: st) h nc ns) := am_u e_0_48
theorem e_0_49 : pg_code 0 49 = some (.anewarray 35, 3, 1, 0) := by decide +kernel
theorem e_0_52 : pg_code 0 52 = some (.putfield 37, 3, 0, 3) := by decide +kernel
theorem u_0_52 {a b : Nat} {lv : am_L} {st : List Value} : am_W G (am_M G d) 0 K 52 lv (.ref b :: .ref a :: st) h nc ns = (f_pf G d 0 K 55 lv st h nc ns (h a) 0 3 a (.ref b)) := (am_u e_0_52).trans (f_pf_eq ⟨rfl, rfl⟩)
theorem e_0_55 : pg_code 0 55 = some (.iconst 0, 1, 0, 0) := by decide +kernel
theorem u_0_55 {lv : am_L} {st : List Value} : am_W G (am_M G d) 0 K 55 lv st h nc ns = (am_W G (am_M G d) 0 K 56 lv (.int 0 :: st) h nc ns) := am_u e_0_55
theorem e_0_56 : pg_code 0 56 = some (.istore_n 2, 1, 0, 0) := by decide +kernel
theorem u_0_56 {a : Int32} {lv : am_L} {st : List Value} : am_W G (am_M G d) 0 K 56 lv (.int a :: st) h nc ns = (am_W G (am_M G d) 0 K 57 (am_st1 lv 2 (.int a)) st h nc ns) := (am_u e_0_56).trans (f_t (by decide +kernel))
theorem e_0_57 : pg_code 0 57 = some (.iload_n 2, 1, 0, 0) := by decide +kernel
theorem u_0_57 {a : Int32} {z0 : Option Value} {z1 : Option Value} {lv : am_L} {st : List Value} : am_W G (am_M G d) 0 K 57 (z0 :: z1 :: some (.int a) :: lv) st h nc ns = (am_W G (am_M G d) 0 K 58 (z0 :: z1 :: some (.int a) :: lv) (.int a :: st) h nc ns) := am_u e_0_57
theorem e_0_58 : pg_code 0 58 = some (.iconst 4, 1, 0, 0) := by decide +kernel
theorem u_0_58 {lv : am_L} {st : List Value} : am_W G (am_M G d) 0 K 58 lv st h nc ns = (am_W G (am_M G d) 0 K 59 lv (.int 4 :: st) h nc ns) := am_u e_0_58
theorem e_0_59 : pg_code 0 59 = some (.if_icmp .ge 22, 3, 81, 0) := by decide +kernel
theorem u_0_59 {a b : Int32} {lv : am_L} {st : List Value} : am_W G (am_M G d) 0 K 59 lv (.int b :: .int a :: st) h nc ns = (am_br (b ≤ a) (am_W G (am_M G d) 0 K 81 lv st h nc ns) (am_W G (am_M G d) 0 K 62 lv st h nc ns)) := am_u e_0_59
theorem e_0_62 : pg_code 0 62 = some (.aload_n 0, 1, 0, 0) := by decide +kernel
theorem u_0_62 {a : Nat} {lv : am_L} {st : List Value} : am_W G (am_M G d) 0 K 62 (some (.ref a) :: lv) st h nc ns = (am_W G (am_M G d) 0 K 63 (some (.ref a) :: lv) (.ref a :: st) h nc ns) := am_u e_0_62
theorem e_0_63 : pg_code 0 63 = some (.getfield 37, 3, 0, 3) := by decide +kernel
theorem u_0_63 {a : Nat} {lv : am_L} {st : List Value} : am_W G (am_M G d) 0 K 63 lv (.ref a :: st) h nc ns = (f_gf G d 0 K 66 lv st h nc ns (h a) 0 3) := am_u e_0_63
theorem e_0_66 : pg_code 0 66 = some (.iload_n 2, 1, 0, 0) := by decide +kernel
theorem u_0_66 {a : Int32} {z0 : Option Value} {z1 : Option Value} {lv : am_L} {st : List Value} : am_W G (am_M G d) 0 K 66 (z0 :: z1 :: some (.int a) :: lv) st h nc ns = (am_W G (am_M G d) 0 K 67 (z0 :: z1 :: some (.int a) :: lv) (.int a :: st) h nc ns) := am_u e_0_66
theorem e_0_67 : pg_code 0 67 = some (.new 35, 3, 1, 0) := by decide +kernel
theorem e_0_70 : pg_code 0 70 = some (.dup, 1, 0, 0) := by decide +kernel
theorem u_0_70 {a : Nat} {lv : am_L} {st : List Value} : am_W G (am_M G d) 0 K 70 lv (.ref a :: st) h nc ns = (am_W G (am_M G d) 0 K 71 lv (.ref a :: .ref a :: st) h nc ns) := (am_u e_0_70).trans (f_t rfl)
theorem e_0_71 : pg_code 0 71 = some (.invokespecial 41, 3, 6, 1) := by decide +kernel
theorem u_0_71 {a : Nat} {lv : am_L} {st : List Value} : am_W G (am_M G d) 0 K 71 lv (.ref a :: st) h nc ns = ((am_words st ≤ 8 ∧ nc + 8 ≤ 321 ∧ ns + 908 ≤ 36713 ∧ f_rc (h a) 1) ∧ am_M G d 6 [.ref a] h (am_back 0 K (am_W G (am_M G d) 0 K) 6 71 lv st nc ns)) := (am_u e_0_71).trans (f_iv_eq (a := a) (G := G) (d := d) (k := 0) (K := K) (pc := 71) (lv := lv) (st := st) (h := h) (nc := nc) (ns := ns) (x := 6) (X := am_W G (am_M G d) 0 K) [] (by decide) rfl)
theorem e_0_74 : pg_code 0 74 = some (.aastore, 1, 1, 0) := by decide +kernel
theorem e_0_75 : pg_code 0 75 = some (.iinc 2 1, 3, 0, 0) := by decide +kernel
theorem u_0_75 {a : Int32} {z0 : Option Value} {z1 : Option Value} {lv : am_L} {st : List Value} : am_W G (am_M G d) 0 K 75 (z0 :: z1 :: some (.int a) :: lv) st h nc ns = (am_W G (am_M G d) 0 K 78 (am_st1 (z0 :: z1 :: some (.int a) :: lv) 2 (.int (a + Int32.ofInt 1))) st h nc ns) := (am_u e_0_75).trans (f_t (by decide +kernel))
theorem e_0_78 : pg_code 0 78 = some (.goto (-21), 3, 57, 0) := by decide +kernel
theorem u_0_78 {lv : am_L} {st : List Value} : am_W G (am_M G d) 0 K 78 lv st h nc ns = (am_W G (am_M G d) 0 K 57 lv st h nc ns) := am_u e_0_78
theorem e_0_81 : pg_code 0 81 = some (.aload_n 0, 1, 0, 0) := by decide +kernel
theorem u_0_81 {a : Nat} {lv : am_L} {st : List Value} : am_W G (am_M G d) 0 K 81 (some (.ref a) :: lv) st h nc ns = (am_W G (am_M G d) 0 K 82 (some (.ref a) :: lv) (.ref a :: st) h nc ns) := am_u e_0_81
theorem e_0_82 : pg_code 0 82 = some (.sipush 150, 3, 0, 0) := by decide +kernel
theorem u_0_82 {lv : am_L} {st : List Value} : am_W G (am_M G d) 0 K 82 lv st h nc ns = (am_W G (am_M G d) 0 K 85 lv (.int 150 :: st) h nc ns) := am_u e_0_82
theorem e_0_85 : pg_code 0 85 = some (.newarray .int, 2, 0, 0) := by decide +kernel
theorem e_0_87 : pg_code 0 87 = some (.putfield 42, 3, 0, 5) := by decide +kernel
theorem u_0_87 {a b : Nat} {lv : am_L} {st : List Value} : am_W G (am_M G d) 0 K 87 lv (.ref b :: .ref a :: st) h nc ns = (f_pf G d 0 K 90 lv st h nc ns (h a) 0 5 a (.ref b)) := (am_u e_0_87).trans (f_pf_eq ⟨rfl, rfl⟩)
theorem e_0_90 : pg_code 0 90 = some (.return_, 1, 0, 0) := by decide +kernel
theorem u_0_90 {lv : am_L} : am_W G (am_M G d) 0 K 90 lv [] h nc ns = (K (.inl none) h) := (am_u e_0_90).trans (f_t ⟨rfl, rfl⟩)
theorem e_1_0 : pg_code 1 0 = some (.aload_n 0, 1, 0, 0) := by decide +kernel
theorem u_1_0 {a : Nat} {lv : am_L} {st : List Value} : am_W G (am_M G d) 1 K 0 (some (.ref a) :: lv) st h nc ns = (am_W G (am_M G d) 1 K 1 (some (.ref a) :: lv) (.ref a :: st) h nc ns) := am_u e_1_0
theorem e_1_1 : pg_code 1 1 = some (.invokespecial 3, 3, 900, 1) := by decide +kernel
theorem u_1_1 {a : Nat} {lv : am_L} {st : List Value} : am_W G (am_M G d) 1 K 1 lv (.ref a :: st) h nc ns = (am_words st ≤ 8 ∧ am_W G (am_M G d) 1 K 4 lv st h nc ns) := am_u e_1_1
theorem e_1_4 : pg_code 1 4 = some (.aload_n 0, 1, 0, 0) := by decide +kernel
theorem u_1_4 {a : Nat} {lv : am_L} {st : List Value} : am_W G (am_M G d) 1 K 4 (some (.ref a) :: lv) st h nc ns = (am_W G (am_M G d) 1 K 5 (some (.ref a) :: lv) (.ref a :: st) h nc ns) := am_u e_1_4
theorem e_1_5 : pg_code 1 5 = some (.sipush 150, 3, 0, 0) := by decide +kernel
theorem u_1_5 {lv : am_L} {st : List Value} : am_W G (am_M G d) 1 K 5 lv st h nc ns = (am_W G (am_M G d) 1 K 8 lv (.int 150 :: st) h nc ns) := am_u e_1_5
theorem e_1_8 : pg_code 1 8 = some (.newarray .int, 2, 0, 0) := by decide +kernel
theorem e_1_10 : pg_code 1 10 = some (.putfield 9, 3, 2, 0) := by decide +kernel
theorem u_1_10 {a b : Nat} {lv : am_L} {st : List Value} : am_W G (am_M G d) 1 K 10 lv (.ref b :: .ref a :: st) h nc ns = (f_pf G d 1 K 13 lv st h nc ns (h a) 2 0 a (.ref b)) := (am_u e_1_10).trans (f_pf_eq ⟨rfl, rfl⟩)
theorem e_1_13 : pg_code 1 13 = some (.aload_n 0, 1, 0, 0) := by decide +kernel
theorem u_1_13 {a : Nat} {lv : am_L} {st : List Value} : am_W G (am_M G d) 1 K 13 (some (.ref a) :: lv) st h nc ns = (am_W G (am_M G d) 1 K 14 (some (.ref a) :: lv) (.ref a :: st) h nc ns) := am_u e_1_13
theorem e_1_14 : pg_code 1 14 = some (.sipush 150, 3, 0, 0) := by decide +kernel
theorem u_1_14 {lv : am_L} {st : List Value} : am_W G (am_M G d) 1 K 14 lv st h nc ns = (am_W G (am_M G d) 1 K 17 lv (.int 150 :: st) h nc ns) := am_u e_1_14
theorem e_1_17 : pg_code 1 17 = some (.newarray .int, 2, 0, 0) := by decide +kernel
theorem e_1_19 : pg_code 1 19 = some (.putfield 15, 3, 2, 1) := by decide +kernel
theorem u_1_19 {a b : Nat} {lv : am_L} {st : List Value} : am_W G (am_M G d) 1 K 19 lv (.ref b :: .ref a :: st) h nc ns = (f_pf G d 1 K 22 lv st h nc ns (h a) 2 1 a (.ref b)) := (am_u e_1_19).trans (f_pf_eq ⟨rfl, rfl⟩)
theorem e_1_22 : pg_code 1 22 = some (.aload_n 0, 1, 0, 0) := by decide +kernel
theorem u_1_22 {a : Nat} {lv : am_L} {st : List Value} : am_W G (am_M G d) 1 K 22 (some (.ref a) :: lv) st h nc ns = (am_W G (am_M G d) 1 K 23 (some (.ref a) :: lv) (.ref a :: st) h nc ns) := am_u e_1_22
theorem e_1_23 : pg_code 1 23 = some (.sipush 150, 3, 0, 0) := by decide +kernel
theorem u_1_23 {lv : am_L} {st : List Value} : am_W G (am_M G d) 1 K 23 lv st h nc ns = (am_W G (am_M G d) 1 K 26 lv (.int 150 :: st) h nc ns) := am_u e_1_23
theorem e_1_26 : pg_code 1 26 = some (.newarray .int, 2, 0, 0) := by decide +kernel
theorem e_1_28 : pg_code 1 28 = some (.putfield 18, 3, 2, 2) := by decide +kernel
theorem u_1_28 {a b : Nat} {lv : am_L} {st : List Value} : am_W G (am_M G d) 1 K 28 lv (.ref b :: .ref a :: st) h nc ns = (f_pf G d 1 K 31 lv st h nc ns (h a) 2 2 a (.ref b)) := (am_u e_1_28).trans (f_pf_eq ⟨rfl, rfl⟩)
theorem e_1_31 : pg_code 1 31 = some (.return_, 1, 0, 0) := by decide +kernel
theorem u_1_31 {lv : am_L} : am_W G (am_M G d) 1 K 31 lv [] h nc ns = (K (.inl none) h) := (am_u e_1_31).trans (f_t ⟨rfl, rfl⟩)
theorem e_2_0 : pg_code 2 0 = some (.aload_n 0, 1, 0, 0) := by decide +kernel
theorem u_2_0 {a : Nat} {lv : am_L} {st : List Value} : am_W G (am_M G d) 2 K 0 (some (.ref a) :: lv) st h nc ns = (am_W G (am_M G d) 2 K 1 (some (.ref a) :: lv) (.ref a :: st) h nc ns) := am_u e_2_0
theorem e_2_1 : pg_code 2 1 = some (.invokespecial 3, 3, 900, 1) := by decide +kernel
theorem u_2_1 {a : Nat} {lv : am_L} {st : List Value} : am_W G (am_M G d) 2 K 1 lv (.ref a :: st) h nc ns = (am_words st ≤ 8 ∧ am_W G (am_M G d) 2 K 4 lv st h nc ns) := am_u e_2_1
theorem e_2_4 : pg_code 2 4 = some (.aload_n 0, 1, 0, 0) := by decide +kernel
theorem u_2_4 {a : Nat} {lv : am_L} {st : List Value} : am_W G (am_M G d) 2 K 4 (some (.ref a) :: lv) st h nc ns = (am_W G (am_M G d) 2 K 5 (some (.ref a) :: lv) (.ref a :: st) h nc ns) := am_u e_2_4
theorem e_2_5 : pg_code 2 5 = some (.bipush 60, 2, 0, 0) := by decide +kernel
theorem u_2_5 {lv : am_L} {st : List Value} : am_W G (am_M G d) 2 K 5 lv st h nc ns = (am_W G (am_M G d) 2 K 7 lv (.int 60 :: st) h nc ns) := am_u e_2_5
theorem e_2_7 : pg_code 2 7 = some (.newarray .long, 2, 0, 0) := by decide +kernel
theorem e_2_9 : pg_code 2 9 = some (.putfield 9, 3, 5, 1) := by decide +kernel
theorem u_2_9 {a b : Nat} {lv : am_L} {st : List Value} : am_W G (am_M G d) 2 K 9 lv (.ref b :: .ref a :: st) h nc ns = (f_pf G d 2 K 12 lv st h nc ns (h a) 5 1 a (.ref b)) := (am_u e_2_9).trans (f_pf_eq ⟨rfl, rfl⟩)
theorem e_2_12 : pg_code 2 12 = some (.aload_n 0, 1, 0, 0) := by decide +kernel
theorem u_2_12 {a : Nat} {lv : am_L} {st : List Value} : am_W G (am_M G d) 2 K 12 (some (.ref a) :: lv) st h nc ns = (am_W G (am_M G d) 2 K 13 (some (.ref a) :: lv) (.ref a :: st) h nc ns) := am_u e_2_12
theorem e_2_13 : pg_code 2 13 = some (.sipush 150, 3, 0, 0) := by decide +kernel
theorem u_2_13 {lv : am_L} {st : List Value} : am_W G (am_M G d) 2 K 13 lv st h nc ns = (am_W G (am_M G d) 2 K 16 lv (.int 150 :: st) h nc ns) := am_u e_2_13
theorem e_2_16 : pg_code 2 16 = some (.newarray .boolean, 2, 0, 0) := by decide +kernel
theorem e_2_18 : pg_code 2 18 = some (.putfield 15, 3, 5, 3) := by decide +kernel
theorem u_2_18 {a b : Nat} {lv : am_L} {st : List Value} : am_W G (am_M G d) 2 K 18 lv (.ref b :: .ref a :: st) h nc ns = (f_pf G d 2 K 21 lv st h nc ns (h a) 5 3 a (.ref b)) := (am_u e_2_18).trans (f_pf_eq ⟨rfl, rfl⟩)
theorem e_2_21 : pg_code 2 21 = some (.aload_n 0, 1, 0, 0) := by decide +kernel
theorem u_2_21 {a : Nat} {lv : am_L} {st : List Value} : am_W G (am_M G d) 2 K 21 (some (.ref a) :: lv) st h nc ns = (am_W G (am_M G d) 2 K 22 (some (.ref a) :: lv) (.ref a :: st) h nc ns) := am_u e_2_21
theorem e_2_22 : pg_code 2 22 = some (.sipush 150, 3, 0, 0) := by decide +kernel
theorem u_2_22 {lv : am_L} {st : List Value} : am_W G (am_M G d) 2 K 22 lv st h nc ns = (am_W G (am_M G d) 2 K 25 lv (.int 150 :: st) h nc ns) := am_u e_2_22
theorem e_2_25 : pg_code 2 25 = some (.newarray .int, 2, 0, 0) := by decide +kernel
theorem e_2_27 : pg_code 2 27 = some (.putfield 19, 3, 5, 4) := by decide +kernel
theorem u_2_27 {a b : Nat} {lv : am_L} {st : List Value} : am_W G (am_M G d) 2 K 27 lv (.ref b :: .ref a :: st) h nc ns = (f_pf G d 2 K 30 lv st h nc ns (h a) 5 4 a (.ref b)) := (am_u e_2_27).trans (f_pf_eq ⟨rfl, rfl⟩)
theorem e_2_30 : pg_code 2 30 = some (.aload_n 0, 1, 0, 0) := by decide +kernel
theorem u_2_30 {a : Nat} {lv : am_L} {st : List Value} : am_W G (am_M G d) 2 K 30 (some (.ref a) :: lv) st h nc ns = (am_W G (am_M G d) 2 K 31 (some (.ref a) :: lv) (.ref a :: st) h nc ns) := am_u e_2_30
theorem e_2_31 : pg_code 2 31 = some (.sipush 150, 3, 0, 0) := by decide +kernel
theorem u_2_31 {lv : am_L} {st : List Value} : am_W G (am_M G d) 2 K 31 lv st h nc ns = (am_W G (am_M G d) 2 K 34 lv (.int 150 :: st) h nc ns) := am_u e_2_31
theorem e_2_34 : pg_code 2 34 = some (.newarray .long, 2, 0, 0) := by decide +kernel
theorem e_2_36 : pg_code 2 36 = some (.putfield 23, 3, 5, 5) := by decide +kernel
theorem u_2_36 {a b : Nat} {lv : am_L} {st : List Value} : am_W G (am_M G d) 2 K 36 lv (.ref b :: .ref a :: st) h nc ns = (f_pf G d 2 K 39 lv st h nc ns (h a) 5 5 a (.ref b)) := (am_u e_2_36).trans (f_pf_eq ⟨rfl, rfl⟩)
theorem e_2_39 : pg_code 2 39 = some (.aload_n 0, 1, 0, 0) := by decide +kernel
theorem u_2_39 {a : Nat} {lv : am_L} {st : List Value} : am_W G (am_M G d) 2 K 39 (some (.ref a) :: lv) st h nc ns = (am_W G (am_M G d) 2 K 40 (some (.ref a) :: lv) (.ref a :: st) h nc ns) := am_u e_2_39
theorem e_2_40 : pg_code 2 40 = some (.new 26, 3, 2, 0) := by decide +kernel
theorem e_2_43 : pg_code 2 43 = some (.dup, 1, 0, 0) := by decide +kernel
theorem u_2_43 {a : Nat} {lv : am_L} {st : List Value} : am_W G (am_M G d) 2 K 43 lv (.ref a :: st) h nc ns = (am_W G (am_M G d) 2 K 44 lv (.ref a :: .ref a :: st) h nc ns) := (am_u e_2_43).trans (f_t rfl)
theorem e_2_44 : pg_code 2 44 = some (.invokespecial 28, 3, 1, 1) := by decide +kernel
theorem u_2_44 {a : Nat} {lv : am_L} {st : List Value} : am_W G (am_M G d) 2 K 44 lv (.ref a :: st) h nc ns = ((am_words st ≤ 8 ∧ nc + 3 ≤ 11 ∧ ns + 450 ≤ 1414 ∧ f_rc (h a) 2) ∧ am_M G d 1 [.ref a] h (am_back 2 K (am_W G (am_M G d) 2 K) 1 44 lv st nc ns)) := (am_u e_2_44).trans (f_iv_eq (a := a) (G := G) (d := d) (k := 2) (K := K) (pc := 44) (lv := lv) (st := st) (h := h) (nc := nc) (ns := ns) (x := 1) (X := am_W G (am_M G d) 2 K) [] (by decide) rfl)
theorem e_2_47 : pg_code 2 47 = some (.putfield 29, 3, 5, 6) := by decide +kernel
theorem u_2_47 {a b : Nat} {lv : am_L} {st : List Value} : am_W G (am_M G d) 2 K 47 lv (.ref b :: .ref a :: st) h nc ns = (f_pf G d 2 K 50 lv st h nc ns (h a) 5 6 a (.ref b)) := (am_u e_2_47).trans (f_pf_eq ⟨rfl, rfl⟩)
theorem e_2_50 : pg_code 2 50 = some (.aload_n 0, 1, 0, 0) := by decide +kernel
theorem u_2_50 {a : Nat} {lv : am_L} {st : List Value} : am_W G (am_M G d) 2 K 50 (some (.ref a) :: lv) st h nc ns = (am_W G (am_M G d) 2 K 51 (some (.ref a) :: lv) (.ref a :: st) h nc ns) := am_u e_2_50
theorem e_2_51 : pg_code 2 51 = some (.sipush 150, 3, 0, 0) := by decide +kernel
theorem u_2_51 {lv : am_L} {st : List Value} : am_W G (am_M G d) 2 K 51 lv st h nc ns = (am_W G (am_M G d) 2 K 54 lv (.int 150 :: st) h nc ns) := am_u e_2_51
theorem e_2_54 : pg_code 2 54 = some (.newarray .boolean, 2, 0, 0) := by decide +kernel
theorem e_2_56 : pg_code 2 56 = some (.putfield 33, 3, 5, 7) := by decide +kernel
theorem u_2_56 {a b : Nat} {lv : am_L} {st : List Value} : am_W G (am_M G d) 2 K 56 lv (.ref b :: .ref a :: st) h nc ns = (f_pf G d 2 K 59 lv st h nc ns (h a) 5 7 a (.ref b)) := (am_u e_2_56).trans (f_pf_eq ⟨rfl, rfl⟩)
theorem e_2_59 : pg_code 2 59 = some (.aload_n 0, 1, 0, 0) := by decide +kernel
theorem u_2_59 {a : Nat} {lv : am_L} {st : List Value} : am_W G (am_M G d) 2 K 59 (some (.ref a) :: lv) st h nc ns = (am_W G (am_M G d) 2 K 60 (some (.ref a) :: lv) (.ref a :: st) h nc ns) := am_u e_2_59
theorem e_2_60 : pg_code 2 60 = some (.sipush 150, 3, 0, 0) := by decide +kernel
theorem u_2_60 {lv : am_L} {st : List Value} : am_W G (am_M G d) 2 K 60 lv st h nc ns = (am_W G (am_M G d) 2 K 63 lv (.int 150 :: st) h nc ns) := am_u e_2_60
theorem e_2_63 : pg_code 2 63 = some (.newarray .long, 2, 0, 0) := by decide +kernel
theorem e_2_65 : pg_code 2 65 = some (.putfield 36, 3, 5, 8) := by decide +kernel
theorem u_2_65 {a b : Nat} {lv : am_L} {st : List Value} : am_W G (am_M G d) 2 K 65 lv (.ref b :: .ref a :: st) h nc ns = (f_pf G d 2 K 68 lv st h nc ns (h a) 5 8 a (.ref b)) := (am_u e_2_65).trans (f_pf_eq ⟨rfl, rfl⟩)
theorem e_2_68 : pg_code 2 68 = some (.aload_n 0, 1, 0, 0) := by decide +kernel
theorem u_2_68 {a : Nat} {lv : am_L} {st : List Value} : am_W G (am_M G d) 2 K 68 (some (.ref a) :: lv) st h nc ns = (am_W G (am_M G d) 2 K 69 (some (.ref a) :: lv) (.ref a :: st) h nc ns) := am_u e_2_68
theorem e_2_69 : pg_code 2 69 = some (.sipush 150, 3, 0, 0) := by decide +kernel
theorem u_2_69 {lv : am_L} {st : List Value} : am_W G (am_M G d) 2 K 69 lv st h nc ns = (am_W G (am_M G d) 2 K 72 lv (.int 150 :: st) h nc ns) := am_u e_2_69
theorem e_2_72 : pg_code 2 72 = some (.newarray .long, 2, 0, 0) := by decide +kernel
theorem e_2_74 : pg_code 2 74 = some (.putfield 39, 3, 5, 9) := by decide +kernel
theorem u_2_74 {a b : Nat} {lv : am_L} {st : List Value} : am_W G (am_M G d) 2 K 74 lv (.ref b :: .ref a :: st) h nc ns = (f_pf G d 2 K 77 lv st h nc ns (h a) 5 9 a (.ref b)) := (am_u e_2_74).trans (f_pf_eq ⟨rfl, rfl⟩)
theorem e_2_77 : pg_code 2 77 = some (.aload_n 0, 1, 0, 0) := by decide +kernel
theorem u_2_77 {a : Nat} {lv : am_L} {st : List Value} : am_W G (am_M G d) 2 K 77 (some (.ref a) :: lv) st h nc ns = (am_W G (am_M G d) 2 K 78 (some (.ref a) :: lv) (.ref a :: st) h nc ns) := am_u e_2_77
theorem e_2_78 : pg_code 2 78 = some (.aload_n 1, 1, 0, 0) := by decide +kernel
theorem u_2_78 {a : Nat} {z0 : Option Value} {lv : am_L} {st : List Value} : am_W G (am_M G d) 2 K 78 (z0 :: some (.ref a) :: lv) st h nc ns = (am_W G (am_M G d) 2 K 79 (z0 :: some (.ref a) :: lv) (.ref a :: st) h nc ns) := am_u e_2_78
theorem e_2_79 : pg_code 2 79 = some (.putfield 42, 3, 5, 0) := by decide +kernel
theorem u_2_79 {a b : Nat} {lv : am_L} {st : List Value} : am_W G (am_M G d) 2 K 79 lv (.ref b :: .ref a :: st) h nc ns = (f_pf G d 2 K 82 lv st h nc ns (h a) 5 0 a (.ref b)) := (am_u e_2_79).trans (f_pf_eq ⟨rfl, rfl⟩)
theorem e_2_82 : pg_code 2 82 = some (.return_, 1, 0, 0) := by decide +kernel
theorem u_2_82 {lv : am_L} : am_W G (am_M G d) 2 K 82 lv [] h nc ns = (K (.inl none) h) := (am_u e_2_82).trans (f_t ⟨rfl, rfl⟩)
theorem e_3_0 : pg_code 3 0 = some (.aload_n 0, 1, 0, 0) := by decide +kernel
theorem u_3_0 {a : Nat} {lv : am_L} {st : List Value} : am_W G (am_M G d) 3 K 0 (some (.ref a) :: lv) st h nc ns = (am_W G (am_M G d) 3 K 1 (some (.ref a) :: lv) (.ref a :: st) h nc ns) := am_u e_3_0
theorem e_3_1 : pg_code 3 1 = some (.invokespecial 3, 3, 900, 1) := by decide +kernel
theorem u_3_1 {a : Nat} {lv : am_L} {st : List Value} : am_W G (am_M G d) 3 K 1 lv (.ref a :: st) h nc ns = (am_words st ≤ 8 ∧ am_W G (am_M G d) 3 K 4 lv st h nc ns) := am_u e_3_1
theorem e_3_4 : pg_code 3 4 = some (.aload_n 0, 1, 0, 0) := by decide +kernel
theorem u_3_4 {a : Nat} {lv : am_L} {st : List Value} : am_W G (am_M G d) 3 K 4 (some (.ref a) :: lv) st h nc ns = (am_W G (am_M G d) 3 K 5 (some (.ref a) :: lv) (.ref a :: st) h nc ns) := am_u e_3_4
theorem e_3_5 : pg_code 3 5 = some (.bipush 16, 2, 0, 0) := by decide +kernel
theorem u_3_5 {lv : am_L} {st : List Value} : am_W G (am_M G d) 3 K 5 lv st h nc ns = (am_W G (am_M G d) 3 K 7 lv (.int 16 :: st) h nc ns) := am_u e_3_5
theorem e_3_7 : pg_code 3 7 = some (.anewarray 9, 3, 5, 0) := by decide +kernel
theorem e_3_10 : pg_code 3 10 = some (.putfield 11, 3, 3, 0) := by decide +kernel
theorem u_3_10 {a b : Nat} {lv : am_L} {st : List Value} : am_W G (am_M G d) 3 K 10 lv (.ref b :: .ref a :: st) h nc ns = (f_pf G d 3 K 13 lv st h nc ns (h a) 3 0 a (.ref b)) := (am_u e_3_10).trans (f_pf_eq ⟨rfl, rfl⟩)
theorem e_3_13 : pg_code 3 13 = some (.iconst 0, 1, 0, 0) := by decide +kernel
theorem u_3_13 {lv : am_L} {st : List Value} : am_W G (am_M G d) 3 K 13 lv st h nc ns = (am_W G (am_M G d) 3 K 14 lv (.int 0 :: st) h nc ns) := am_u e_3_13
theorem e_3_14 : pg_code 3 14 = some (.istore_n 1, 1, 0, 0) := by decide +kernel
theorem u_3_14 {a : Int32} {lv : am_L} {st : List Value} : am_W G (am_M G d) 3 K 14 lv (.int a :: st) h nc ns = (am_W G (am_M G d) 3 K 15 (am_st1 lv 1 (.int a)) st h nc ns) := (am_u e_3_14).trans (f_t (by decide +kernel))
theorem e_3_15 : pg_code 3 15 = some (.iload_n 1, 1, 0, 0) := by decide +kernel
theorem u_3_15 {a : Int32} {z0 : Option Value} {lv : am_L} {st : List Value} : am_W G (am_M G d) 3 K 15 (z0 :: some (.int a) :: lv) st h nc ns = (am_W G (am_M G d) 3 K 16 (z0 :: some (.int a) :: lv) (.int a :: st) h nc ns) := am_u e_3_15
theorem e_3_16 : pg_code 3 16 = some (.bipush 16, 2, 0, 0) := by decide +kernel
theorem u_3_16 {lv : am_L} {st : List Value} : am_W G (am_M G d) 3 K 16 lv st h nc ns = (am_W G (am_M G d) 3 K 18 lv (.int 16 :: st) h nc ns) := am_u e_3_16
theorem e_3_18 : pg_code 3 18 = some (.if_icmp .ge 29, 3, 47, 0) := by decide +kernel
theorem u_3_18 {a b : Int32} {lv : am_L} {st : List Value} : am_W G (am_M G d) 3 K 18 lv (.int b :: .int a :: st) h nc ns = (am_br (b ≤ a) (am_W G (am_M G d) 3 K 47 lv st h nc ns) (am_W G (am_M G d) 3 K 21 lv st h nc ns)) := am_u e_3_18
theorem e_3_21 : pg_code 3 21 = some (.aload_n 0, 1, 0, 0) := by decide +kernel
theorem u_3_21 {a : Nat} {lv : am_L} {st : List Value} : am_W G (am_M G d) 3 K 21 (some (.ref a) :: lv) st h nc ns = (am_W G (am_M G d) 3 K 22 (some (.ref a) :: lv) (.ref a :: st) h nc ns) := am_u e_3_21
theorem e_3_22 : pg_code 3 22 = some (.getfield 11, 3, 3, 0) := by decide +kernel
theorem u_3_22 {a : Nat} {lv : am_L} {st : List Value} : am_W G (am_M G d) 3 K 22 lv (.ref a :: st) h nc ns = (f_gf G d 3 K 25 lv st h nc ns (h a) 3 0) := am_u e_3_22
theorem e_3_25 : pg_code 3 25 = some (.iload_n 1, 1, 0, 0) := by decide +kernel
theorem u_3_25 {a : Int32} {z0 : Option Value} {lv : am_L} {st : List Value} : am_W G (am_M G d) 3 K 25 (z0 :: some (.int a) :: lv) st h nc ns = (am_W G (am_M G d) 3 K 26 (z0 :: some (.int a) :: lv) (.int a :: st) h nc ns) := am_u e_3_25
theorem e_3_26 : pg_code 3 26 = some (.new 9, 3, 5, 0) := by decide +kernel
theorem e_3_29 : pg_code 3 29 = some (.dup, 1, 0, 0) := by decide +kernel
theorem u_3_29 {a : Nat} {lv : am_L} {st : List Value} : am_W G (am_M G d) 3 K 29 lv (.ref a :: st) h nc ns = (am_W G (am_M G d) 3 K 30 lv (.ref a :: .ref a :: st) h nc ns) := (am_u e_3_29).trans (f_t rfl)
theorem e_3_30 : pg_code 3 30 = some (.new 17, 3, 2, 0) := by decide +kernel
theorem e_3_33 : pg_code 3 33 = some (.dup, 1, 0, 0) := by decide +kernel
theorem u_3_33 {a : Nat} {lv : am_L} {st : List Value} : am_W G (am_M G d) 3 K 33 lv (.ref a :: st) h nc ns = (am_W G (am_M G d) 3 K 34 lv (.ref a :: .ref a :: st) h nc ns) := (am_u e_3_33).trans (f_t rfl)
theorem e_3_34 : pg_code 3 34 = some (.invokespecial 19, 3, 1, 1) := by decide +kernel
theorem u_3_34 {a : Nat} {lv : am_L} {st : List Value} : am_W G (am_M G d) 3 K 34 lv (.ref a :: st) h nc ns = ((am_words st ≤ 8 ∧ nc + 3 ≤ 257 ∧ ns + 450 ≤ 30064 ∧ f_rc (h a) 2) ∧ am_M G d 1 [.ref a] h (am_back 3 K (am_W G (am_M G d) 3 K) 1 34 lv st nc ns)) := (am_u e_3_34).trans (f_iv_eq (a := a) (G := G) (d := d) (k := 3) (K := K) (pc := 34) (lv := lv) (st := st) (h := h) (nc := nc) (ns := ns) (x := 1) (X := am_W G (am_M G d) 3 K) [] (by decide) rfl)
theorem e_3_37 : pg_code 3 37 = some (.invokespecial 20, 3, 2, 2) := by decide +kernel
theorem u_3_37 {a : Nat} {v0 : Value} {lv : am_L} {st : List Value} : am_W G (am_M G d) 3 K 37 lv (v0 :: .ref a :: st) h nc ns = ((am_words st ≤ 8 ∧ nc + 11 ≤ 257 ∧ ns + 1414 ≤ 30064 ∧ f_rc (h a) 5) ∧ am_M G d 2 [.ref a, v0] h (am_back 3 K (am_W G (am_M G d) 3 K) 2 37 lv st nc ns)) := (am_u e_3_37).trans (f_iv_eq (a := a) (G := G) (d := d) (k := 3) (K := K) (pc := 37) (lv := lv) (st := st) (h := h) (nc := nc) (ns := ns) (x := 2) (X := am_W G (am_M G d) 3 K) [v0] (by decide) rfl)
theorem e_3_40 : pg_code 3 40 = some (.aastore, 1, 5, 0) := by decide +kernel
theorem e_3_41 : pg_code 3 41 = some (.iinc 1 1, 3, 0, 0) := by decide +kernel
theorem u_3_41 {a : Int32} {z0 : Option Value} {lv : am_L} {st : List Value} : am_W G (am_M G d) 3 K 41 (z0 :: some (.int a) :: lv) st h nc ns = (am_W G (am_M G d) 3 K 44 (am_st1 (z0 :: some (.int a) :: lv) 1 (.int (a + Int32.ofInt 1))) st h nc ns) := (am_u e_3_41).trans (f_t (by decide +kernel))
theorem e_3_44 : pg_code 3 44 = some (.goto (-29), 3, 15, 0) := by decide +kernel
theorem u_3_44 {lv : am_L} {st : List Value} : am_W G (am_M G d) 3 K 44 lv st h nc ns = (am_W G (am_M G d) 3 K 15 lv st h nc ns) := am_u e_3_44
theorem e_3_47 : pg_code 3 47 = some (.return_, 1, 0, 0) := by decide +kernel
theorem u_3_47 {lv : am_L} : am_W G (am_M G d) 3 K 47 lv [] h nc ns = (K (.inl none) h) := (am_u e_3_47).trans (f_t ⟨rfl, rfl⟩)
theorem e_4_0 : pg_code 4 0 = some (.aload_n 0, 1, 0, 0) := by decide +kernel
theorem u_4_0 {a : Nat} {lv : am_L} {st : List Value} : am_W G (am_M G d) 4 K 0 (some (.ref a) :: lv) st h nc ns = (am_W G (am_M G d) 4 K 1 (some (.ref a) :: lv) (.ref a :: st) h nc ns) := am_u e_4_0
theorem e_4_1 : pg_code 4 1 = some (.invokespecial 3, 3, 900, 1) := by decide +kernel
theorem u_4_1 {a : Nat} {lv : am_L} {st : List Value} : am_W G (am_M G d) 4 K 1 lv (.ref a :: st) h nc ns = (am_words st ≤ 8 ∧ am_W G (am_M G d) 4 K 4 lv st h nc ns) := am_u e_4_1
theorem e_4_4 : pg_code 4 4 = some (.aload_n 0, 1, 0, 0) := by decide +kernel
theorem u_4_4 {a : Nat} {lv : am_L} {st : List Value} : am_W G (am_M G d) 4 K 4 (some (.ref a) :: lv) st h nc ns = (am_W G (am_M G d) 4 K 5 (some (.ref a) :: lv) (.ref a :: st) h nc ns) := am_u e_4_4
theorem e_4_5 : pg_code 4 5 = some (.sipush 150, 3, 0, 0) := by decide +kernel
theorem u_4_5 {lv : am_L} {st : List Value} : am_W G (am_M G d) 4 K 5 lv st h nc ns = (am_W G (am_M G d) 4 K 8 lv (.int 150 :: st) h nc ns) := am_u e_4_5
theorem e_4_8 : pg_code 4 8 = some (.newarray .boolean, 2, 0, 0) := by decide +kernel
theorem e_4_10 : pg_code 4 10 = some (.putfield 9, 3, 4, 2) := by decide +kernel
theorem u_4_10 {a b : Nat} {lv : am_L} {st : List Value} : am_W G (am_M G d) 4 K 10 lv (.ref b :: .ref a :: st) h nc ns = (f_pf G d 4 K 13 lv st h nc ns (h a) 4 2 a (.ref b)) := (am_u e_4_10).trans (f_pf_eq ⟨rfl, rfl⟩)
theorem e_4_13 : pg_code 4 13 = some (.aload_n 0, 1, 0, 0) := by decide +kernel
theorem u_4_13 {a : Nat} {lv : am_L} {st : List Value} : am_W G (am_M G d) 4 K 13 (some (.ref a) :: lv) st h nc ns = (am_W G (am_M G d) 4 K 14 (some (.ref a) :: lv) (.ref a :: st) h nc ns) := am_u e_4_13
theorem e_4_14 : pg_code 4 14 = some (.sipush 150, 3, 0, 0) := by decide +kernel
theorem u_4_14 {lv : am_L} {st : List Value} : am_W G (am_M G d) 4 K 14 lv st h nc ns = (am_W G (am_M G d) 4 K 17 lv (.int 150 :: st) h nc ns) := am_u e_4_14
theorem e_4_17 : pg_code 4 17 = some (.newarray .boolean, 2, 0, 0) := by decide +kernel
theorem e_4_19 : pg_code 4 19 = some (.putfield 15, 3, 4, 3) := by decide +kernel
theorem u_4_19 {a b : Nat} {lv : am_L} {st : List Value} : am_W G (am_M G d) 4 K 19 lv (.ref b :: .ref a :: st) h nc ns = (f_pf G d 4 K 22 lv st h nc ns (h a) 4 3 a (.ref b)) := (am_u e_4_19).trans (f_pf_eq ⟨rfl, rfl⟩)
theorem e_4_22 : pg_code 4 22 = some (.aload_n 0, 1, 0, 0) := by decide +kernel
theorem u_4_22 {a : Nat} {lv : am_L} {st : List Value} : am_W G (am_M G d) 4 K 22 (some (.ref a) :: lv) st h nc ns = (am_W G (am_M G d) 4 K 23 (some (.ref a) :: lv) (.ref a :: st) h nc ns) := am_u e_4_22
theorem e_4_23 : pg_code 4 23 = some (.sipush 150, 3, 0, 0) := by decide +kernel
theorem u_4_23 {lv : am_L} {st : List Value} : am_W G (am_M G d) 4 K 23 lv st h nc ns = (am_W G (am_M G d) 4 K 26 lv (.int 150 :: st) h nc ns) := am_u e_4_23
theorem e_4_26 : pg_code 4 26 = some (.newarray .int, 2, 0, 0) := by decide +kernel
theorem e_4_28 : pg_code 4 28 = some (.putfield 18, 3, 4, 4) := by decide +kernel
theorem u_4_28 {a b : Nat} {lv : am_L} {st : List Value} : am_W G (am_M G d) 4 K 28 lv (.ref b :: .ref a :: st) h nc ns = (f_pf G d 4 K 31 lv st h nc ns (h a) 4 4 a (.ref b)) := (am_u e_4_28).trans (f_pf_eq ⟨rfl, rfl⟩)
theorem e_4_31 : pg_code 4 31 = some (.aload_n 0, 1, 0, 0) := by decide +kernel
theorem u_4_31 {a : Nat} {lv : am_L} {st : List Value} : am_W G (am_M G d) 4 K 31 (some (.ref a) :: lv) st h nc ns = (am_W G (am_M G d) 4 K 32 (some (.ref a) :: lv) (.ref a :: st) h nc ns) := am_u e_4_31
theorem e_4_32 : pg_code 4 32 = some (.sipush 150, 3, 0, 0) := by decide +kernel
theorem u_4_32 {lv : am_L} {st : List Value} : am_W G (am_M G d) 4 K 32 lv st h nc ns = (am_W G (am_M G d) 4 K 35 lv (.int 150 :: st) h nc ns) := am_u e_4_32
theorem e_4_35 : pg_code 4 35 = some (.newarray .int, 2, 0, 0) := by decide +kernel
theorem e_4_37 : pg_code 4 37 = some (.putfield 22, 3, 4, 6) := by decide +kernel
theorem u_4_37 {a b : Nat} {lv : am_L} {st : List Value} : am_W G (am_M G d) 4 K 37 lv (.ref b :: .ref a :: st) h nc ns = (f_pf G d 4 K 40 lv st h nc ns (h a) 4 6 a (.ref b)) := (am_u e_4_37).trans (f_pf_eq ⟨rfl, rfl⟩)
theorem e_4_40 : pg_code 4 40 = some (.aload_n 0, 1, 0, 0) := by decide +kernel
theorem u_4_40 {a : Nat} {lv : am_L} {st : List Value} : am_W G (am_M G d) 4 K 40 (some (.ref a) :: lv) st h nc ns = (am_W G (am_M G d) 4 K 41 (some (.ref a) :: lv) (.ref a :: st) h nc ns) := am_u e_4_40
theorem e_4_41 : pg_code 4 41 = some (.aload_n 1, 1, 0, 0) := by decide +kernel
theorem u_4_41 {a : Nat} {z0 : Option Value} {lv : am_L} {st : List Value} : am_W G (am_M G d) 4 K 41 (z0 :: some (.ref a) :: lv) st h nc ns = (am_W G (am_M G d) 4 K 42 (z0 :: some (.ref a) :: lv) (.ref a :: st) h nc ns) := am_u e_4_41
theorem e_4_42 : pg_code 4 42 = some (.putfield 25, 3, 4, 0) := by decide +kernel
theorem u_4_42 {a b : Nat} {lv : am_L} {st : List Value} : am_W G (am_M G d) 4 K 42 lv (.ref b :: .ref a :: st) h nc ns = (f_pf G d 4 K 45 lv st h nc ns (h a) 4 0 a (.ref b)) := (am_u e_4_42).trans (f_pf_eq ⟨rfl, rfl⟩)
theorem e_4_45 : pg_code 4 45 = some (.aload_n 0, 1, 0, 0) := by decide +kernel
theorem u_4_45 {a : Nat} {lv : am_L} {st : List Value} : am_W G (am_M G d) 4 K 45 (some (.ref a) :: lv) st h nc ns = (am_W G (am_M G d) 4 K 46 (some (.ref a) :: lv) (.ref a :: st) h nc ns) := am_u e_4_45
theorem e_4_46 : pg_code 4 46 = some (.new 29, 3, 6, 0) := by decide +kernel
theorem e_4_49 : pg_code 4 49 = some (.dup, 1, 0, 0) := by decide +kernel
theorem u_4_49 {a : Nat} {lv : am_L} {st : List Value} : am_W G (am_M G d) 4 K 49 lv (.ref a :: st) h nc ns = (am_W G (am_M G d) 4 K 50 lv (.ref a :: .ref a :: st) h nc ns) := (am_u e_4_49).trans (f_t rfl)
theorem e_4_50 : pg_code 4 50 = some (.aload_n 1, 1, 0, 0) := by decide +kernel
theorem u_4_50 {a : Nat} {z0 : Option Value} {lv : am_L} {st : List Value} : am_W G (am_M G d) 4 K 50 (z0 :: some (.ref a) :: lv) st h nc ns = (am_W G (am_M G d) 4 K 51 (z0 :: some (.ref a) :: lv) (.ref a :: st) h nc ns) := am_u e_4_50
theorem e_4_51 : pg_code 4 51 = some (.invokespecial 31, 3, 5, 2) := by decide +kernel
theorem u_4_51 {a : Nat} {v0 : Value} {lv : am_L} {st : List Value} : am_W G (am_M G d) 4 K 51 lv (v0 :: .ref a :: st) h nc ns = ((am_words st ≤ 8 ∧ nc + 3 ≤ 8 ∧ ns + 360 ≤ 965 ∧ f_rc (h a) 6) ∧ am_M G d 5 [.ref a, v0] h (am_back 4 K (am_W G (am_M G d) 4 K) 5 51 lv st nc ns)) := (am_u e_4_51).trans (f_iv_eq (a := a) (G := G) (d := d) (k := 4) (K := K) (pc := 51) (lv := lv) (st := st) (h := h) (nc := nc) (ns := ns) (x := 5) (X := am_W G (am_M G d) 4 K) [v0] (by decide) rfl)
theorem e_4_54 : pg_code 4 54 = some (.putfield 34, 3, 4, 1) := by decide +kernel
theorem u_4_54 {a b : Nat} {lv : am_L} {st : List Value} : am_W G (am_M G d) 4 K 54 lv (.ref b :: .ref a :: st) h nc ns = (f_pf G d 4 K 57 lv st h nc ns (h a) 4 1 a (.ref b)) := (am_u e_4_54).trans (f_pf_eq ⟨rfl, rfl⟩)
theorem e_4_57 : pg_code 4 57 = some (.return_, 1, 0, 0) := by decide +kernel
theorem u_4_57 {lv : am_L} : am_W G (am_M G d) 4 K 57 lv [] h nc ns = (K (.inl none) h) := (am_u e_4_57).trans (f_t ⟨rfl, rfl⟩)
theorem e_5_0 : pg_code 5 0 = some (.aload_n 0, 1, 0, 0) := by decide +kernel
theorem u_5_0 {a : Nat} {lv : am_L} {st : List Value} : am_W G (am_M G d) 5 K 0 (some (.ref a) :: lv) st h nc ns = (am_W G (am_M G d) 5 K 1 (some (.ref a) :: lv) (.ref a :: st) h nc ns) := am_u e_5_0
theorem e_5_1 : pg_code 5 1 = some (.invokespecial 3, 3, 900, 1) := by decide +kernel
theorem u_5_1 {a : Nat} {lv : am_L} {st : List Value} : am_W G (am_M G d) 5 K 1 lv (.ref a :: st) h nc ns = (am_words st ≤ 8 ∧ am_W G (am_M G d) 5 K 4 lv st h nc ns) := am_u e_5_1
theorem e_5_4 : pg_code 5 4 = some (.aload_n 0, 1, 0, 0) := by decide +kernel
theorem u_5_4 {a : Nat} {lv : am_L} {st : List Value} : am_W G (am_M G d) 5 K 4 (some (.ref a) :: lv) st h nc ns = (am_W G (am_M G d) 5 K 5 (some (.ref a) :: lv) (.ref a :: st) h nc ns) := am_u e_5_4
theorem e_5_5 : pg_code 5 5 = some (.sipush 150, 3, 0, 0) := by decide +kernel
theorem u_5_5 {lv : am_L} {st : List Value} : am_W G (am_M G d) 5 K 5 lv st h nc ns = (am_W G (am_M G d) 5 K 8 lv (.int 150 :: st) h nc ns) := am_u e_5_5
theorem e_5_8 : pg_code 5 8 = some (.newarray .int, 2, 0, 0) := by decide +kernel
theorem e_5_10 : pg_code 5 10 = some (.putfield 9, 3, 6, 1) := by decide +kernel
theorem u_5_10 {a b : Nat} {lv : am_L} {st : List Value} : am_W G (am_M G d) 5 K 10 lv (.ref b :: .ref a :: st) h nc ns = (f_pf G d 5 K 13 lv st h nc ns (h a) 6 1 a (.ref b)) := (am_u e_5_10).trans (f_pf_eq ⟨rfl, rfl⟩)
theorem e_5_13 : pg_code 5 13 = some (.aload_n 0, 1, 0, 0) := by decide +kernel
theorem u_5_13 {a : Nat} {lv : am_L} {st : List Value} : am_W G (am_M G d) 5 K 13 (some (.ref a) :: lv) st h nc ns = (am_W G (am_M G d) 5 K 14 (some (.ref a) :: lv) (.ref a :: st) h nc ns) := am_u e_5_13
theorem e_5_14 : pg_code 5 14 = some (.sipush 150, 3, 0, 0) := by decide +kernel
theorem u_5_14 {lv : am_L} {st : List Value} : am_W G (am_M G d) 5 K 14 lv st h nc ns = (am_W G (am_M G d) 5 K 17 lv (.int 150 :: st) h nc ns) := am_u e_5_14
theorem e_5_17 : pg_code 5 17 = some (.newarray .int, 2, 0, 0) := by decide +kernel
theorem e_5_19 : pg_code 5 19 = some (.putfield 15, 3, 6, 3) := by decide +kernel
theorem u_5_19 {a b : Nat} {lv : am_L} {st : List Value} : am_W G (am_M G d) 5 K 19 lv (.ref b :: .ref a :: st) h nc ns = (f_pf G d 5 K 22 lv st h nc ns (h a) 6 3 a (.ref b)) := (am_u e_5_19).trans (f_pf_eq ⟨rfl, rfl⟩)
theorem e_5_22 : pg_code 5 22 = some (.aload_n 0, 1, 0, 0) := by decide +kernel
theorem u_5_22 {a : Nat} {lv : am_L} {st : List Value} : am_W G (am_M G d) 5 K 22 (some (.ref a) :: lv) st h nc ns = (am_W G (am_M G d) 5 K 23 (some (.ref a) :: lv) (.ref a :: st) h nc ns) := am_u e_5_22
theorem e_5_23 : pg_code 5 23 = some (.bipush 60, 2, 0, 0) := by decide +kernel
theorem u_5_23 {lv : am_L} {st : List Value} : am_W G (am_M G d) 5 K 23 lv st h nc ns = (am_W G (am_M G d) 5 K 25 lv (.int 60 :: st) h nc ns) := am_u e_5_23
theorem e_5_25 : pg_code 5 25 = some (.newarray .boolean, 2, 0, 0) := by decide +kernel
theorem e_5_27 : pg_code 5 27 = some (.putfield 18, 3, 6, 4) := by decide +kernel
theorem u_5_27 {a b : Nat} {lv : am_L} {st : List Value} : am_W G (am_M G d) 5 K 27 lv (.ref b :: .ref a :: st) h nc ns = (f_pf G d 5 K 30 lv st h nc ns (h a) 6 4 a (.ref b)) := (am_u e_5_27).trans (f_pf_eq ⟨rfl, rfl⟩)
theorem e_5_30 : pg_code 5 30 = some (.aload_n 0, 1, 0, 0) := by decide +kernel
theorem u_5_30 {a : Nat} {lv : am_L} {st : List Value} : am_W G (am_M G d) 5 K 30 (some (.ref a) :: lv) st h nc ns = (am_W G (am_M G d) 5 K 31 (some (.ref a) :: lv) (.ref a :: st) h nc ns) := am_u e_5_30
theorem e_5_31 : pg_code 5 31 = some (.aload_n 1, 1, 0, 0) := by decide +kernel
theorem u_5_31 {a : Nat} {z0 : Option Value} {lv : am_L} {st : List Value} : am_W G (am_M G d) 5 K 31 (z0 :: some (.ref a) :: lv) st h nc ns = (am_W G (am_M G d) 5 K 32 (z0 :: some (.ref a) :: lv) (.ref a :: st) h nc ns) := am_u e_5_31
theorem e_5_32 : pg_code 5 32 = some (.putfield 22, 3, 6, 0) := by decide +kernel
theorem u_5_32 {a b : Nat} {lv : am_L} {st : List Value} : am_W G (am_M G d) 5 K 32 lv (.ref b :: .ref a :: st) h nc ns = (f_pf G d 5 K 35 lv st h nc ns (h a) 6 0 a (.ref b)) := (am_u e_5_32).trans (f_pf_eq ⟨rfl, rfl⟩)
theorem e_5_35 : pg_code 5 35 = some (.return_, 1, 0, 0) := by decide +kernel
theorem u_5_35 {lv : am_L} : am_W G (am_M G d) 5 K 35 lv [] h nc ns = (K (.inl none) h) := (am_u e_5_35).trans (f_t ⟨rfl, rfl⟩)
theorem e_6_0 : pg_code 6 0 = some (.aload_n 0, 1, 0, 0) := by decide +kernel
theorem u_6_0 {a : Nat} {lv : am_L} {st : List Value} : am_W G (am_M G d) 6 K 0 (some (.ref a) :: lv) st h nc ns = (am_W G (am_M G d) 6 K 1 (some (.ref a) :: lv) (.ref a :: st) h nc ns) := am_u e_6_0
theorem e_6_1 : pg_code 6 1 = some (.invokespecial 1, 3, 900, 1) := by decide +kernel
theorem u_6_1 {a : Nat} {lv : am_L} {st : List Value} : am_W G (am_M G d) 6 K 1 lv (.ref a :: st) h nc ns = (am_words st ≤ 8 ∧ am_W G (am_M G d) 6 K 4 lv st h nc ns) := am_u e_6_1
theorem e_6_4 : pg_code 6 4 = some (.aload_n 0, 1, 0, 0) := by decide +kernel
theorem u_6_4 {a : Nat} {lv : am_L} {st : List Value} : am_W G (am_M G d) 6 K 4 (some (.ref a) :: lv) st h nc ns = (am_W G (am_M G d) 6 K 5 (some (.ref a) :: lv) (.ref a :: st) h nc ns) := am_u e_6_4
theorem e_6_5 : pg_code 6 5 = some (.new 7, 3, 2, 0) := by decide +kernel
theorem e_6_8 : pg_code 6 8 = some (.dup, 1, 0, 0) := by decide +kernel
theorem u_6_8 {a : Nat} {lv : am_L} {st : List Value} : am_W G (am_M G d) 6 K 8 lv (.ref a :: st) h nc ns = (am_W G (am_M G d) 6 K 9 lv (.ref a :: .ref a :: st) h nc ns) := (am_u e_6_8).trans (f_t rfl)
theorem e_6_9 : pg_code 6 9 = some (.invokespecial 9, 3, 1, 1) := by decide +kernel
theorem u_6_9 {a : Nat} {lv : am_L} {st : List Value} : am_W G (am_M G d) 6 K 9 lv (.ref a :: st) h nc ns = ((am_words st ≤ 8 ∧ nc + 3 ≤ 8 ∧ ns + 450 ≤ 908 ∧ f_rc (h a) 2) ∧ am_M G d 1 [.ref a] h (am_back 6 K (am_W G (am_M G d) 6 K) 1 9 lv st nc ns)) := (am_u e_6_9).trans (f_iv_eq (a := a) (G := G) (d := d) (k := 6) (K := K) (pc := 9) (lv := lv) (st := st) (h := h) (nc := nc) (ns := ns) (x := 1) (X := am_W G (am_M G d) 6 K) [] (by decide) rfl)
theorem e_6_12 : pg_code 6 12 = some (.putfield 10, 3, 1, 0) := by decide +kernel
theorem u_6_12 {a b : Nat} {lv : am_L} {st : List Value} : am_W G (am_M G d) 6 K 12 lv (.ref b :: .ref a :: st) h nc ns = (f_pf G d 6 K 15 lv st h nc ns (h a) 1 0 a (.ref b)) := (am_u e_6_12).trans (f_pf_eq ⟨rfl, rfl⟩)
theorem e_6_15 : pg_code 6 15 = some (.aload_n 0, 1, 0, 0) := by decide +kernel
theorem u_6_15 {a : Nat} {lv : am_L} {st : List Value} : am_W G (am_M G d) 6 K 15 (some (.ref a) :: lv) st h nc ns = (am_W G (am_M G d) 6 K 16 (some (.ref a) :: lv) (.ref a :: st) h nc ns) := am_u e_6_15
theorem e_6_16 : pg_code 6 16 = some (.new 7, 3, 2, 0) := by decide +kernel
theorem e_6_19 : pg_code 6 19 = some (.dup, 1, 0, 0) := by decide +kernel
theorem u_6_19 {a : Nat} {lv : am_L} {st : List Value} : am_W G (am_M G d) 6 K 19 lv (.ref a :: st) h nc ns = (am_W G (am_M G d) 6 K 20 lv (.ref a :: .ref a :: st) h nc ns) := (am_u e_6_19).trans (f_t rfl)
theorem e_6_20 : pg_code 6 20 = some (.invokespecial 9, 3, 1, 1) := by decide +kernel
theorem u_6_20 {a : Nat} {lv : am_L} {st : List Value} : am_W G (am_M G d) 6 K 20 lv (.ref a :: st) h nc ns = ((am_words st ≤ 8 ∧ nc + 3 ≤ 8 ∧ ns + 450 ≤ 908 ∧ f_rc (h a) 2) ∧ am_M G d 1 [.ref a] h (am_back 6 K (am_W G (am_M G d) 6 K) 1 20 lv st nc ns)) := (am_u e_6_20).trans (f_iv_eq (a := a) (G := G) (d := d) (k := 6) (K := K) (pc := 20) (lv := lv) (st := st) (h := h) (nc := nc) (ns := ns) (x := 1) (X := am_W G (am_M G d) 6 K) [] (by decide) rfl)
theorem e_6_23 : pg_code 6 23 = some (.putfield 16, 3, 1, 1) := by decide +kernel
theorem u_6_23 {a b : Nat} {lv : am_L} {st : List Value} : am_W G (am_M G d) 6 K 23 lv (.ref b :: .ref a :: st) h nc ns = (f_pf G d 6 K 26 lv st h nc ns (h a) 1 1 a (.ref b)) := (am_u e_6_23).trans (f_pf_eq ⟨rfl, rfl⟩)
theorem e_6_26 : pg_code 6 26 = some (.return_, 1, 0, 0) := by decide +kernel
theorem u_6_26 {lv : am_L} : am_W G (am_M G d) 6 K 26 lv [] h nc ns = (K (.inl none) h) := (am_u e_6_26).trans (f_t ⟨rfl, rfl⟩)
theorem e_7_0 : pg_code 7 0 = some (.aload_n 0, 1, 0, 0) := by decide +kernel
theorem u_7_0 {a : Nat} {lv : am_L} {st : List Value} : am_W G (am_M G d) 7 K 0 (some (.ref a) :: lv) st h nc ns = (am_W G (am_M G d) 7 K 1 (some (.ref a) :: lv) (.ref a :: st) h nc ns) := am_u e_7_0
theorem e_7_1 : pg_code 7 1 = some (.getfield 24, 3, 0, 1) := by decide +kernel
theorem u_7_1 {a : Nat} {lv : am_L} {st : List Value} : am_W G (am_M G d) 7 K 1 lv (.ref a :: st) h nc ns = (f_gf G d 7 K 4 lv st h nc ns (h a) 0 1) := am_u e_7_1
theorem e_7_4 : pg_code 7 4 = some (.aload_n 0, 1, 0, 0) := by decide +kernel
theorem u_7_4 {a : Nat} {lv : am_L} {st : List Value} : am_W G (am_M G d) 7 K 4 (some (.ref a) :: lv) st h nc ns = (am_W G (am_M G d) 7 K 5 (some (.ref a) :: lv) (.ref a :: st) h nc ns) := am_u e_7_4
theorem e_7_5 : pg_code 7 5 = some (.getfield 15, 3, 0, 0) := by decide +kernel
theorem u_7_5 {a : Nat} {lv : am_L} {st : List Value} : am_W G (am_M G d) 7 K 5 lv (.ref a :: st) h nc ns = (f_gf G d 7 K 8 lv st h nc ns (h a) 0 0) := am_u e_7_5
theorem e_7_8 : pg_code 7 8 = some (.invokevirtual 92, 3, 8, 2) := by decide +kernel
theorem u_7_8 {a : Nat} {v0 : Value} {lv : am_L} {st : List Value} : am_W G (am_M G d) 7 K 8 lv (v0 :: .ref a :: st) h nc ns = ((am_words st ≤ 8 ∧ nc + 0 ≤ 0 ∧ ns + 0 ≤ 0 ∧ f_rc (h a) 3) ∧ am_M G d 8 [.ref a, v0] h (am_back 7 K (am_W G (am_M G d) 7 K) 8 8 lv st nc ns)) := (am_u e_7_8).trans (f_iv_eq (a := a) (G := G) (d := d) (k := 7) (K := K) (pc := 8) (lv := lv) (st := st) (h := h) (nc := nc) (ns := ns) (x := 8) (X := am_W G (am_M G d) 7 K) [v0] (by decide) rfl)
theorem e_7_11 : pg_code 7 11 = some (.aload_n 0, 1, 0, 0) := by decide +kernel
theorem u_7_11 {a : Nat} {lv : am_L} {st : List Value} : am_W G (am_M G d) 7 K 11 (some (.ref a) :: lv) st h nc ns = (am_W G (am_M G d) 7 K 12 (some (.ref a) :: lv) (.ref a :: st) h nc ns) := am_u e_7_11
theorem e_7_12 : pg_code 7 12 = some (.getfield 31, 3, 0, 2) := by decide +kernel
theorem u_7_12 {a : Nat} {lv : am_L} {st : List Value} : am_W G (am_M G d) 7 K 12 lv (.ref a :: st) h nc ns = (f_gf G d 7 K 15 lv st h nc ns (h a) 0 2) := am_u e_7_12
theorem e_7_15 : pg_code 7 15 = some (.invokevirtual 113, 3, 11, 1) := by decide +kernel
theorem u_7_15 {a : Nat} {lv : am_L} {st : List Value} : am_W G (am_M G d) 7 K 15 lv (.ref a :: st) h nc ns = ((am_words st ≤ 8 ∧ nc + 0 ≤ 0 ∧ ns + 0 ≤ 0 ∧ f_rc (h a) 4) ∧ am_M G d 11 [.ref a] h (am_back 7 K (am_W G (am_M G d) 7 K) 11 15 lv st nc ns)) := (am_u e_7_15).trans (f_iv_eq (a := a) (G := G) (d := d) (k := 7) (K := K) (pc := 15) (lv := lv) (st := st) (h := h) (nc := nc) (ns := ns) (x := 11) (X := am_W G (am_M G d) 7 K) [] (by decide) rfl)
theorem e_7_18 : pg_code 7 18 = some (.aload_n 0, 1, 0, 0) := by decide +kernel
theorem u_7_18 {a : Nat} {lv : am_L} {st : List Value} : am_W G (am_M G d) 7 K 18 (some (.ref a) :: lv) st h nc ns = (am_W G (am_M G d) 7 K 19 (some (.ref a) :: lv) (.ref a :: st) h nc ns) := am_u e_7_18
theorem e_7_19 : pg_code 7 19 = some (.getfield 15, 3, 0, 0) := by decide +kernel
theorem u_7_19 {a : Nat} {lv : am_L} {st : List Value} : am_W G (am_M G d) 7 K 19 lv (.ref a :: st) h nc ns = (f_gf G d 7 K 22 lv st h nc ns (h a) 0 0) := am_u e_7_19
theorem e_7_22 : pg_code 7 22 = some (.aload_n 0, 1, 0, 0) := by decide +kernel
theorem u_7_22 {a : Nat} {lv : am_L} {st : List Value} : am_W G (am_M G d) 7 K 22 (some (.ref a) :: lv) st h nc ns = (am_W G (am_M G d) 7 K 23 (some (.ref a) :: lv) (.ref a :: st) h nc ns) := am_u e_7_22
theorem e_7_23 : pg_code 7 23 = some (.getfield 31, 3, 0, 2) := by decide +kernel
theorem u_7_23 {a : Nat} {lv : am_L} {st : List Value} : am_W G (am_M G d) 7 K 23 lv (.ref a :: st) h nc ns = (f_gf G d 7 K 26 lv st h nc ns (h a) 0 2) := am_u e_7_23
theorem e_7_26 : pg_code 7 26 = some (.getfield 116, 3, 4, 2) := by decide +kernel
theorem u_7_26 {a : Nat} {lv : am_L} {st : List Value} : am_W G (am_M G d) 7 K 26 lv (.ref a :: st) h nc ns = (f_gf G d 7 K 29 lv st h nc ns (h a) 4 2) := am_u e_7_26
theorem e_7_29 : pg_code 7 29 = some (.invokevirtual 119, 3, 20, 2) := by decide +kernel
theorem u_7_29 {a : Nat} {v0 : Value} {lv : am_L} {st : List Value} : am_W G (am_M G d) 7 K 29 lv (v0 :: .ref a :: st) h nc ns = ((am_words st ≤ 8 ∧ nc + 0 ≤ 0 ∧ ns + 0 ≤ 0 ∧ f_rc (h a) 5) ∧ am_M G d 20 [.ref a, v0] h (am_back 7 K (am_W G (am_M G d) 7 K) 20 29 lv st nc ns)) := (am_u e_7_29).trans (f_iv_eq (a := a) (G := G) (d := d) (k := 7) (K := K) (pc := 29) (lv := lv) (st := st) (h := h) (nc := nc) (ns := ns) (x := 20) (X := am_W G (am_M G d) 7 K) [v0] (by decide) rfl)
theorem e_7_32 : pg_code 7 32 = some (.aload_n 0, 1, 0, 0) := by decide +kernel
theorem u_7_32 {a : Nat} {lv : am_L} {st : List Value} : am_W G (am_M G d) 7 K 32 (some (.ref a) :: lv) st h nc ns = (am_W G (am_M G d) 7 K 33 (some (.ref a) :: lv) (.ref a :: st) h nc ns) := am_u e_7_32
theorem e_7_33 : pg_code 7 33 = some (.iconst 0, 1, 0, 0) := by decide +kernel
theorem u_7_33 {lv : am_L} {st : List Value} : am_W G (am_M G d) 7 K 33 lv st h nc ns = (am_W G (am_M G d) 7 K 34 lv (.int 0 :: st) h nc ns) := am_u e_7_33
theorem e_7_34 : pg_code 7 34 = some (.putfield 123, 3, 0, 6) := by decide +kernel
theorem u_7_34 {a : Nat} {b : Int32} {lv : am_L} {st : List Value} : am_W G (am_M G d) 7 K 34 lv (.int b :: .ref a :: st) h nc ns = (f_pf G d 7 K 37 lv st h nc ns (h a) 0 6 a (.int b)) := (am_u e_7_34).trans (f_pf_eq ⟨rfl, rfl⟩)
theorem e_7_37 : pg_code 7 37 = some (.iconst 0, 1, 0, 0) := by decide +kernel
theorem u_7_37 {lv : am_L} {st : List Value} : am_W G (am_M G d) 7 K 37 lv st h nc ns = (am_W G (am_M G d) 7 K 38 lv (.int 0 :: st) h nc ns) := am_u e_7_37
theorem e_7_38 : pg_code 7 38 = some (.istore_n 1, 1, 0, 0) := by decide +kernel
theorem u_7_38 {a : Int32} {lv : am_L} {st : List Value} : am_W G (am_M G d) 7 K 38 lv (.int a :: st) h nc ns = (am_W G (am_M G d) 7 K 39 (am_st1 lv 1 (.int a)) st h nc ns) := (am_u e_7_38).trans (f_t (by decide +kernel))
theorem e_7_39 : pg_code 7 39 = some (.iload_n 1, 1, 0, 0) := by decide +kernel
theorem u_7_39 {a : Int32} {z0 : Option Value} {lv : am_L} {st : List Value} : am_W G (am_M G d) 7 K 39 (z0 :: some (.int a) :: lv) st h nc ns = (am_W G (am_M G d) 7 K 40 (z0 :: some (.int a) :: lv) (.int a :: st) h nc ns) := am_u e_7_39
theorem e_7_40 : pg_code 7 40 = some (.aload_n 0, 1, 0, 0) := by decide +kernel
theorem u_7_40 {a : Nat} {lv : am_L} {st : List Value} : am_W G (am_M G d) 7 K 40 (some (.ref a) :: lv) st h nc ns = (am_W G (am_M G d) 7 K 41 (some (.ref a) :: lv) (.ref a :: st) h nc ns) := am_u e_7_40
theorem e_7_41 : pg_code 7 41 = some (.getfield 31, 3, 0, 2) := by decide +kernel
theorem u_7_41 {a : Nat} {lv : am_L} {st : List Value} : am_W G (am_M G d) 7 K 41 lv (.ref a :: st) h nc ns = (f_gf G d 7 K 44 lv st h nc ns (h a) 0 2) := am_u e_7_41
theorem e_7_44 : pg_code 7 44 = some (.getfield 126, 3, 4, 5) := by decide +kernel
theorem u_7_44 {a : Nat} {lv : am_L} {st : List Value} : am_W G (am_M G d) 7 K 44 lv (.ref a :: st) h nc ns = (f_gf G d 7 K 47 lv st h nc ns (h a) 4 5) := am_u e_7_44
theorem e_7_47 : pg_code 7 47 = some (.if_icmp .ge 22, 3, 69, 0) := by decide +kernel
theorem u_7_47 {a b : Int32} {lv : am_L} {st : List Value} : am_W G (am_M G d) 7 K 47 lv (.int b :: .int a :: st) h nc ns = (am_br (b ≤ a) (am_W G (am_M G d) 7 K 69 lv st h nc ns) (am_W G (am_M G d) 7 K 50 lv st h nc ns)) := am_u e_7_47
theorem e_7_50 : pg_code 7 50 = some (.aload_n 0, 1, 0, 0) := by decide +kernel
theorem u_7_50 {a : Nat} {lv : am_L} {st : List Value} : am_W G (am_M G d) 7 K 50 (some (.ref a) :: lv) st h nc ns = (am_W G (am_M G d) 7 K 51 (some (.ref a) :: lv) (.ref a :: st) h nc ns) := am_u e_7_50
theorem e_7_51 : pg_code 7 51 = some (.aload_n 0, 1, 0, 0) := by decide +kernel
theorem u_7_51 {a : Nat} {lv : am_L} {st : List Value} : am_W G (am_M G d) 7 K 51 (some (.ref a) :: lv) st h nc ns = (am_W G (am_M G d) 7 K 52 (some (.ref a) :: lv) (.ref a :: st) h nc ns) := am_u e_7_51
theorem e_7_52 : pg_code 7 52 = some (.getfield 31, 3, 0, 2) := by decide +kernel
theorem u_7_52 {a : Nat} {lv : am_L} {st : List Value} : am_W G (am_M G d) 7 K 52 lv (.ref a :: st) h nc ns = (f_gf G d 7 K 55 lv st h nc ns (h a) 0 2) := am_u e_7_52
theorem e_7_55 : pg_code 7 55 = some (.getfield 129, 3, 4, 4) := by decide +kernel
theorem u_7_55 {a : Nat} {lv : am_L} {st : List Value} : am_W G (am_M G d) 7 K 55 lv (.ref a :: st) h nc ns = (f_gf G d 7 K 58 lv st h nc ns (h a) 4 4) := am_u e_7_55
theorem e_7_58 : pg_code 7 58 = some (.iload_n 1, 1, 0, 0) := by decide +kernel
theorem u_7_58 {a : Int32} {z0 : Option Value} {lv : am_L} {st : List Value} : am_W G (am_M G d) 7 K 58 (z0 :: some (.int a) :: lv) st h nc ns = (am_W G (am_M G d) 7 K 59 (z0 :: some (.int a) :: lv) (.int a :: st) h nc ns) := am_u e_7_58
theorem e_7_59 : pg_code 7 59 = some (.iaload, 1, 0, 0) := by decide +kernel
theorem u_7_59 {a : Nat} {j : Int32} {lv : am_L} {st : List Value} : am_W G (am_M G d) 7 K 59 lv (.int j :: .ref a :: st) h nc ns = (f_ia G d 7 K 60 lv st h nc ns (h a) .int j) := am_u e_7_59
theorem e_7_60 : pg_code 7 60 = some (.invokevirtual 132, 3, 21, 2) := by decide +kernel
theorem u_7_60 {a : Nat} {v0 : Value} {lv : am_L} {st : List Value} : am_W G (am_M G d) 7 K 60 lv (v0 :: .ref a :: st) h nc ns = ((am_words st ≤ 8 ∧ nc + 0 ≤ 0 ∧ ns + 0 ≤ 0 ∧ f_rc (h a) 0) ∧ am_M G d 21 [.ref a, v0] h (am_back 7 K (am_W G (am_M G d) 7 K) 21 60 lv st nc ns)) := (am_u e_7_60).trans (f_iv_eq (a := a) (G := G) (d := d) (k := 7) (K := K) (pc := 60) (lv := lv) (st := st) (h := h) (nc := nc) (ns := ns) (x := 21) (X := am_W G (am_M G d) 7 K) [v0] (by decide) rfl)
theorem e_7_63 : pg_code 7 63 = some (.iinc 1 1, 3, 0, 0) := by decide +kernel
theorem u_7_63 {a : Int32} {z0 : Option Value} {lv : am_L} {st : List Value} : am_W G (am_M G d) 7 K 63 (z0 :: some (.int a) :: lv) st h nc ns = (am_W G (am_M G d) 7 K 66 (am_st1 (z0 :: some (.int a) :: lv) 1 (.int (a + Int32.ofInt 1))) st h nc ns) := (am_u e_7_63).trans (f_t (by decide +kernel))
theorem e_7_66 : pg_code 7 66 = some (.goto (-27), 3, 39, 0) := by decide +kernel
theorem u_7_66 {lv : am_L} {st : List Value} : am_W G (am_M G d) 7 K 66 lv st h nc ns = (am_W G (am_M G d) 7 K 39 lv st h nc ns) := am_u e_7_66
theorem e_7_69 : pg_code 7 69 = some (.aload_n 0, 1, 0, 0) := by decide +kernel
theorem u_7_69 {a : Nat} {lv : am_L} {st : List Value} : am_W G (am_M G d) 7 K 69 (some (.ref a) :: lv) st h nc ns = (am_W G (am_M G d) 7 K 70 (some (.ref a) :: lv) (.ref a :: st) h nc ns) := am_u e_7_69
theorem e_7_70 : pg_code 7 70 = some (.dup, 1, 0, 0) := by decide +kernel
theorem u_7_70 {a : Nat} {lv : am_L} {st : List Value} : am_W G (am_M G d) 7 K 70 lv (.ref a :: st) h nc ns = (am_W G (am_M G d) 7 K 71 lv (.ref a :: .ref a :: st) h nc ns) := (am_u e_7_70).trans (f_t rfl)
theorem e_7_71 : pg_code 7 71 = some (.getfield 135, 3, 0, 7) := by decide +kernel
theorem u_7_71 {a : Nat} {lv : am_L} {st : List Value} : am_W G (am_M G d) 7 K 71 lv (.ref a :: st) h nc ns = (f_gf G d 7 K 74 lv st h nc ns (h a) 0 7) := am_u e_7_71
theorem e_7_74 : pg_code 7 74 = some (.aload_n 0, 1, 0, 0) := by decide +kernel
theorem u_7_74 {a : Nat} {lv : am_L} {st : List Value} : am_W G (am_M G d) 7 K 74 (some (.ref a) :: lv) st h nc ns = (am_W G (am_M G d) 7 K 75 (some (.ref a) :: lv) (.ref a :: st) h nc ns) := am_u e_7_74
theorem e_7_75 : pg_code 7 75 = some (.getfield 123, 3, 0, 6) := by decide +kernel
theorem u_7_75 {a : Nat} {lv : am_L} {st : List Value} : am_W G (am_M G d) 7 K 75 lv (.ref a :: st) h nc ns = (f_gf G d 7 K 78 lv st h nc ns (h a) 0 6) := am_u e_7_75
theorem e_7_78 : pg_code 7 78 = some (.iadd, 1, 0, 0) := by decide +kernel
theorem u_7_78 {a b : Int32} {lv : am_L} {st : List Value} : am_W G (am_M G d) 7 K 78 lv (.int b :: .int a :: st) h nc ns = (am_W G (am_M G d) 7 K 79 lv (.int (a + b) :: st) h nc ns) := am_u e_7_78
theorem e_7_79 : pg_code 7 79 = some (.putfield 135, 3, 0, 7) := by decide +kernel
theorem u_7_79 {a : Nat} {b : Int32} {lv : am_L} {st : List Value} : am_W G (am_M G d) 7 K 79 lv (.int b :: .ref a :: st) h nc ns = (f_pf G d 7 K 82 lv st h nc ns (h a) 0 7 a (.int b)) := (am_u e_7_79).trans (f_pf_eq ⟨rfl, rfl⟩)
theorem e_7_82 : pg_code 7 82 = some (.aload_n 0, 1, 0, 0) := by decide +kernel
theorem u_7_82 {a : Nat} {lv : am_L} {st : List Value} : am_W G (am_M G d) 7 K 82 (some (.ref a) :: lv) st h nc ns = (am_W G (am_M G d) 7 K 83 (some (.ref a) :: lv) (.ref a :: st) h nc ns) := am_u e_7_82
theorem e_7_83 : pg_code 7 83 = some (.getfield 123, 3, 0, 6) := by decide +kernel
theorem u_7_83 {a : Nat} {lv : am_L} {st : List Value} : am_W G (am_M G d) 7 K 83 lv (.ref a :: st) h nc ns = (f_gf G d 7 K 86 lv st h nc ns (h a) 0 6) := am_u e_7_83
theorem e_7_86 : pg_code 7 86 = some (.ireturn, 1, 0, 0) := by decide +kernel
theorem u_7_86 {a : Int32} {lv : am_L} : am_W G (am_M G d) 7 K 86 lv [.int a] h nc ns = (K (.inl (some (.int a))) h) := (am_u e_7_86).trans (f_t ⟨rfl, .int, rfl, rfl⟩)
theorem e_8_0 : pg_code 8 0 = some (.aload_n 0, 1, 0, 0) := by decide +kernel
theorem u_8_0 {a : Nat} {lv : am_L} {st : List Value} : am_W G (am_M G d) 8 K 0 (some (.ref a) :: lv) st h nc ns = (am_W G (am_M G d) 8 K 1 (some (.ref a) :: lv) (.ref a :: st) h nc ns) := am_u e_8_0
theorem e_8_1 : pg_code 8 1 = some (.getfield 11, 3, 3, 0) := by decide +kernel
theorem u_8_1 {a : Nat} {lv : am_L} {st : List Value} : am_W G (am_M G d) 8 K 1 lv (.ref a :: st) h nc ns = (f_gf G d 8 K 4 lv st h nc ns (h a) 3 0) := am_u e_8_1
theorem e_8_4 : pg_code 8 4 = some (.aload_n 0, 1, 0, 0) := by decide +kernel
theorem u_8_4 {a : Nat} {lv : am_L} {st : List Value} : am_W G (am_M G d) 8 K 4 (some (.ref a) :: lv) st h nc ns = (am_W G (am_M G d) 8 K 5 (some (.ref a) :: lv) (.ref a :: st) h nc ns) := am_u e_8_4
theorem e_8_5 : pg_code 8 5 = some (.getfield 23, 3, 3, 1) := by decide +kernel
theorem u_8_5 {a : Nat} {lv : am_L} {st : List Value} : am_W G (am_M G d) 8 K 5 lv (.ref a :: st) h nc ns = (f_gf G d 8 K 8 lv st h nc ns (h a) 3 1) := am_u e_8_5
theorem e_8_8 : pg_code 8 8 = some (.aaload, 1, 0, 0) := by decide +kernel
theorem u_8_8 {a : Nat} {j : Int32} {lv : am_L} {st : List Value} : am_W G (am_M G d) 8 K 8 lv (.int j :: .ref a :: st) h nc ns = (f_aa G d 8 K 9 lv st h nc ns (h a) j) := am_u e_8_8
theorem e_8_9 : pg_code 8 9 = some (.aload_n 1, 1, 0, 0) := by decide +kernel
theorem u_8_9 {a : Nat} {z0 : Option Value} {lv : am_L} {st : List Value} : am_W G (am_M G d) 8 K 9 (z0 :: some (.ref a) :: lv) st h nc ns = (am_W G (am_M G d) 8 K 10 (z0 :: some (.ref a) :: lv) (.ref a :: st) h nc ns) := am_u e_8_9
theorem e_8_10 : pg_code 8 10 = some (.invokevirtual 27, 3, 9, 2) := by decide +kernel
theorem u_8_10 {a : Nat} {v0 : Value} {lv : am_L} {st : List Value} : am_W G (am_M G d) 8 K 10 lv (v0 :: .ref a :: st) h nc ns = ((am_words st ≤ 8 ∧ nc + 0 ≤ 0 ∧ ns + 0 ≤ 0 ∧ f_rc (h a) 5) ∧ am_M G d 9 [.ref a, v0] h (am_back 8 K (am_W G (am_M G d) 8 K) 9 10 lv st nc ns)) := (am_u e_8_10).trans (f_iv_eq (a := a) (G := G) (d := d) (k := 8) (K := K) (pc := 10) (lv := lv) (st := st) (h := h) (nc := nc) (ns := ns) (x := 9) (X := am_W G (am_M G d) 8 K) [v0] (by decide) rfl)
theorem e_8_13 : pg_code 8 13 = some (.aload_n 0, 1, 0, 0) := by decide +kernel
theorem u_8_13 {a : Nat} {lv : am_L} {st : List Value} : am_W G (am_M G d) 8 K 13 (some (.ref a) :: lv) st h nc ns = (am_W G (am_M G d) 8 K 14 (some (.ref a) :: lv) (.ref a :: st) h nc ns) := am_u e_8_13
theorem e_8_14 : pg_code 8 14 = some (.aload_n 0, 1, 0, 0) := by decide +kernel
theorem u_8_14 {a : Nat} {lv : am_L} {st : List Value} : am_W G (am_M G d) 8 K 14 (some (.ref a) :: lv) st h nc ns = (am_W G (am_M G d) 8 K 15 (some (.ref a) :: lv) (.ref a :: st) h nc ns) := am_u e_8_14
theorem e_8_15 : pg_code 8 15 = some (.getfield 23, 3, 3, 1) := by decide +kernel
theorem u_8_15 {a : Nat} {lv : am_L} {st : List Value} : am_W G (am_M G d) 8 K 15 lv (.ref a :: st) h nc ns = (f_gf G d 8 K 18 lv st h nc ns (h a) 3 1) := am_u e_8_15
theorem e_8_18 : pg_code 8 18 = some (.iconst 1, 1, 0, 0) := by decide +kernel
theorem u_8_18 {lv : am_L} {st : List Value} : am_W G (am_M G d) 8 K 18 lv st h nc ns = (am_W G (am_M G d) 8 K 19 lv (.int 1 :: st) h nc ns) := am_u e_8_18
theorem e_8_19 : pg_code 8 19 = some (.iadd, 1, 0, 0) := by decide +kernel
theorem u_8_19 {a b : Int32} {lv : am_L} {st : List Value} : am_W G (am_M G d) 8 K 19 lv (.int b :: .int a :: st) h nc ns = (am_W G (am_M G d) 8 K 20 lv (.int (a + b) :: st) h nc ns) := am_u e_8_19
theorem e_8_20 : pg_code 8 20 = some (.bipush 16, 2, 0, 0) := by decide +kernel
theorem u_8_20 {lv : am_L} {st : List Value} : am_W G (am_M G d) 8 K 20 lv st h nc ns = (am_W G (am_M G d) 8 K 22 lv (.int 16 :: st) h nc ns) := am_u e_8_20
theorem e_8_22 : pg_code 8 22 = some (.irem, 1, 0, 0) := by decide +kernel
theorem u_8_22 {a b : Int32} {lv : am_L} {st : List Value} : am_W G (am_M G d) 8 K 22 lv (.int b :: .int a :: st) h nc ns = (¬ b = 0 ∧ am_W G (am_M G d) 8 K 23 lv (.int (a - a / b * b) :: st) h nc ns) := am_u e_8_22
theorem e_8_23 : pg_code 8 23 = some (.putfield 23, 3, 3, 1) := by decide +kernel
theorem u_8_23 {a : Nat} {b : Int32} {lv : am_L} {st : List Value} : am_W G (am_M G d) 8 K 23 lv (.int b :: .ref a :: st) h nc ns = (f_pf G d 8 K 26 lv st h nc ns (h a) 3 1 a (.int b)) := (am_u e_8_23).trans (f_pf_eq ⟨rfl, rfl⟩)
theorem e_8_26 : pg_code 8 26 = some (.aload_n 0, 1, 0, 0) := by decide +kernel
theorem u_8_26 {a : Nat} {lv : am_L} {st : List Value} : am_W G (am_M G d) 8 K 26 (some (.ref a) :: lv) st h nc ns = (am_W G (am_M G d) 8 K 27 (some (.ref a) :: lv) (.ref a :: st) h nc ns) := am_u e_8_26
theorem e_8_27 : pg_code 8 27 = some (.getfield 31, 3, 3, 2) := by decide +kernel
theorem u_8_27 {a : Nat} {lv : am_L} {st : List Value} : am_W G (am_M G d) 8 K 27 lv (.ref a :: st) h nc ns = (f_gf G d 8 K 30 lv st h nc ns (h a) 3 2) := am_u e_8_27
theorem e_8_30 : pg_code 8 30 = some (.bipush 16, 2, 0, 0) := by decide +kernel
theorem u_8_30 {lv : am_L} {st : List Value} : am_W G (am_M G d) 8 K 30 lv st h nc ns = (am_W G (am_M G d) 8 K 32 lv (.int 16 :: st) h nc ns) := am_u e_8_30
theorem e_8_32 : pg_code 8 32 = some (.if_icmp .ge 13, 3, 45, 0) := by decide +kernel
theorem u_8_32 {a b : Int32} {lv : am_L} {st : List Value} : am_W G (am_M G d) 8 K 32 lv (.int b :: .int a :: st) h nc ns = (am_br (b ≤ a) (am_W G (am_M G d) 8 K 45 lv st h nc ns) (am_W G (am_M G d) 8 K 35 lv st h nc ns)) := am_u e_8_32
theorem e_8_35 : pg_code 8 35 = some (.aload_n 0, 1, 0, 0) := by decide +kernel
theorem u_8_35 {a : Nat} {lv : am_L} {st : List Value} : am_W G (am_M G d) 8 K 35 (some (.ref a) :: lv) st h nc ns = (am_W G (am_M G d) 8 K 36 (some (.ref a) :: lv) (.ref a :: st) h nc ns) := am_u e_8_35
theorem e_8_36 : pg_code 8 36 = some (.dup, 1, 0, 0) := by decide +kernel
theorem u_8_36 {a : Nat} {lv : am_L} {st : List Value} : am_W G (am_M G d) 8 K 36 lv (.ref a :: st) h nc ns = (am_W G (am_M G d) 8 K 37 lv (.ref a :: .ref a :: st) h nc ns) := (am_u e_8_36).trans (f_t rfl)
theorem e_8_37 : pg_code 8 37 = some (.getfield 31, 3, 3, 2) := by decide +kernel
theorem u_8_37 {a : Nat} {lv : am_L} {st : List Value} : am_W G (am_M G d) 8 K 37 lv (.ref a :: st) h nc ns = (f_gf G d 8 K 40 lv st h nc ns (h a) 3 2) := am_u e_8_37
theorem e_8_40 : pg_code 8 40 = some (.iconst 1, 1, 0, 0) := by decide +kernel
theorem u_8_40 {lv : am_L} {st : List Value} : am_W G (am_M G d) 8 K 40 lv st h nc ns = (am_W G (am_M G d) 8 K 41 lv (.int 1 :: st) h nc ns) := am_u e_8_40
theorem e_8_41 : pg_code 8 41 = some (.iadd, 1, 0, 0) := by decide +kernel
theorem u_8_41 {a b : Int32} {lv : am_L} {st : List Value} : am_W G (am_M G d) 8 K 41 lv (.int b :: .int a :: st) h nc ns = (am_W G (am_M G d) 8 K 42 lv (.int (a + b) :: st) h nc ns) := am_u e_8_41
theorem e_8_42 : pg_code 8 42 = some (.putfield 31, 3, 3, 2) := by decide +kernel
theorem u_8_42 {a : Nat} {b : Int32} {lv : am_L} {st : List Value} : am_W G (am_M G d) 8 K 42 lv (.int b :: .ref a :: st) h nc ns = (f_pf G d 8 K 45 lv st h nc ns (h a) 3 2 a (.int b)) := (am_u e_8_42).trans (f_pf_eq ⟨rfl, rfl⟩)
theorem e_8_45 : pg_code 8 45 = some (.return_, 1, 0, 0) := by decide +kernel
theorem u_8_45 {lv : am_L} : am_W G (am_M G d) 8 K 45 lv [] h nc ns = (K (.inl none) h) := (am_u e_8_45).trans (f_t ⟨rfl, rfl⟩)
theorem e_9_0 : pg_code 9 0 = some (.aload_n 1, 1, 0, 0) := by decide +kernel
theorem u_9_0 {a : Nat} {z0 : Option Value} {lv : am_L} {st : List Value} : am_W G (am_M G d) 9 K 0 (z0 :: some (.ref a) :: lv) st h nc ns = (am_W G (am_M G d) 9 K 1 (z0 :: some (.ref a) :: lv) (.ref a :: st) h nc ns) := am_u e_9_0
theorem e_9_1 : pg_code 9 1 = some (.getfield 42, 3, 5, 0) := by decide +kernel
theorem u_9_1 {a : Nat} {lv : am_L} {st : List Value} : am_W G (am_M G d) 9 K 1 lv (.ref a :: st) h nc ns = (f_gf G d 9 K 4 lv st h nc ns (h a) 5 0) := am_u e_9_1
theorem e_9_4 : pg_code 9 4 = some (.getfield 53, 3, 2, 3) := by decide +kernel
theorem u_9_4 {a : Nat} {lv : am_L} {st : List Value} : am_W G (am_M G d) 9 K 4 lv (.ref a :: st) h nc ns = (f_gf G d 9 K 7 lv st h nc ns (h a) 2 3) := am_u e_9_4
theorem e_9_7 : pg_code 9 7 = some (.istore_n 2, 1, 0, 0) := by decide +kernel
theorem u_9_7 {a : Int32} {lv : am_L} {st : List Value} : am_W G (am_M G d) 9 K 7 lv (.int a :: st) h nc ns = (am_W G (am_M G d) 9 K 8 (am_st1 lv 2 (.int a)) st h nc ns) := (am_u e_9_7).trans (f_t (by decide +kernel))
theorem e_9_8 : pg_code 9 8 = some (.aload_n 0, 1, 0, 0) := by decide +kernel
theorem u_9_8 {a : Nat} {lv : am_L} {st : List Value} : am_W G (am_M G d) 9 K 8 (some (.ref a) :: lv) st h nc ns = (am_W G (am_M G d) 9 K 9 (some (.ref a) :: lv) (.ref a :: st) h nc ns) := am_u e_9_8
theorem e_9_9 : pg_code 9 9 = some (.aload_n 1, 1, 0, 0) := by decide +kernel
theorem u_9_9 {a : Nat} {z0 : Option Value} {lv : am_L} {st : List Value} : am_W G (am_M G d) 9 K 9 (z0 :: some (.ref a) :: lv) st h nc ns = (am_W G (am_M G d) 9 K 10 (z0 :: some (.ref a) :: lv) (.ref a :: st) h nc ns) := am_u e_9_9
theorem e_9_10 : pg_code 9 10 = some (.getfield 49, 3, 5, 2) := by decide +kernel
theorem u_9_10 {a : Nat} {lv : am_L} {st : List Value} : am_W G (am_M G d) 9 K 10 lv (.ref a :: st) h nc ns = (f_gf G d 9 K 13 lv st h nc ns (h a) 5 2) := am_u e_9_10
theorem e_9_13 : pg_code 9 13 = some (.putfield 49, 3, 5, 2) := by decide +kernel
theorem u_9_13 {a : Nat} {b : Int32} {lv : am_L} {st : List Value} : am_W G (am_M G d) 9 K 13 lv (.int b :: .ref a :: st) h nc ns = (f_pf G d 9 K 16 lv st h nc ns (h a) 5 2 a (.int b)) := (am_u e_9_13).trans (f_pf_eq ⟨rfl, rfl⟩)
theorem e_9_16 : pg_code 9 16 = some (.aload_n 1, 1, 0, 0) := by decide +kernel
theorem u_9_16 {a : Nat} {z0 : Option Value} {lv : am_L} {st : List Value} : am_W G (am_M G d) 9 K 16 (z0 :: some (.ref a) :: lv) st h nc ns = (am_W G (am_M G d) 9 K 17 (z0 :: some (.ref a) :: lv) (.ref a :: st) h nc ns) := am_u e_9_16
theorem e_9_17 : pg_code 9 17 = some (.getfield 9, 3, 5, 1) := by decide +kernel
theorem u_9_17 {a : Nat} {lv : am_L} {st : List Value} : am_W G (am_M G d) 9 K 17 lv (.ref a :: st) h nc ns = (f_gf G d 9 K 20 lv st h nc ns (h a) 5 1) := am_u e_9_17
theorem e_9_20 : pg_code 9 20 = some (.iconst 0, 1, 0, 0) := by decide +kernel
theorem u_9_20 {lv : am_L} {st : List Value} : am_W G (am_M G d) 9 K 20 lv st h nc ns = (am_W G (am_M G d) 9 K 21 lv (.int 0 :: st) h nc ns) := am_u e_9_20
theorem e_9_21 : pg_code 9 21 = some (.aload_n 0, 1, 0, 0) := by decide +kernel
theorem u_9_21 {a : Nat} {lv : am_L} {st : List Value} : am_W G (am_M G d) 9 K 21 (some (.ref a) :: lv) st h nc ns = (am_W G (am_M G d) 9 K 22 (some (.ref a) :: lv) (.ref a :: st) h nc ns) := am_u e_9_21
theorem e_9_22 : pg_code 9 22 = some (.getfield 9, 3, 5, 1) := by decide +kernel
theorem u_9_22 {a : Nat} {lv : am_L} {st : List Value} : am_W G (am_M G d) 9 K 22 lv (.ref a :: st) h nc ns = (f_gf G d 9 K 25 lv st h nc ns (h a) 5 1) := am_u e_9_22
theorem e_9_25 : pg_code 9 25 = some (.iconst 0, 1, 0, 0) := by decide +kernel
theorem u_9_25 {lv : am_L} {st : List Value} : am_W G (am_M G d) 9 K 25 lv st h nc ns = (am_W G (am_M G d) 9 K 26 lv (.int 0 :: st) h nc ns) := am_u e_9_25
theorem e_9_26 : pg_code 9 26 = some (.aload_n 0, 1, 0, 0) := by decide +kernel
theorem u_9_26 {a : Nat} {lv : am_L} {st : List Value} : am_W G (am_M G d) 9 K 26 (some (.ref a) :: lv) st h nc ns = (am_W G (am_M G d) 9 K 27 (some (.ref a) :: lv) (.ref a :: st) h nc ns) := am_u e_9_26
theorem e_9_27 : pg_code 9 27 = some (.getfield 49, 3, 5, 2) := by decide +kernel
theorem u_9_27 {a : Nat} {lv : am_L} {st : List Value} : am_W G (am_M G d) 9 K 27 lv (.ref a :: st) h nc ns = (f_gf G d 9 K 30 lv st h nc ns (h a) 5 2) := am_u e_9_27
theorem e_9_30 : pg_code 9 30 = some (.invokestatic 95, 3, 901, 5) := by decide +kernel
theorem u_9_30 {a0 a1 : Nat} {sp dp n : Int32} {lv : am_L} {st : List Value} : am_W G (am_M G d) 9 K 30 lv (.int n :: .int dp :: .ref a1 :: .int sp :: .ref a0 :: st) h nc ns = (am_words st ≤ 8 ∧ f_cp G d 9 K 33 lv st h nc ns a0 a1 sp dp n) := am_u e_9_30
theorem e_9_33 : pg_code 9 33 = some (.aload_n 0, 1, 0, 0) := by decide +kernel
theorem u_9_33 {a : Nat} {lv : am_L} {st : List Value} : am_W G (am_M G d) 9 K 33 (some (.ref a) :: lv) st h nc ns = (am_W G (am_M G d) 9 K 34 (some (.ref a) :: lv) (.ref a :: st) h nc ns) := am_u e_9_33
theorem e_9_34 : pg_code 9 34 = some (.getfield 42, 3, 5, 0) := by decide +kernel
theorem u_9_34 {a : Nat} {lv : am_L} {st : List Value} : am_W G (am_M G d) 9 K 34 lv (.ref a :: st) h nc ns = (f_gf G d 9 K 37 lv st h nc ns (h a) 5 0) := am_u e_9_34
theorem e_9_37 : pg_code 9 37 = some (.aload_n 1, 1, 0, 0) := by decide +kernel
theorem u_9_37 {a : Nat} {z0 : Option Value} {lv : am_L} {st : List Value} : am_W G (am_M G d) 9 K 37 (z0 :: some (.ref a) :: lv) st h nc ns = (am_W G (am_M G d) 9 K 38 (z0 :: some (.ref a) :: lv) (.ref a :: st) h nc ns) := am_u e_9_37
theorem e_9_38 : pg_code 9 38 = some (.getfield 42, 3, 5, 0) := by decide +kernel
theorem u_9_38 {a : Nat} {lv : am_L} {st : List Value} : am_W G (am_M G d) 9 K 38 lv (.ref a :: st) h nc ns = (f_gf G d 9 K 41 lv st h nc ns (h a) 5 0) := am_u e_9_38
theorem e_9_41 : pg_code 9 41 = some (.invokevirtual 101, 3, 10, 2) := by decide +kernel
theorem u_9_41 {a : Nat} {v0 : Value} {lv : am_L} {st : List Value} : am_W G (am_M G d) 9 K 41 lv (v0 :: .ref a :: st) h nc ns = ((am_words st ≤ 8 ∧ nc + 0 ≤ 0 ∧ ns + 0 ≤ 0 ∧ f_rc (h a) 2) ∧ am_M G d 10 [.ref a, v0] h (am_back 9 K (am_W G (am_M G d) 9 K) 10 41 lv st nc ns)) := (am_u e_9_41).trans (f_iv_eq (a := a) (G := G) (d := d) (k := 9) (K := K) (pc := 41) (lv := lv) (st := st) (h := h) (nc := nc) (ns := ns) (x := 10) (X := am_W G (am_M G d) 9 K) [v0] (by decide) rfl)
theorem e_9_44 : pg_code 9 44 = some (.aload_n 1, 1, 0, 0) := by decide +kernel
theorem u_9_44 {a : Nat} {z0 : Option Value} {lv : am_L} {st : List Value} : am_W G (am_M G d) 9 K 44 (z0 :: some (.ref a) :: lv) st h nc ns = (am_W G (am_M G d) 9 K 45 (z0 :: some (.ref a) :: lv) (.ref a :: st) h nc ns) := am_u e_9_44
theorem e_9_45 : pg_code 9 45 = some (.getfield 15, 3, 5, 3) := by decide +kernel
theorem u_9_45 {a : Nat} {lv : am_L} {st : List Value} : am_W G (am_M G d) 9 K 45 lv (.ref a :: st) h nc ns = (f_gf G d 9 K 48 lv st h nc ns (h a) 5 3) := am_u e_9_45
theorem e_9_48 : pg_code 9 48 = some (.iconst 0, 1, 0, 0) := by decide +kernel
theorem u_9_48 {lv : am_L} {st : List Value} : am_W G (am_M G d) 9 K 48 lv st h nc ns = (am_W G (am_M G d) 9 K 49 lv (.int 0 :: st) h nc ns) := am_u e_9_48
theorem e_9_49 : pg_code 9 49 = some (.aload_n 0, 1, 0, 0) := by decide +kernel
theorem u_9_49 {a : Nat} {lv : am_L} {st : List Value} : am_W G (am_M G d) 9 K 49 (some (.ref a) :: lv) st h nc ns = (am_W G (am_M G d) 9 K 50 (some (.ref a) :: lv) (.ref a :: st) h nc ns) := am_u e_9_49
theorem e_9_50 : pg_code 9 50 = some (.getfield 15, 3, 5, 3) := by decide +kernel
theorem u_9_50 {a : Nat} {lv : am_L} {st : List Value} : am_W G (am_M G d) 9 K 50 lv (.ref a :: st) h nc ns = (f_gf G d 9 K 53 lv st h nc ns (h a) 5 3) := am_u e_9_50
theorem e_9_53 : pg_code 9 53 = some (.iconst 0, 1, 0, 0) := by decide +kernel
theorem u_9_53 {lv : am_L} {st : List Value} : am_W G (am_M G d) 9 K 53 lv st h nc ns = (am_W G (am_M G d) 9 K 54 lv (.int 0 :: st) h nc ns) := am_u e_9_53
theorem e_9_54 : pg_code 9 54 = some (.iload_n 2, 1, 0, 0) := by decide +kernel
theorem u_9_54 {a : Int32} {z0 : Option Value} {z1 : Option Value} {lv : am_L} {st : List Value} : am_W G (am_M G d) 9 K 54 (z0 :: z1 :: some (.int a) :: lv) st h nc ns = (am_W G (am_M G d) 9 K 55 (z0 :: z1 :: some (.int a) :: lv) (.int a :: st) h nc ns) := am_u e_9_54
theorem e_9_55 : pg_code 9 55 = some (.invokestatic 95, 3, 901, 5) := by decide +kernel
theorem u_9_55 {a0 a1 : Nat} {sp dp n : Int32} {lv : am_L} {st : List Value} : am_W G (am_M G d) 9 K 55 lv (.int n :: .int dp :: .ref a1 :: .int sp :: .ref a0 :: st) h nc ns = (am_words st ≤ 8 ∧ f_cp G d 9 K 58 lv st h nc ns a0 a1 sp dp n) := am_u e_9_55
theorem e_9_58 : pg_code 9 58 = some (.aload_n 1, 1, 0, 0) := by decide +kernel
theorem u_9_58 {a : Nat} {z0 : Option Value} {lv : am_L} {st : List Value} : am_W G (am_M G d) 9 K 58 (z0 :: some (.ref a) :: lv) st h nc ns = (am_W G (am_M G d) 9 K 59 (z0 :: some (.ref a) :: lv) (.ref a :: st) h nc ns) := am_u e_9_58
theorem e_9_59 : pg_code 9 59 = some (.getfield 19, 3, 5, 4) := by decide +kernel
theorem u_9_59 {a : Nat} {lv : am_L} {st : List Value} : am_W G (am_M G d) 9 K 59 lv (.ref a :: st) h nc ns = (f_gf G d 9 K 62 lv st h nc ns (h a) 5 4) := am_u e_9_59
theorem e_9_62 : pg_code 9 62 = some (.iconst 0, 1, 0, 0) := by decide +kernel
theorem u_9_62 {lv : am_L} {st : List Value} : am_W G (am_M G d) 9 K 62 lv st h nc ns = (am_W G (am_M G d) 9 K 63 lv (.int 0 :: st) h nc ns) := am_u e_9_62
theorem e_9_63 : pg_code 9 63 = some (.aload_n 0, 1, 0, 0) := by decide +kernel
theorem u_9_63 {a : Nat} {lv : am_L} {st : List Value} : am_W G (am_M G d) 9 K 63 (some (.ref a) :: lv) st h nc ns = (am_W G (am_M G d) 9 K 64 (some (.ref a) :: lv) (.ref a :: st) h nc ns) := am_u e_9_63
theorem e_9_64 : pg_code 9 64 = some (.getfield 19, 3, 5, 4) := by decide +kernel
theorem u_9_64 {a : Nat} {lv : am_L} {st : List Value} : am_W G (am_M G d) 9 K 64 lv (.ref a :: st) h nc ns = (f_gf G d 9 K 67 lv st h nc ns (h a) 5 4) := am_u e_9_64
theorem e_9_67 : pg_code 9 67 = some (.iconst 0, 1, 0, 0) := by decide +kernel
theorem u_9_67 {lv : am_L} {st : List Value} : am_W G (am_M G d) 9 K 67 lv st h nc ns = (am_W G (am_M G d) 9 K 68 lv (.int 0 :: st) h nc ns) := am_u e_9_67
theorem e_9_68 : pg_code 9 68 = some (.iload_n 2, 1, 0, 0) := by decide +kernel
theorem u_9_68 {a : Int32} {z0 : Option Value} {z1 : Option Value} {lv : am_L} {st : List Value} : am_W G (am_M G d) 9 K 68 (z0 :: z1 :: some (.int a) :: lv) st h nc ns = (am_W G (am_M G d) 9 K 69 (z0 :: z1 :: some (.int a) :: lv) (.int a :: st) h nc ns) := am_u e_9_68
theorem e_9_69 : pg_code 9 69 = some (.invokestatic 95, 3, 901, 5) := by decide +kernel
theorem u_9_69 {a0 a1 : Nat} {sp dp n : Int32} {lv : am_L} {st : List Value} : am_W G (am_M G d) 9 K 69 lv (.int n :: .int dp :: .ref a1 :: .int sp :: .ref a0 :: st) h nc ns = (am_words st ≤ 8 ∧ f_cp G d 9 K 72 lv st h nc ns a0 a1 sp dp n) := am_u e_9_69
theorem e_9_72 : pg_code 9 72 = some (.aload_n 1, 1, 0, 0) := by decide +kernel
theorem u_9_72 {a : Nat} {z0 : Option Value} {lv : am_L} {st : List Value} : am_W G (am_M G d) 9 K 72 (z0 :: some (.ref a) :: lv) st h nc ns = (am_W G (am_M G d) 9 K 73 (z0 :: some (.ref a) :: lv) (.ref a :: st) h nc ns) := am_u e_9_72
theorem e_9_73 : pg_code 9 73 = some (.getfield 23, 3, 5, 5) := by decide +kernel
theorem u_9_73 {a : Nat} {lv : am_L} {st : List Value} : am_W G (am_M G d) 9 K 73 lv (.ref a :: st) h nc ns = (f_gf G d 9 K 76 lv st h nc ns (h a) 5 5) := am_u e_9_73
theorem e_9_76 : pg_code 9 76 = some (.iconst 0, 1, 0, 0) := by decide +kernel
theorem u_9_76 {lv : am_L} {st : List Value} : am_W G (am_M G d) 9 K 76 lv st h nc ns = (am_W G (am_M G d) 9 K 77 lv (.int 0 :: st) h nc ns) := am_u e_9_76
theorem e_9_77 : pg_code 9 77 = some (.aload_n 0, 1, 0, 0) := by decide +kernel
theorem u_9_77 {a : Nat} {lv : am_L} {st : List Value} : am_W G (am_M G d) 9 K 77 (some (.ref a) :: lv) st h nc ns = (am_W G (am_M G d) 9 K 78 (some (.ref a) :: lv) (.ref a :: st) h nc ns) := am_u e_9_77
theorem e_9_78 : pg_code 9 78 = some (.getfield 23, 3, 5, 5) := by decide +kernel
theorem u_9_78 {a : Nat} {lv : am_L} {st : List Value} : am_W G (am_M G d) 9 K 78 lv (.ref a :: st) h nc ns = (f_gf G d 9 K 81 lv st h nc ns (h a) 5 5) := am_u e_9_78
theorem e_9_81 : pg_code 9 81 = some (.iconst 0, 1, 0, 0) := by decide +kernel
theorem u_9_81 {lv : am_L} {st : List Value} : am_W G (am_M G d) 9 K 81 lv st h nc ns = (am_W G (am_M G d) 9 K 82 lv (.int 0 :: st) h nc ns) := am_u e_9_81
theorem e_9_82 : pg_code 9 82 = some (.iload_n 2, 1, 0, 0) := by decide +kernel
theorem u_9_82 {a : Int32} {z0 : Option Value} {z1 : Option Value} {lv : am_L} {st : List Value} : am_W G (am_M G d) 9 K 82 (z0 :: z1 :: some (.int a) :: lv) st h nc ns = (am_W G (am_M G d) 9 K 83 (z0 :: z1 :: some (.int a) :: lv) (.int a :: st) h nc ns) := am_u e_9_82
theorem e_9_83 : pg_code 9 83 = some (.invokestatic 95, 3, 901, 5) := by decide +kernel
theorem u_9_83 {a0 a1 : Nat} {sp dp n : Int32} {lv : am_L} {st : List Value} : am_W G (am_M G d) 9 K 83 lv (.int n :: .int dp :: .ref a1 :: .int sp :: .ref a0 :: st) h nc ns = (am_words st ≤ 8 ∧ f_cp G d 9 K 86 lv st h nc ns a0 a1 sp dp n) := am_u e_9_83
theorem e_9_86 : pg_code 9 86 = some (.aload_n 0, 1, 0, 0) := by decide +kernel
theorem u_9_86 {a : Nat} {lv : am_L} {st : List Value} : am_W G (am_M G d) 9 K 86 (some (.ref a) :: lv) st h nc ns = (am_W G (am_M G d) 9 K 87 (some (.ref a) :: lv) (.ref a :: st) h nc ns) := am_u e_9_86
theorem e_9_87 : pg_code 9 87 = some (.getfield 29, 3, 5, 6) := by decide +kernel
theorem u_9_87 {a : Nat} {lv : am_L} {st : List Value} : am_W G (am_M G d) 9 K 87 lv (.ref a :: st) h nc ns = (f_gf G d 9 K 90 lv st h nc ns (h a) 5 6) := am_u e_9_87
theorem e_9_90 : pg_code 9 90 = some (.aload_n 1, 1, 0, 0) := by decide +kernel
theorem u_9_90 {a : Nat} {z0 : Option Value} {lv : am_L} {st : List Value} : am_W G (am_M G d) 9 K 90 (z0 :: some (.ref a) :: lv) st h nc ns = (am_W G (am_M G d) 9 K 91 (z0 :: some (.ref a) :: lv) (.ref a :: st) h nc ns) := am_u e_9_90
theorem e_9_91 : pg_code 9 91 = some (.getfield 29, 3, 5, 6) := by decide +kernel
theorem u_9_91 {a : Nat} {lv : am_L} {st : List Value} : am_W G (am_M G d) 9 K 91 lv (.ref a :: st) h nc ns = (f_gf G d 9 K 94 lv st h nc ns (h a) 5 6) := am_u e_9_91
theorem e_9_94 : pg_code 9 94 = some (.invokevirtual 101, 3, 10, 2) := by decide +kernel
theorem u_9_94 {a : Nat} {v0 : Value} {lv : am_L} {st : List Value} : am_W G (am_M G d) 9 K 94 lv (v0 :: .ref a :: st) h nc ns = ((am_words st ≤ 8 ∧ nc + 0 ≤ 0 ∧ ns + 0 ≤ 0 ∧ f_rc (h a) 2) ∧ am_M G d 10 [.ref a, v0] h (am_back 9 K (am_W G (am_M G d) 9 K) 10 94 lv st nc ns)) := (am_u e_9_94).trans (f_iv_eq (a := a) (G := G) (d := d) (k := 9) (K := K) (pc := 94) (lv := lv) (st := st) (h := h) (nc := nc) (ns := ns) (x := 10) (X := am_W G (am_M G d) 9 K) [v0] (by decide) rfl)
theorem e_9_97 : pg_code 9 97 = some (.aload_n 1, 1, 0, 0) := by decide +kernel
theorem u_9_97 {a : Nat} {z0 : Option Value} {lv : am_L} {st : List Value} : am_W G (am_M G d) 9 K 97 (z0 :: some (.ref a) :: lv) st h nc ns = (am_W G (am_M G d) 9 K 98 (z0 :: some (.ref a) :: lv) (.ref a :: st) h nc ns) := am_u e_9_97
theorem e_9_98 : pg_code 9 98 = some (.getfield 33, 3, 5, 7) := by decide +kernel
theorem u_9_98 {a : Nat} {lv : am_L} {st : List Value} : am_W G (am_M G d) 9 K 98 lv (.ref a :: st) h nc ns = (f_gf G d 9 K 101 lv st h nc ns (h a) 5 7) := am_u e_9_98
theorem e_9_101 : pg_code 9 101 = some (.iconst 0, 1, 0, 0) := by decide +kernel
theorem u_9_101 {lv : am_L} {st : List Value} : am_W G (am_M G d) 9 K 101 lv st h nc ns = (am_W G (am_M G d) 9 K 102 lv (.int 0 :: st) h nc ns) := am_u e_9_101
theorem e_9_102 : pg_code 9 102 = some (.aload_n 0, 1, 0, 0) := by decide +kernel
theorem u_9_102 {a : Nat} {lv : am_L} {st : List Value} : am_W G (am_M G d) 9 K 102 (some (.ref a) :: lv) st h nc ns = (am_W G (am_M G d) 9 K 103 (some (.ref a) :: lv) (.ref a :: st) h nc ns) := am_u e_9_102
theorem e_9_103 : pg_code 9 103 = some (.getfield 33, 3, 5, 7) := by decide +kernel
theorem u_9_103 {a : Nat} {lv : am_L} {st : List Value} : am_W G (am_M G d) 9 K 103 lv (.ref a :: st) h nc ns = (f_gf G d 9 K 106 lv st h nc ns (h a) 5 7) := am_u e_9_103
theorem e_9_106 : pg_code 9 106 = some (.iconst 0, 1, 0, 0) := by decide +kernel
theorem u_9_106 {lv : am_L} {st : List Value} : am_W G (am_M G d) 9 K 106 lv st h nc ns = (am_W G (am_M G d) 9 K 107 lv (.int 0 :: st) h nc ns) := am_u e_9_106
theorem e_9_107 : pg_code 9 107 = some (.iload_n 2, 1, 0, 0) := by decide +kernel
theorem u_9_107 {a : Int32} {z0 : Option Value} {z1 : Option Value} {lv : am_L} {st : List Value} : am_W G (am_M G d) 9 K 107 (z0 :: z1 :: some (.int a) :: lv) st h nc ns = (am_W G (am_M G d) 9 K 108 (z0 :: z1 :: some (.int a) :: lv) (.int a :: st) h nc ns) := am_u e_9_107
theorem e_9_108 : pg_code 9 108 = some (.invokestatic 95, 3, 901, 5) := by decide +kernel
theorem u_9_108 {a0 a1 : Nat} {sp dp n : Int32} {lv : am_L} {st : List Value} : am_W G (am_M G d) 9 K 108 lv (.int n :: .int dp :: .ref a1 :: .int sp :: .ref a0 :: st) h nc ns = (am_words st ≤ 8 ∧ f_cp G d 9 K 111 lv st h nc ns a0 a1 sp dp n) := am_u e_9_108
theorem e_9_111 : pg_code 9 111 = some (.aload_n 1, 1, 0, 0) := by decide +kernel
theorem u_9_111 {a : Nat} {z0 : Option Value} {lv : am_L} {st : List Value} : am_W G (am_M G d) 9 K 111 (z0 :: some (.ref a) :: lv) st h nc ns = (am_W G (am_M G d) 9 K 112 (z0 :: some (.ref a) :: lv) (.ref a :: st) h nc ns) := am_u e_9_111
theorem e_9_112 : pg_code 9 112 = some (.getfield 36, 3, 5, 8) := by decide +kernel
theorem u_9_112 {a : Nat} {lv : am_L} {st : List Value} : am_W G (am_M G d) 9 K 112 lv (.ref a :: st) h nc ns = (f_gf G d 9 K 115 lv st h nc ns (h a) 5 8) := am_u e_9_112
theorem e_9_115 : pg_code 9 115 = some (.iconst 0, 1, 0, 0) := by decide +kernel
theorem u_9_115 {lv : am_L} {st : List Value} : am_W G (am_M G d) 9 K 115 lv st h nc ns = (am_W G (am_M G d) 9 K 116 lv (.int 0 :: st) h nc ns) := am_u e_9_115
theorem e_9_116 : pg_code 9 116 = some (.aload_n 0, 1, 0, 0) := by decide +kernel
theorem u_9_116 {a : Nat} {lv : am_L} {st : List Value} : am_W G (am_M G d) 9 K 116 (some (.ref a) :: lv) st h nc ns = (am_W G (am_M G d) 9 K 117 (some (.ref a) :: lv) (.ref a :: st) h nc ns) := am_u e_9_116
theorem e_9_117 : pg_code 9 117 = some (.getfield 36, 3, 5, 8) := by decide +kernel
theorem u_9_117 {a : Nat} {lv : am_L} {st : List Value} : am_W G (am_M G d) 9 K 117 lv (.ref a :: st) h nc ns = (f_gf G d 9 K 120 lv st h nc ns (h a) 5 8) := am_u e_9_117
theorem e_9_120 : pg_code 9 120 = some (.iconst 0, 1, 0, 0) := by decide +kernel
theorem u_9_120 {lv : am_L} {st : List Value} : am_W G (am_M G d) 9 K 120 lv st h nc ns = (am_W G (am_M G d) 9 K 121 lv (.int 0 :: st) h nc ns) := am_u e_9_120
theorem e_9_121 : pg_code 9 121 = some (.iload_n 2, 1, 0, 0) := by decide +kernel
theorem u_9_121 {a : Int32} {z0 : Option Value} {z1 : Option Value} {lv : am_L} {st : List Value} : am_W G (am_M G d) 9 K 121 (z0 :: z1 :: some (.int a) :: lv) st h nc ns = (am_W G (am_M G d) 9 K 122 (z0 :: z1 :: some (.int a) :: lv) (.int a :: st) h nc ns) := am_u e_9_121
theorem e_9_122 : pg_code 9 122 = some (.invokestatic 95, 3, 901, 5) := by decide +kernel
theorem u_9_122 {a0 a1 : Nat} {sp dp n : Int32} {lv : am_L} {st : List Value} : am_W G (am_M G d) 9 K 122 lv (.int n :: .int dp :: .ref a1 :: .int sp :: .ref a0 :: st) h nc ns = (am_words st ≤ 8 ∧ f_cp G d 9 K 125 lv st h nc ns a0 a1 sp dp n) := am_u e_9_122
theorem e_9_125 : pg_code 9 125 = some (.aload_n 1, 1, 0, 0) := by decide +kernel
theorem u_9_125 {a : Nat} {z0 : Option Value} {lv : am_L} {st : List Value} : am_W G (am_M G d) 9 K 125 (z0 :: some (.ref a) :: lv) st h nc ns = (am_W G (am_M G d) 9 K 126 (z0 :: some (.ref a) :: lv) (.ref a :: st) h nc ns) := am_u e_9_125
theorem e_9_126 : pg_code 9 126 = some (.getfield 39, 3, 5, 9) := by decide +kernel
theorem u_9_126 {a : Nat} {lv : am_L} {st : List Value} : am_W G (am_M G d) 9 K 126 lv (.ref a :: st) h nc ns = (f_gf G d 9 K 129 lv st h nc ns (h a) 5 9) := am_u e_9_126
theorem e_9_129 : pg_code 9 129 = some (.iconst 0, 1, 0, 0) := by decide +kernel
theorem u_9_129 {lv : am_L} {st : List Value} : am_W G (am_M G d) 9 K 129 lv st h nc ns = (am_W G (am_M G d) 9 K 130 lv (.int 0 :: st) h nc ns) := am_u e_9_129
theorem e_9_130 : pg_code 9 130 = some (.aload_n 0, 1, 0, 0) := by decide +kernel
theorem u_9_130 {a : Nat} {lv : am_L} {st : List Value} : am_W G (am_M G d) 9 K 130 (some (.ref a) :: lv) st h nc ns = (am_W G (am_M G d) 9 K 131 (some (.ref a) :: lv) (.ref a :: st) h nc ns) := am_u e_9_130
theorem e_9_131 : pg_code 9 131 = some (.getfield 39, 3, 5, 9) := by decide +kernel
theorem u_9_131 {a : Nat} {lv : am_L} {st : List Value} : am_W G (am_M G d) 9 K 131 lv (.ref a :: st) h nc ns = (f_gf G d 9 K 134 lv st h nc ns (h a) 5 9) := am_u e_9_131
theorem e_9_134 : pg_code 9 134 = some (.iconst 0, 1, 0, 0) := by decide +kernel
theorem u_9_134 {lv : am_L} {st : List Value} : am_W G (am_M G d) 9 K 134 lv st h nc ns = (am_W G (am_M G d) 9 K 135 lv (.int 0 :: st) h nc ns) := am_u e_9_134
theorem e_9_135 : pg_code 9 135 = some (.iload_n 2, 1, 0, 0) := by decide +kernel
theorem u_9_135 {a : Int32} {z0 : Option Value} {z1 : Option Value} {lv : am_L} {st : List Value} : am_W G (am_M G d) 9 K 135 (z0 :: z1 :: some (.int a) :: lv) st h nc ns = (am_W G (am_M G d) 9 K 136 (z0 :: z1 :: some (.int a) :: lv) (.int a :: st) h nc ns) := am_u e_9_135
theorem e_9_136 : pg_code 9 136 = some (.invokestatic 95, 3, 901, 5) := by decide +kernel
theorem u_9_136 {a0 a1 : Nat} {sp dp n : Int32} {lv : am_L} {st : List Value} : am_W G (am_M G d) 9 K 136 lv (.int n :: .int dp :: .ref a1 :: .int sp :: .ref a0 :: st) h nc ns = (am_words st ≤ 8 ∧ f_cp G d 9 K 139 lv st h nc ns a0 a1 sp dp n) := am_u e_9_136
theorem e_9_139 : pg_code 9 139 = some (.return_, 1, 0, 0) := by decide +kernel
theorem u_9_139 {lv : am_L} : am_W G (am_M G d) 9 K 139 lv [] h nc ns = (K (.inl none) h) := (am_u e_9_139).trans (f_t ⟨rfl, rfl⟩)
theorem e_10_0 : pg_code 10 0 = some (.aload_n 0, 1, 0, 0) := by decide +kernel
theorem u_10_0 {a : Nat} {lv : am_L} {st : List Value} : am_W G (am_M G d) 10 K 0 (some (.ref a) :: lv) st h nc ns = (am_W G (am_M G d) 10 K 1 (some (.ref a) :: lv) (.ref a :: st) h nc ns) := am_u e_10_0
theorem e_10_1 : pg_code 10 1 = some (.aload_n 1, 1, 0, 0) := by decide +kernel
theorem u_10_1 {a : Nat} {z0 : Option Value} {lv : am_L} {st : List Value} : am_W G (am_M G d) 10 K 1 (z0 :: some (.ref a) :: lv) st h nc ns = (am_W G (am_M G d) 10 K 2 (z0 :: some (.ref a) :: lv) (.ref a :: st) h nc ns) := am_u e_10_1
theorem e_10_2 : pg_code 10 2 = some (.getfield 25, 3, 2, 3) := by decide +kernel
theorem u_10_2 {a : Nat} {lv : am_L} {st : List Value} : am_W G (am_M G d) 10 K 2 lv (.ref a :: st) h nc ns = (f_gf G d 10 K 5 lv st h nc ns (h a) 2 3) := am_u e_10_2
theorem e_10_5 : pg_code 10 5 = some (.putfield 25, 3, 2, 3) := by decide +kernel
theorem u_10_5 {a : Nat} {b : Int32} {lv : am_L} {st : List Value} : am_W G (am_M G d) 10 K 5 lv (.int b :: .ref a :: st) h nc ns = (f_pf G d 10 K 8 lv st h nc ns (h a) 2 3 a (.int b)) := (am_u e_10_5).trans (f_pf_eq ⟨rfl, rfl⟩)
theorem e_10_8 : pg_code 10 8 = some (.aload_n 1, 1, 0, 0) := by decide +kernel
theorem u_10_8 {a : Nat} {z0 : Option Value} {lv : am_L} {st : List Value} : am_W G (am_M G d) 10 K 8 (z0 :: some (.ref a) :: lv) st h nc ns = (am_W G (am_M G d) 10 K 9 (z0 :: some (.ref a) :: lv) (.ref a :: st) h nc ns) := am_u e_10_8
theorem e_10_9 : pg_code 10 9 = some (.getfield 9, 3, 2, 0) := by decide +kernel
theorem u_10_9 {a : Nat} {lv : am_L} {st : List Value} : am_W G (am_M G d) 10 K 9 lv (.ref a :: st) h nc ns = (f_gf G d 10 K 12 lv st h nc ns (h a) 2 0) := am_u e_10_9
theorem e_10_12 : pg_code 10 12 = some (.iconst 0, 1, 0, 0) := by decide +kernel
theorem u_10_12 {lv : am_L} {st : List Value} : am_W G (am_M G d) 10 K 12 lv st h nc ns = (am_W G (am_M G d) 10 K 13 lv (.int 0 :: st) h nc ns) := am_u e_10_12
theorem e_10_13 : pg_code 10 13 = some (.aload_n 0, 1, 0, 0) := by decide +kernel
theorem u_10_13 {a : Nat} {lv : am_L} {st : List Value} : am_W G (am_M G d) 10 K 13 (some (.ref a) :: lv) st h nc ns = (am_W G (am_M G d) 10 K 14 (some (.ref a) :: lv) (.ref a :: st) h nc ns) := am_u e_10_13
theorem e_10_14 : pg_code 10 14 = some (.getfield 9, 3, 2, 0) := by decide +kernel
theorem u_10_14 {a : Nat} {lv : am_L} {st : List Value} : am_W G (am_M G d) 10 K 14 lv (.ref a :: st) h nc ns = (f_gf G d 10 K 17 lv st h nc ns (h a) 2 0) := am_u e_10_14
theorem e_10_17 : pg_code 10 17 = some (.iconst 0, 1, 0, 0) := by decide +kernel
theorem u_10_17 {lv : am_L} {st : List Value} : am_W G (am_M G d) 10 K 17 lv st h nc ns = (am_W G (am_M G d) 10 K 18 lv (.int 0 :: st) h nc ns) := am_u e_10_17
theorem e_10_18 : pg_code 10 18 = some (.aload_n 0, 1, 0, 0) := by decide +kernel
theorem u_10_18 {a : Nat} {lv : am_L} {st : List Value} : am_W G (am_M G d) 10 K 18 (some (.ref a) :: lv) st h nc ns = (am_W G (am_M G d) 10 K 19 (some (.ref a) :: lv) (.ref a :: st) h nc ns) := am_u e_10_18
theorem e_10_19 : pg_code 10 19 = some (.getfield 25, 3, 2, 3) := by decide +kernel
theorem u_10_19 {a : Nat} {lv : am_L} {st : List Value} : am_W G (am_M G d) 10 K 19 lv (.ref a :: st) h nc ns = (f_gf G d 10 K 22 lv st h nc ns (h a) 2 3) := am_u e_10_19
theorem e_10_22 : pg_code 10 22 = some (.invokestatic 29, 3, 901, 5) := by decide +kernel
theorem u_10_22 {a0 a1 : Nat} {sp dp n : Int32} {lv : am_L} {st : List Value} : am_W G (am_M G d) 10 K 22 lv (.int n :: .int dp :: .ref a1 :: .int sp :: .ref a0 :: st) h nc ns = (am_words st ≤ 8 ∧ f_cp G d 10 K 25 lv st h nc ns a0 a1 sp dp n) := am_u e_10_22
theorem e_10_25 : pg_code 10 25 = some (.aload_n 1, 1, 0, 0) := by decide +kernel
theorem u_10_25 {a : Nat} {z0 : Option Value} {lv : am_L} {st : List Value} : am_W G (am_M G d) 10 K 25 (z0 :: some (.ref a) :: lv) st h nc ns = (am_W G (am_M G d) 10 K 26 (z0 :: some (.ref a) :: lv) (.ref a :: st) h nc ns) := am_u e_10_25
theorem e_10_26 : pg_code 10 26 = some (.getfield 15, 3, 2, 1) := by decide +kernel
theorem u_10_26 {a : Nat} {lv : am_L} {st : List Value} : am_W G (am_M G d) 10 K 26 lv (.ref a :: st) h nc ns = (f_gf G d 10 K 29 lv st h nc ns (h a) 2 1) := am_u e_10_26
theorem e_10_29 : pg_code 10 29 = some (.iconst 0, 1, 0, 0) := by decide +kernel
theorem u_10_29 {lv : am_L} {st : List Value} : am_W G (am_M G d) 10 K 29 lv st h nc ns = (am_W G (am_M G d) 10 K 30 lv (.int 0 :: st) h nc ns) := am_u e_10_29
theorem e_10_30 : pg_code 10 30 = some (.aload_n 0, 1, 0, 0) := by decide +kernel
theorem u_10_30 {a : Nat} {lv : am_L} {st : List Value} : am_W G (am_M G d) 10 K 30 (some (.ref a) :: lv) st h nc ns = (am_W G (am_M G d) 10 K 31 (some (.ref a) :: lv) (.ref a :: st) h nc ns) := am_u e_10_30
theorem e_10_31 : pg_code 10 31 = some (.getfield 15, 3, 2, 1) := by decide +kernel
theorem u_10_31 {a : Nat} {lv : am_L} {st : List Value} : am_W G (am_M G d) 10 K 31 lv (.ref a :: st) h nc ns = (f_gf G d 10 K 34 lv st h nc ns (h a) 2 1) := am_u e_10_31
theorem e_10_34 : pg_code 10 34 = some (.iconst 0, 1, 0, 0) := by decide +kernel
theorem u_10_34 {lv : am_L} {st : List Value} : am_W G (am_M G d) 10 K 34 lv st h nc ns = (am_W G (am_M G d) 10 K 35 lv (.int 0 :: st) h nc ns) := am_u e_10_34
theorem e_10_35 : pg_code 10 35 = some (.aload_n 0, 1, 0, 0) := by decide +kernel
theorem u_10_35 {a : Nat} {lv : am_L} {st : List Value} : am_W G (am_M G d) 10 K 35 (some (.ref a) :: lv) st h nc ns = (am_W G (am_M G d) 10 K 36 (some (.ref a) :: lv) (.ref a :: st) h nc ns) := am_u e_10_35
theorem e_10_36 : pg_code 10 36 = some (.getfield 25, 3, 2, 3) := by decide +kernel
theorem u_10_36 {a : Nat} {lv : am_L} {st : List Value} : am_W G (am_M G d) 10 K 36 lv (.ref a :: st) h nc ns = (f_gf G d 10 K 39 lv st h nc ns (h a) 2 3) := am_u e_10_36
theorem e_10_39 : pg_code 10 39 = some (.invokestatic 29, 3, 901, 5) := by decide +kernel
theorem u_10_39 {a0 a1 : Nat} {sp dp n : Int32} {lv : am_L} {st : List Value} : am_W G (am_M G d) 10 K 39 lv (.int n :: .int dp :: .ref a1 :: .int sp :: .ref a0 :: st) h nc ns = (am_words st ≤ 8 ∧ f_cp G d 10 K 42 lv st h nc ns a0 a1 sp dp n) := am_u e_10_39
theorem e_10_42 : pg_code 10 42 = some (.aload_n 1, 1, 0, 0) := by decide +kernel
theorem u_10_42 {a : Nat} {z0 : Option Value} {lv : am_L} {st : List Value} : am_W G (am_M G d) 10 K 42 (z0 :: some (.ref a) :: lv) st h nc ns = (am_W G (am_M G d) 10 K 43 (z0 :: some (.ref a) :: lv) (.ref a :: st) h nc ns) := am_u e_10_42
theorem e_10_43 : pg_code 10 43 = some (.getfield 18, 3, 2, 2) := by decide +kernel
theorem u_10_43 {a : Nat} {lv : am_L} {st : List Value} : am_W G (am_M G d) 10 K 43 lv (.ref a :: st) h nc ns = (f_gf G d 10 K 46 lv st h nc ns (h a) 2 2) := am_u e_10_43
theorem e_10_46 : pg_code 10 46 = some (.iconst 0, 1, 0, 0) := by decide +kernel
theorem u_10_46 {lv : am_L} {st : List Value} : am_W G (am_M G d) 10 K 46 lv st h nc ns = (am_W G (am_M G d) 10 K 47 lv (.int 0 :: st) h nc ns) := am_u e_10_46
theorem e_10_47 : pg_code 10 47 = some (.aload_n 0, 1, 0, 0) := by decide +kernel
theorem u_10_47 {a : Nat} {lv : am_L} {st : List Value} : am_W G (am_M G d) 10 K 47 (some (.ref a) :: lv) st h nc ns = (am_W G (am_M G d) 10 K 48 (some (.ref a) :: lv) (.ref a :: st) h nc ns) := am_u e_10_47
theorem e_10_48 : pg_code 10 48 = some (.getfield 18, 3, 2, 2) := by decide +kernel
theorem u_10_48 {a : Nat} {lv : am_L} {st : List Value} : am_W G (am_M G d) 10 K 48 lv (.ref a :: st) h nc ns = (f_gf G d 10 K 51 lv st h nc ns (h a) 2 2) := am_u e_10_48
theorem e_10_51 : pg_code 10 51 = some (.iconst 0, 1, 0, 0) := by decide +kernel
theorem u_10_51 {lv : am_L} {st : List Value} : am_W G (am_M G d) 10 K 51 lv st h nc ns = (am_W G (am_M G d) 10 K 52 lv (.int 0 :: st) h nc ns) := am_u e_10_51
theorem e_10_52 : pg_code 10 52 = some (.aload_n 0, 1, 0, 0) := by decide +kernel
theorem u_10_52 {a : Nat} {lv : am_L} {st : List Value} : am_W G (am_M G d) 10 K 52 (some (.ref a) :: lv) st h nc ns = (am_W G (am_M G d) 10 K 53 (some (.ref a) :: lv) (.ref a :: st) h nc ns) := am_u e_10_52
theorem e_10_53 : pg_code 10 53 = some (.getfield 25, 3, 2, 3) := by decide +kernel
theorem u_10_53 {a : Nat} {lv : am_L} {st : List Value} : am_W G (am_M G d) 10 K 53 lv (.ref a :: st) h nc ns = (f_gf G d 10 K 56 lv st h nc ns (h a) 2 3) := am_u e_10_53
theorem e_10_56 : pg_code 10 56 = some (.invokestatic 29, 3, 901, 5) := by decide +kernel
theorem u_10_56 {a0 a1 : Nat} {sp dp n : Int32} {lv : am_L} {st : List Value} : am_W G (am_M G d) 10 K 56 lv (.int n :: .int dp :: .ref a1 :: .int sp :: .ref a0 :: st) h nc ns = (am_words st ≤ 8 ∧ f_cp G d 10 K 59 lv st h nc ns a0 a1 sp dp n) := am_u e_10_56
theorem e_10_59 : pg_code 10 59 = some (.return_, 1, 0, 0) := by decide +kernel
theorem u_10_59 {lv : am_L} : am_W G (am_M G d) 10 K 59 lv [] h nc ns = (K (.inl none) h) := (am_u e_10_59).trans (f_t ⟨rfl, rfl⟩)
theorem e_11_0 : pg_code 11 0 = some (.aload_n 0, 1, 0, 0) := by decide +kernel
theorem u_11_0 {a : Nat} {lv : am_L} {st : List Value} : am_W G (am_M G d) 11 K 0 (some (.ref a) :: lv) st h nc ns = (am_W G (am_M G d) 11 K 1 (some (.ref a) :: lv) (.ref a :: st) h nc ns) := am_u e_11_0
theorem e_11_1 : pg_code 11 1 = some (.getfield 38, 3, 4, 8) := by decide +kernel
theorem u_11_1 {a : Nat} {lv : am_L} {st : List Value} : am_W G (am_M G d) 11 K 1 lv (.ref a :: st) h nc ns = (f_gf G d 11 K 4 lv st h nc ns (h a) 4 8) := am_u e_11_1
theorem e_11_4 : pg_code 11 4 = some (.ifCond .eq 4, 3, 8, 0) := by decide +kernel
theorem u_11_4 {a : Int32} {lv : am_L} {st : List Value} : am_W G (am_M G d) 11 K 4 lv (.int a :: st) h nc ns = (am_br (a = 0) (am_W G (am_M G d) 11 K 8 lv st h nc ns) (am_W G (am_M G d) 11 K 7 lv st h nc ns)) := am_u e_11_4
theorem e_11_7 : pg_code 11 7 = some (.return_, 1, 0, 0) := by decide +kernel
theorem u_11_7 {lv : am_L} : am_W G (am_M G d) 11 K 7 lv [] h nc ns = (K (.inl none) h) := (am_u e_11_7).trans (f_t ⟨rfl, rfl⟩)
theorem e_11_8 : pg_code 11 8 = some (.iconst 0, 1, 0, 0) := by decide +kernel
theorem u_11_8 {lv : am_L} {st : List Value} : am_W G (am_M G d) 11 K 8 lv st h nc ns = (am_W G (am_M G d) 11 K 9 lv (.int 0 :: st) h nc ns) := am_u e_11_8
theorem e_11_9 : pg_code 11 9 = some (.istore_n 1, 1, 0, 0) := by decide +kernel
theorem u_11_9 {a : Int32} {lv : am_L} {st : List Value} : am_W G (am_M G d) 11 K 9 lv (.int a :: st) h nc ns = (am_W G (am_M G d) 11 K 10 (am_st1 lv 1 (.int a)) st h nc ns) := (am_u e_11_9).trans (f_t (by decide +kernel))
theorem e_11_10 : pg_code 11 10 = some (.iload_n 1, 1, 0, 0) := by decide +kernel
theorem u_11_10 {a : Int32} {z0 : Option Value} {lv : am_L} {st : List Value} : am_W G (am_M G d) 11 K 10 (z0 :: some (.int a) :: lv) st h nc ns = (am_W G (am_M G d) 11 K 11 (z0 :: some (.int a) :: lv) (.int a :: st) h nc ns) := am_u e_11_10
theorem e_11_11 : pg_code 11 11 = some (.aload_n 0, 1, 0, 0) := by decide +kernel
theorem u_11_11 {a : Nat} {lv : am_L} {st : List Value} : am_W G (am_M G d) 11 K 11 (some (.ref a) :: lv) st h nc ns = (am_W G (am_M G d) 11 K 12 (some (.ref a) :: lv) (.ref a :: st) h nc ns) := am_u e_11_11
theorem e_11_12 : pg_code 11 12 = some (.getfield 25, 3, 4, 0) := by decide +kernel
theorem u_11_12 {a : Nat} {lv : am_L} {st : List Value} : am_W G (am_M G d) 11 K 12 lv (.ref a :: st) h nc ns = (f_gf G d 11 K 15 lv st h nc ns (h a) 4 0) := am_u e_11_12
theorem e_11_15 : pg_code 11 15 = some (.getfield 42, 3, 2, 3) := by decide +kernel
theorem u_11_15 {a : Nat} {lv : am_L} {st : List Value} : am_W G (am_M G d) 11 K 15 lv (.ref a :: st) h nc ns = (f_gf G d 11 K 18 lv st h nc ns (h a) 2 3) := am_u e_11_15
theorem e_11_18 : pg_code 11 18 = some (.if_icmp .ge 16, 3, 34, 0) := by decide +kernel
theorem u_11_18 {a b : Int32} {lv : am_L} {st : List Value} : am_W G (am_M G d) 11 K 18 lv (.int b :: .int a :: st) h nc ns = (am_br (b ≤ a) (am_W G (am_M G d) 11 K 34 lv st h nc ns) (am_W G (am_M G d) 11 K 21 lv st h nc ns)) := am_u e_11_18
theorem e_11_21 : pg_code 11 21 = some (.aload_n 0, 1, 0, 0) := by decide +kernel
theorem u_11_21 {a : Nat} {lv : am_L} {st : List Value} : am_W G (am_M G d) 11 K 21 (some (.ref a) :: lv) st h nc ns = (am_W G (am_M G d) 11 K 22 (some (.ref a) :: lv) (.ref a :: st) h nc ns) := am_u e_11_21
theorem e_11_22 : pg_code 11 22 = some (.getfield 9, 3, 4, 2) := by decide +kernel
theorem u_11_22 {a : Nat} {lv : am_L} {st : List Value} : am_W G (am_M G d) 11 K 22 lv (.ref a :: st) h nc ns = (f_gf G d 11 K 25 lv st h nc ns (h a) 4 2) := am_u e_11_22
theorem e_11_25 : pg_code 11 25 = some (.iload_n 1, 1, 0, 0) := by decide +kernel
theorem u_11_25 {a : Int32} {z0 : Option Value} {lv : am_L} {st : List Value} : am_W G (am_M G d) 11 K 25 (z0 :: some (.int a) :: lv) st h nc ns = (am_W G (am_M G d) 11 K 26 (z0 :: some (.int a) :: lv) (.int a :: st) h nc ns) := am_u e_11_25
theorem e_11_26 : pg_code 11 26 = some (.iconst 0, 1, 0, 0) := by decide +kernel
theorem u_11_26 {lv : am_L} {st : List Value} : am_W G (am_M G d) 11 K 26 lv st h nc ns = (am_W G (am_M G d) 11 K 27 lv (.int 0 :: st) h nc ns) := am_u e_11_26
theorem e_11_27 : pg_code 11 27 = some (.bastore, 1, 0, 0) := by decide +kernel
theorem u_11_27 {a : Nat} {j b : Int32} {lv : am_L} {st : List Value} : am_W G (am_M G d) 11 K 27 lv (.int b :: .int j :: .ref a :: st) h nc ns = (f_is G d 11 K 28 lv st h nc ns (h a) .boolean a j (vp_nar .boolean b)) := am_u e_11_27
theorem e_11_28 : pg_code 11 28 = some (.iinc 1 1, 3, 0, 0) := by decide +kernel
theorem u_11_28 {a : Int32} {z0 : Option Value} {lv : am_L} {st : List Value} : am_W G (am_M G d) 11 K 28 (z0 :: some (.int a) :: lv) st h nc ns = (am_W G (am_M G d) 11 K 31 (am_st1 (z0 :: some (.int a) :: lv) 1 (.int (a + Int32.ofInt 1))) st h nc ns) := (am_u e_11_28).trans (f_t (by decide +kernel))
theorem e_11_31 : pg_code 11 31 = some (.goto (-21), 3, 10, 0) := by decide +kernel
theorem u_11_31 {lv : am_L} {st : List Value} : am_W G (am_M G d) 11 K 31 lv st h nc ns = (am_W G (am_M G d) 11 K 10 lv st h nc ns) := am_u e_11_31
theorem e_11_34 : pg_code 11 34 = some (.aload_n 0, 1, 0, 0) := by decide +kernel
theorem u_11_34 {a : Nat} {lv : am_L} {st : List Value} : am_W G (am_M G d) 11 K 34 (some (.ref a) :: lv) st h nc ns = (am_W G (am_M G d) 11 K 35 (some (.ref a) :: lv) (.ref a :: st) h nc ns) := am_u e_11_34
theorem e_11_35 : pg_code 11 35 = some (.invokevirtual 48, 3, 12, 1) := by decide +kernel
theorem u_11_35 {a : Nat} {lv : am_L} {st : List Value} : am_W G (am_M G d) 11 K 35 lv (.ref a :: st) h nc ns = ((am_words st ≤ 8 ∧ nc + 0 ≤ 0 ∧ ns + 0 ≤ 0 ∧ f_rc (h a) 4) ∧ am_M G d 12 [.ref a] h (am_back 11 K (am_W G (am_M G d) 11 K) 12 35 lv st nc ns)) := (am_u e_11_35).trans (f_iv_eq (a := a) (G := G) (d := d) (k := 11) (K := K) (pc := 35) (lv := lv) (st := st) (h := h) (nc := nc) (ns := ns) (x := 12) (X := am_W G (am_M G d) 11 K) [] (by decide) rfl)
theorem e_11_38 : pg_code 11 38 = some (.aload_n 0, 1, 0, 0) := by decide +kernel
theorem u_11_38 {a : Nat} {lv : am_L} {st : List Value} : am_W G (am_M G d) 11 K 38 (some (.ref a) :: lv) st h nc ns = (am_W G (am_M G d) 11 K 39 (some (.ref a) :: lv) (.ref a :: st) h nc ns) := am_u e_11_38
theorem e_11_39 : pg_code 11 39 = some (.invokevirtual 51, 3, 15, 1) := by decide +kernel
theorem u_11_39 {a : Nat} {lv : am_L} {st : List Value} : am_W G (am_M G d) 11 K 39 lv (.ref a :: st) h nc ns = ((am_words st ≤ 8 ∧ nc + 0 ≤ 0 ∧ ns + 0 ≤ 0 ∧ f_rc (h a) 4) ∧ am_M G d 15 [.ref a] h (am_back 11 K (am_W G (am_M G d) 11 K) 15 39 lv st nc ns)) := (am_u e_11_39).trans (f_iv_eq (a := a) (G := G) (d := d) (k := 11) (K := K) (pc := 39) (lv := lv) (st := st) (h := h) (nc := nc) (ns := ns) (x := 15) (X := am_W G (am_M G d) 11 K) [] (by decide) rfl)
theorem e_11_42 : pg_code 11 42 = some (.aload_n 0, 1, 0, 0) := by decide +kernel
theorem u_11_42 {a : Nat} {lv : am_L} {st : List Value} : am_W G (am_M G d) 11 K 42 (some (.ref a) :: lv) st h nc ns = (am_W G (am_M G d) 11 K 43 (some (.ref a) :: lv) (.ref a :: st) h nc ns) := am_u e_11_42
theorem e_11_43 : pg_code 11 43 = some (.getfield 54, 3, 4, 7) := by decide +kernel
theorem u_11_43 {a : Nat} {lv : am_L} {st : List Value} : am_W G (am_M G d) 11 K 43 lv (.ref a :: st) h nc ns = (f_gf G d 11 K 46 lv st h nc ns (h a) 4 7) := am_u e_11_43
theorem e_11_46 : pg_code 11 46 = some (.ifCond .le 7, 3, 53, 0) := by decide +kernel
theorem u_11_46 {a : Int32} {lv : am_L} {st : List Value} : am_W G (am_M G d) 11 K 46 lv (.int a :: st) h nc ns = (am_br (a ≤ 0) (am_W G (am_M G d) 11 K 53 lv st h nc ns) (am_W G (am_M G d) 11 K 49 lv st h nc ns)) := am_u e_11_46
theorem e_11_49 : pg_code 11 49 = some (.aload_n 0, 1, 0, 0) := by decide +kernel
theorem u_11_49 {a : Nat} {lv : am_L} {st : List Value} : am_W G (am_M G d) 11 K 49 (some (.ref a) :: lv) st h nc ns = (am_W G (am_M G d) 11 K 50 (some (.ref a) :: lv) (.ref a :: st) h nc ns) := am_u e_11_49
theorem e_11_50 : pg_code 11 50 = some (.invokevirtual 48, 3, 12, 1) := by decide +kernel
theorem u_11_50 {a : Nat} {lv : am_L} {st : List Value} : am_W G (am_M G d) 11 K 50 lv (.ref a :: st) h nc ns = ((am_words st ≤ 8 ∧ nc + 0 ≤ 0 ∧ ns + 0 ≤ 0 ∧ f_rc (h a) 4) ∧ am_M G d 12 [.ref a] h (am_back 11 K (am_W G (am_M G d) 11 K) 12 50 lv st nc ns)) := (am_u e_11_50).trans (f_iv_eq (a := a) (G := G) (d := d) (k := 11) (K := K) (pc := 50) (lv := lv) (st := st) (h := h) (nc := nc) (ns := ns) (x := 12) (X := am_W G (am_M G d) 11 K) [] (by decide) rfl)
theorem e_11_53 : pg_code 11 53 = some (.aload_n 0, 1, 0, 0) := by decide +kernel
theorem u_11_53 {a : Nat} {lv : am_L} {st : List Value} : am_W G (am_M G d) 11 K 53 (some (.ref a) :: lv) st h nc ns = (am_W G (am_M G d) 11 K 54 (some (.ref a) :: lv) (.ref a :: st) h nc ns) := am_u e_11_53
theorem e_11_54 : pg_code 11 54 = some (.iconst 1, 1, 0, 0) := by decide +kernel
theorem u_11_54 {lv : am_L} {st : List Value} : am_W G (am_M G d) 11 K 54 lv st h nc ns = (am_W G (am_M G d) 11 K 55 lv (.int 1 :: st) h nc ns) := am_u e_11_54
theorem e_11_55 : pg_code 11 55 = some (.putfield 38, 3, 4, 8) := by decide +kernel
theorem u_11_55 {a : Nat} {b : Int32} (hb : b = 0 ∨ b = 1) {lv : am_L} {st : List Value} : am_W G (am_M G d) 11 K 55 lv (.int b :: .ref a :: st) h nc ns = (f_pf G d 11 K 58 lv st h nc ns (h a) 4 8 a (.int b)) := (am_u e_11_55).trans (f_pfz_eq rfl hb)
theorem e_11_58 : pg_code 11 58 = some (.return_, 1, 0, 0) := by decide +kernel
theorem u_11_58 {lv : am_L} : am_W G (am_M G d) 11 K 58 lv [] h nc ns = (K (.inl none) h) := (am_u e_11_58).trans (f_t ⟨rfl, rfl⟩)
theorem e_12_0 : pg_code 12 0 = some (.aload_n 0, 1, 0, 0) := by decide +kernel
theorem u_12_0 {a : Nat} {lv : am_L} {st : List Value} : am_W G (am_M G d) 12 K 0 (some (.ref a) :: lv) st h nc ns = (am_W G (am_M G d) 12 K 1 (some (.ref a) :: lv) (.ref a :: st) h nc ns) := am_u e_12_0
theorem e_12_1 : pg_code 12 1 = some (.getfield 9, 3, 4, 2) := by decide +kernel
theorem u_12_1 {a : Nat} {lv : am_L} {st : List Value} : am_W G (am_M G d) 12 K 1 lv (.ref a :: st) h nc ns = (f_gf G d 12 K 4 lv st h nc ns (h a) 4 2) := am_u e_12_1
theorem e_12_4 : pg_code 12 4 = some (.iconst 0, 1, 0, 0) := by decide +kernel
theorem u_12_4 {lv : am_L} {st : List Value} : am_W G (am_M G d) 12 K 4 lv st h nc ns = (am_W G (am_M G d) 12 K 5 lv (.int 0 :: st) h nc ns) := am_u e_12_4
theorem e_12_5 : pg_code 12 5 = some (.aload_n 0, 1, 0, 0) := by decide +kernel
theorem u_12_5 {a : Nat} {lv : am_L} {st : List Value} : am_W G (am_M G d) 12 K 5 (some (.ref a) :: lv) st h nc ns = (am_W G (am_M G d) 12 K 6 (some (.ref a) :: lv) (.ref a :: st) h nc ns) := am_u e_12_5
theorem e_12_6 : pg_code 12 6 = some (.getfield 15, 3, 4, 3) := by decide +kernel
theorem u_12_6 {a : Nat} {lv : am_L} {st : List Value} : am_W G (am_M G d) 12 K 6 lv (.ref a :: st) h nc ns = (f_gf G d 12 K 9 lv st h nc ns (h a) 4 3) := am_u e_12_6
theorem e_12_9 : pg_code 12 9 = some (.iconst 0, 1, 0, 0) := by decide +kernel
theorem u_12_9 {lv : am_L} {st : List Value} : am_W G (am_M G d) 12 K 9 lv st h nc ns = (am_W G (am_M G d) 12 K 10 lv (.int 0 :: st) h nc ns) := am_u e_12_9
theorem e_12_10 : pg_code 12 10 = some (.aload_n 0, 1, 0, 0) := by decide +kernel
theorem u_12_10 {a : Nat} {lv : am_L} {st : List Value} : am_W G (am_M G d) 12 K 10 (some (.ref a) :: lv) st h nc ns = (am_W G (am_M G d) 12 K 11 (some (.ref a) :: lv) (.ref a :: st) h nc ns) := am_u e_12_10
theorem e_12_11 : pg_code 12 11 = some (.getfield 25, 3, 4, 0) := by decide +kernel
theorem u_12_11 {a : Nat} {lv : am_L} {st : List Value} : am_W G (am_M G d) 12 K 11 lv (.ref a :: st) h nc ns = (f_gf G d 12 K 14 lv st h nc ns (h a) 4 0) := am_u e_12_11
theorem e_12_14 : pg_code 12 14 = some (.getfield 42, 3, 2, 3) := by decide +kernel
theorem u_12_14 {a : Nat} {lv : am_L} {st : List Value} : am_W G (am_M G d) 12 K 14 lv (.ref a :: st) h nc ns = (f_gf G d 12 K 17 lv st h nc ns (h a) 2 3) := am_u e_12_14
theorem e_12_17 : pg_code 12 17 = some (.invokestatic 57, 3, 901, 5) := by decide +kernel
theorem u_12_17 {a0 a1 : Nat} {sp dp n : Int32} {lv : am_L} {st : List Value} : am_W G (am_M G d) 12 K 17 lv (.int n :: .int dp :: .ref a1 :: .int sp :: .ref a0 :: st) h nc ns = (am_words st ≤ 8 ∧ f_cp G d 12 K 20 lv st h nc ns a0 a1 sp dp n) := am_u e_12_17
theorem e_12_20 : pg_code 12 20 = some (.aload_n 0, 1, 0, 0) := by decide +kernel
theorem u_12_20 {a : Nat} {lv : am_L} {st : List Value} : am_W G (am_M G d) 12 K 20 (some (.ref a) :: lv) st h nc ns = (am_W G (am_M G d) 12 K 21 (some (.ref a) :: lv) (.ref a :: st) h nc ns) := am_u e_12_20
theorem e_12_21 : pg_code 12 21 = some (.iconst 0, 1, 0, 0) := by decide +kernel
theorem u_12_21 {lv : am_L} {st : List Value} : am_W G (am_M G d) 12 K 21 lv st h nc ns = (am_W G (am_M G d) 12 K 22 lv (.int 0 :: st) h nc ns) := am_u e_12_21
theorem e_12_22 : pg_code 12 22 = some (.putfield 63, 3, 4, 5) := by decide +kernel
theorem u_12_22 {a : Nat} {b : Int32} {lv : am_L} {st : List Value} : am_W G (am_M G d) 12 K 22 lv (.int b :: .ref a :: st) h nc ns = (f_pf G d 12 K 25 lv st h nc ns (h a) 4 5 a (.int b)) := (am_u e_12_22).trans (f_pf_eq ⟨rfl, rfl⟩)
theorem e_12_25 : pg_code 12 25 = some (.iconst 0, 1, 0, 0) := by decide +kernel
theorem u_12_25 {lv : am_L} {st : List Value} : am_W G (am_M G d) 12 K 25 lv st h nc ns = (am_W G (am_M G d) 12 K 26 lv (.int 0 :: st) h nc ns) := am_u e_12_25
theorem e_12_26 : pg_code 12 26 = some (.istore_n 1, 1, 0, 0) := by decide +kernel
theorem u_12_26 {a : Int32} {lv : am_L} {st : List Value} : am_W G (am_M G d) 12 K 26 lv (.int a :: st) h nc ns = (am_W G (am_M G d) 12 K 27 (am_st1 lv 1 (.int a)) st h nc ns) := (am_u e_12_26).trans (f_t (by decide +kernel))
theorem e_12_27 : pg_code 12 27 = some (.iconst 0, 1, 0, 0) := by decide +kernel
theorem u_12_27 {lv : am_L} {st : List Value} : am_W G (am_M G d) 12 K 27 lv st h nc ns = (am_W G (am_M G d) 12 K 28 lv (.int 0 :: st) h nc ns) := am_u e_12_27
theorem e_12_28 : pg_code 12 28 = some (.istore_n 2, 1, 0, 0) := by decide +kernel
theorem u_12_28 {a : Int32} {lv : am_L} {st : List Value} : am_W G (am_M G d) 12 K 28 lv (.int a :: st) h nc ns = (am_W G (am_M G d) 12 K 29 (am_st1 lv 2 (.int a)) st h nc ns) := (am_u e_12_28).trans (f_t (by decide +kernel))
theorem e_12_29 : pg_code 12 29 = some (.iload_n 2, 1, 0, 0) := by decide +kernel
theorem u_12_29 {a : Int32} {z0 : Option Value} {z1 : Option Value} {lv : am_L} {st : List Value} : am_W G (am_M G d) 12 K 29 (z0 :: z1 :: some (.int a) :: lv) st h nc ns = (am_W G (am_M G d) 12 K 30 (z0 :: z1 :: some (.int a) :: lv) (.int a :: st) h nc ns) := am_u e_12_29
theorem e_12_30 : pg_code 12 30 = some (.aload_n 0, 1, 0, 0) := by decide +kernel
theorem u_12_30 {a : Nat} {lv : am_L} {st : List Value} : am_W G (am_M G d) 12 K 30 (some (.ref a) :: lv) st h nc ns = (am_W G (am_M G d) 12 K 31 (some (.ref a) :: lv) (.ref a :: st) h nc ns) := am_u e_12_30
theorem e_12_31 : pg_code 12 31 = some (.getfield 25, 3, 4, 0) := by decide +kernel
theorem u_12_31 {a : Nat} {lv : am_L} {st : List Value} : am_W G (am_M G d) 12 K 31 lv (.ref a :: st) h nc ns = (f_gf G d 12 K 34 lv st h nc ns (h a) 4 0) := am_u e_12_31
theorem e_12_34 : pg_code 12 34 = some (.getfield 42, 3, 2, 3) := by decide +kernel
theorem u_12_34 {a : Nat} {lv : am_L} {st : List Value} : am_W G (am_M G d) 12 K 34 lv (.ref a :: st) h nc ns = (f_gf G d 12 K 37 lv st h nc ns (h a) 2 3) := am_u e_12_34
theorem e_12_37 : pg_code 12 37 = some (.if_icmp .ge 74, 3, 111, 0) := by decide +kernel
theorem u_12_37 {a b : Int32} {lv : am_L} {st : List Value} : am_W G (am_M G d) 12 K 37 lv (.int b :: .int a :: st) h nc ns = (am_br (b ≤ a) (am_W G (am_M G d) 12 K 111 lv st h nc ns) (am_W G (am_M G d) 12 K 40 lv st h nc ns)) := am_u e_12_37
theorem e_12_40 : pg_code 12 40 = some (.iload_n 1, 1, 0, 0) := by decide +kernel
theorem u_12_40 {a : Int32} {z0 : Option Value} {lv : am_L} {st : List Value} : am_W G (am_M G d) 12 K 40 (z0 :: some (.int a) :: lv) st h nc ns = (am_W G (am_M G d) 12 K 41 (z0 :: some (.int a) :: lv) (.int a :: st) h nc ns) := am_u e_12_40
theorem e_12_41 : pg_code 12 41 = some (.aload_n 0, 1, 0, 0) := by decide +kernel
theorem u_12_41 {a : Nat} {lv : am_L} {st : List Value} : am_W G (am_M G d) 12 K 41 (some (.ref a) :: lv) st h nc ns = (am_W G (am_M G d) 12 K 42 (some (.ref a) :: lv) (.ref a :: st) h nc ns) := am_u e_12_41
theorem e_12_42 : pg_code 12 42 = some (.getfield 25, 3, 4, 0) := by decide +kernel
theorem u_12_42 {a : Nat} {lv : am_L} {st : List Value} : am_W G (am_M G d) 12 K 42 lv (.ref a :: st) h nc ns = (f_gf G d 12 K 45 lv st h nc ns (h a) 4 0) := am_u e_12_42
theorem e_12_45 : pg_code 12 45 = some (.getfield 42, 3, 2, 3) := by decide +kernel
theorem u_12_45 {a : Nat} {lv : am_L} {st : List Value} : am_W G (am_M G d) 12 K 45 lv (.ref a :: st) h nc ns = (f_gf G d 12 K 48 lv st h nc ns (h a) 2 3) := am_u e_12_45
theorem e_12_48 : pg_code 12 48 = some (.if_icmp .ge 18, 3, 66, 0) := by decide +kernel
theorem u_12_48 {a b : Int32} {lv : am_L} {st : List Value} : am_W G (am_M G d) 12 K 48 lv (.int b :: .int a :: st) h nc ns = (am_br (b ≤ a) (am_W G (am_M G d) 12 K 66 lv st h nc ns) (am_W G (am_M G d) 12 K 51 lv st h nc ns)) := am_u e_12_48
theorem e_12_51 : pg_code 12 51 = some (.aload_n 0, 1, 0, 0) := by decide +kernel
theorem u_12_51 {a : Nat} {lv : am_L} {st : List Value} : am_W G (am_M G d) 12 K 51 (some (.ref a) :: lv) st h nc ns = (am_W G (am_M G d) 12 K 52 (some (.ref a) :: lv) (.ref a :: st) h nc ns) := am_u e_12_51
theorem e_12_52 : pg_code 12 52 = some (.getfield 15, 3, 4, 3) := by decide +kernel
theorem u_12_52 {a : Nat} {lv : am_L} {st : List Value} : am_W G (am_M G d) 12 K 52 lv (.ref a :: st) h nc ns = (f_gf G d 12 K 55 lv st h nc ns (h a) 4 3) := am_u e_12_52
theorem e_12_55 : pg_code 12 55 = some (.iload_n 1, 1, 0, 0) := by decide +kernel
theorem u_12_55 {a : Int32} {z0 : Option Value} {lv : am_L} {st : List Value} : am_W G (am_M G d) 12 K 55 (z0 :: some (.int a) :: lv) st h nc ns = (am_W G (am_M G d) 12 K 56 (z0 :: some (.int a) :: lv) (.int a :: st) h nc ns) := am_u e_12_55
theorem e_12_56 : pg_code 12 56 = some (.baload, 1, 0, 0) := by decide +kernel
theorem u_12_56 {a : Nat} {j : Int32} {lv : am_L} {st : List Value} : am_W G (am_M G d) 12 K 56 lv (.int j :: .ref a :: st) h nc ns = (f_ia G d 12 K 57 lv st h nc ns (h a) .boolean j) := am_u e_12_56
theorem e_12_57 : pg_code 12 57 = some (.ifCond .eq 9, 3, 66, 0) := by decide +kernel
theorem u_12_57 {a : Int32} {lv : am_L} {st : List Value} : am_W G (am_M G d) 12 K 57 lv (.int a :: st) h nc ns = (am_br (a = 0) (am_W G (am_M G d) 12 K 66 lv st h nc ns) (am_W G (am_M G d) 12 K 60 lv st h nc ns)) := am_u e_12_57
theorem e_12_60 : pg_code 12 60 = some (.iinc 1 1, 3, 0, 0) := by decide +kernel
theorem u_12_60 {a : Int32} {z0 : Option Value} {lv : am_L} {st : List Value} : am_W G (am_M G d) 12 K 60 (z0 :: some (.int a) :: lv) st h nc ns = (am_W G (am_M G d) 12 K 63 (am_st1 (z0 :: some (.int a) :: lv) 1 (.int (a + Int32.ofInt 1))) st h nc ns) := (am_u e_12_60).trans (f_t (by decide +kernel))
theorem e_12_63 : pg_code 12 63 = some (.goto (-23), 3, 40, 0) := by decide +kernel
theorem u_12_63 {lv : am_L} {st : List Value} : am_W G (am_M G d) 12 K 63 lv st h nc ns = (am_W G (am_M G d) 12 K 40 lv st h nc ns) := am_u e_12_63
theorem e_12_66 : pg_code 12 66 = some (.aload_n 0, 1, 0, 0) := by decide +kernel
theorem u_12_66 {a : Nat} {lv : am_L} {st : List Value} : am_W G (am_M G d) 12 K 66 (some (.ref a) :: lv) st h nc ns = (am_W G (am_M G d) 12 K 67 (some (.ref a) :: lv) (.ref a :: st) h nc ns) := am_u e_12_66
theorem e_12_67 : pg_code 12 67 = some (.iload_n 1, 1, 0, 0) := by decide +kernel
theorem u_12_67 {a : Int32} {z0 : Option Value} {lv : am_L} {st : List Value} : am_W G (am_M G d) 12 K 67 (z0 :: some (.int a) :: lv) st h nc ns = (am_W G (am_M G d) 12 K 68 (z0 :: some (.int a) :: lv) (.int a :: st) h nc ns) := am_u e_12_67
theorem e_12_68 : pg_code 12 68 = some (.invokevirtual 66, 3, 13, 2) := by decide +kernel
theorem u_12_68 {a : Nat} {v0 : Value} {lv : am_L} {st : List Value} : am_W G (am_M G d) 12 K 68 lv (v0 :: .ref a :: st) h nc ns = ((am_words st ≤ 8 ∧ nc + 0 ≤ 0 ∧ ns + 0 ≤ 0 ∧ f_rc (h a) 4) ∧ am_M G d 13 [.ref a, v0] h (am_back 12 K (am_W G (am_M G d) 12 K) 13 68 lv st nc ns)) := (am_u e_12_68).trans (f_iv_eq (a := a) (G := G) (d := d) (k := 12) (K := K) (pc := 68) (lv := lv) (st := st) (h := h) (nc := nc) (ns := ns) (x := 13) (X := am_W G (am_M G d) 12 K) [v0] (by decide) rfl)
theorem e_12_71 : pg_code 12 71 = some (.istore_n 3, 1, 0, 0) := by decide +kernel
theorem u_12_71 {a : Int32} {lv : am_L} {st : List Value} : am_W G (am_M G d) 12 K 71 lv (.int a :: st) h nc ns = (am_W G (am_M G d) 12 K 72 (am_st1 lv 3 (.int a)) st h nc ns) := (am_u e_12_71).trans (f_t (by decide +kernel))
theorem e_12_72 : pg_code 12 72 = some (.iload_n 3, 1, 0, 0) := by decide +kernel
theorem u_12_72 {a : Int32} {z0 : Option Value} {z1 : Option Value} {z2 : Option Value} {lv : am_L} {st : List Value} : am_W G (am_M G d) 12 K 72 (z0 :: z1 :: z2 :: some (.int a) :: lv) st h nc ns = (am_W G (am_M G d) 12 K 73 (z0 :: z1 :: z2 :: some (.int a) :: lv) (.int a :: st) h nc ns) := am_u e_12_72
theorem e_12_73 : pg_code 12 73 = some (.iconst (-1), 1, 0, 0) := by decide +kernel
theorem u_12_73 {lv : am_L} {st : List Value} : am_W G (am_M G d) 12 K 73 lv st h nc ns = (am_W G (am_M G d) 12 K 74 lv (.int (-1) :: st) h nc ns) := am_u e_12_73
theorem e_12_74 : pg_code 12 74 = some (.if_icmp .ne 4, 3, 78, 0) := by decide +kernel
theorem u_12_74 {a b : Int32} {lv : am_L} {st : List Value} : am_W G (am_M G d) 12 K 74 lv (.int b :: .int a :: st) h nc ns = (am_br (¬ a = b) (am_W G (am_M G d) 12 K 78 lv st h nc ns) (am_W G (am_M G d) 12 K 77 lv st h nc ns)) := am_u e_12_74
theorem e_12_77 : pg_code 12 77 = some (.return_, 1, 0, 0) := by decide +kernel
theorem u_12_77 {lv : am_L} : am_W G (am_M G d) 12 K 77 lv [] h nc ns = (K (.inl none) h) := (am_u e_12_77).trans (f_t ⟨rfl, rfl⟩)
theorem e_12_78 : pg_code 12 78 = some (.aload_n 0, 1, 0, 0) := by decide +kernel
theorem u_12_78 {a : Nat} {lv : am_L} {st : List Value} : am_W G (am_M G d) 12 K 78 (some (.ref a) :: lv) st h nc ns = (am_W G (am_M G d) 12 K 79 (some (.ref a) :: lv) (.ref a :: st) h nc ns) := am_u e_12_78
theorem e_12_79 : pg_code 12 79 = some (.getfield 15, 3, 4, 3) := by decide +kernel
theorem u_12_79 {a : Nat} {lv : am_L} {st : List Value} : am_W G (am_M G d) 12 K 79 lv (.ref a :: st) h nc ns = (f_gf G d 12 K 82 lv st h nc ns (h a) 4 3) := am_u e_12_79
theorem e_12_82 : pg_code 12 82 = some (.iload_n 3, 1, 0, 0) := by decide +kernel
theorem u_12_82 {a : Int32} {z0 : Option Value} {z1 : Option Value} {z2 : Option Value} {lv : am_L} {st : List Value} : am_W G (am_M G d) 12 K 82 (z0 :: z1 :: z2 :: some (.int a) :: lv) st h nc ns = (am_W G (am_M G d) 12 K 83 (z0 :: z1 :: z2 :: some (.int a) :: lv) (.int a :: st) h nc ns) := am_u e_12_82
theorem e_12_83 : pg_code 12 83 = some (.iconst 1, 1, 0, 0) := by decide +kernel
theorem u_12_83 {lv : am_L} {st : List Value} : am_W G (am_M G d) 12 K 83 lv st h nc ns = (am_W G (am_M G d) 12 K 84 lv (.int 1 :: st) h nc ns) := am_u e_12_83
theorem e_12_84 : pg_code 12 84 = some (.bastore, 1, 0, 0) := by decide +kernel
theorem u_12_84 {a : Nat} {j b : Int32} {lv : am_L} {st : List Value} : am_W G (am_M G d) 12 K 84 lv (.int b :: .int j :: .ref a :: st) h nc ns = (f_is G d 12 K 85 lv st h nc ns (h a) .boolean a j (vp_nar .boolean b)) := am_u e_12_84
theorem e_12_85 : pg_code 12 85 = some (.aload_n 0, 1, 0, 0) := by decide +kernel
theorem u_12_85 {a : Nat} {lv : am_L} {st : List Value} : am_W G (am_M G d) 12 K 85 (some (.ref a) :: lv) st h nc ns = (am_W G (am_M G d) 12 K 86 (some (.ref a) :: lv) (.ref a :: st) h nc ns) := am_u e_12_85
theorem e_12_86 : pg_code 12 86 = some (.getfield 18, 3, 4, 4) := by decide +kernel
theorem u_12_86 {a : Nat} {lv : am_L} {st : List Value} : am_W G (am_M G d) 12 K 86 lv (.ref a :: st) h nc ns = (f_gf G d 12 K 89 lv st h nc ns (h a) 4 4) := am_u e_12_86
theorem e_12_89 : pg_code 12 89 = some (.aload_n 0, 1, 0, 0) := by decide +kernel
theorem u_12_89 {a : Nat} {lv : am_L} {st : List Value} : am_W G (am_M G d) 12 K 89 (some (.ref a) :: lv) st h nc ns = (am_W G (am_M G d) 12 K 90 (some (.ref a) :: lv) (.ref a :: st) h nc ns) := am_u e_12_89
theorem e_12_90 : pg_code 12 90 = some (.getfield 63, 3, 4, 5) := by decide +kernel
theorem u_12_90 {a : Nat} {lv : am_L} {st : List Value} : am_W G (am_M G d) 12 K 90 lv (.ref a :: st) h nc ns = (f_gf G d 12 K 93 lv st h nc ns (h a) 4 5) := am_u e_12_90
theorem e_12_93 : pg_code 12 93 = some (.iload_n 3, 1, 0, 0) := by decide +kernel
theorem u_12_93 {a : Int32} {z0 : Option Value} {z1 : Option Value} {z2 : Option Value} {lv : am_L} {st : List Value} : am_W G (am_M G d) 12 K 93 (z0 :: z1 :: z2 :: some (.int a) :: lv) st h nc ns = (am_W G (am_M G d) 12 K 94 (z0 :: z1 :: z2 :: some (.int a) :: lv) (.int a :: st) h nc ns) := am_u e_12_93
theorem e_12_94 : pg_code 12 94 = some (.iastore, 1, 0, 0) := by decide +kernel
theorem u_12_94 {a : Nat} {j b : Int32} {lv : am_L} {st : List Value} : am_W G (am_M G d) 12 K 94 lv (.int b :: .int j :: .ref a :: st) h nc ns = (f_is G d 12 K 95 lv st h nc ns (h a) .int a j b) := am_u e_12_94
theorem e_12_95 : pg_code 12 95 = some (.aload_n 0, 1, 0, 0) := by decide +kernel
theorem u_12_95 {a : Nat} {lv : am_L} {st : List Value} : am_W G (am_M G d) 12 K 95 (some (.ref a) :: lv) st h nc ns = (am_W G (am_M G d) 12 K 96 (some (.ref a) :: lv) (.ref a :: st) h nc ns) := am_u e_12_95
theorem e_12_96 : pg_code 12 96 = some (.dup, 1, 0, 0) := by decide +kernel
theorem u_12_96 {a : Nat} {lv : am_L} {st : List Value} : am_W G (am_M G d) 12 K 96 lv (.ref a :: st) h nc ns = (am_W G (am_M G d) 12 K 97 lv (.ref a :: .ref a :: st) h nc ns) := (am_u e_12_96).trans (f_t rfl)
theorem e_12_97 : pg_code 12 97 = some (.getfield 63, 3, 4, 5) := by decide +kernel
theorem u_12_97 {a : Nat} {lv : am_L} {st : List Value} : am_W G (am_M G d) 12 K 97 lv (.ref a :: st) h nc ns = (f_gf G d 12 K 100 lv st h nc ns (h a) 4 5) := am_u e_12_97
theorem e_12_100 : pg_code 12 100 = some (.iconst 1, 1, 0, 0) := by decide +kernel
theorem u_12_100 {lv : am_L} {st : List Value} : am_W G (am_M G d) 12 K 100 lv st h nc ns = (am_W G (am_M G d) 12 K 101 lv (.int 1 :: st) h nc ns) := am_u e_12_100
theorem e_12_101 : pg_code 12 101 = some (.iadd, 1, 0, 0) := by decide +kernel
theorem u_12_101 {a b : Int32} {lv : am_L} {st : List Value} : am_W G (am_M G d) 12 K 101 lv (.int b :: .int a :: st) h nc ns = (am_W G (am_M G d) 12 K 102 lv (.int (a + b) :: st) h nc ns) := am_u e_12_101
theorem e_12_102 : pg_code 12 102 = some (.putfield 63, 3, 4, 5) := by decide +kernel
theorem u_12_102 {a : Nat} {b : Int32} {lv : am_L} {st : List Value} : am_W G (am_M G d) 12 K 102 lv (.int b :: .ref a :: st) h nc ns = (f_pf G d 12 K 105 lv st h nc ns (h a) 4 5 a (.int b)) := (am_u e_12_102).trans (f_pf_eq ⟨rfl, rfl⟩)
theorem e_12_105 : pg_code 12 105 = some (.iinc 2 1, 3, 0, 0) := by decide +kernel
theorem u_12_105 {a : Int32} {z0 : Option Value} {z1 : Option Value} {lv : am_L} {st : List Value} : am_W G (am_M G d) 12 K 105 (z0 :: z1 :: some (.int a) :: lv) st h nc ns = (am_W G (am_M G d) 12 K 108 (am_st1 (z0 :: z1 :: some (.int a) :: lv) 2 (.int (a + Int32.ofInt 1))) st h nc ns) := (am_u e_12_105).trans (f_t (by decide +kernel))
theorem e_12_108 : pg_code 12 108 = some (.goto (-79), 3, 29, 0) := by decide +kernel
theorem u_12_108 {lv : am_L} {st : List Value} : am_W G (am_M G d) 12 K 108 lv st h nc ns = (am_W G (am_M G d) 12 K 29 lv st h nc ns) := am_u e_12_108
theorem e_12_111 : pg_code 12 111 = some (.return_, 1, 0, 0) := by decide +kernel
theorem u_12_111 {lv : am_L} : am_W G (am_M G d) 12 K 111 lv [] h nc ns = (K (.inl none) h) := (am_u e_12_111).trans (f_t ⟨rfl, rfl⟩)
theorem e_13_0 : pg_code 13 0 = some (.iload_n 1, 1, 0, 0) := by decide +kernel
theorem u_13_0 {a : Int32} {z0 : Option Value} {lv : am_L} {st : List Value} : am_W G (am_M G d) 13 K 0 (z0 :: some (.int a) :: lv) st h nc ns = (am_W G (am_M G d) 13 K 1 (z0 :: some (.int a) :: lv) (.int a :: st) h nc ns) := am_u e_13_0
theorem e_13_1 : pg_code 13 1 = some (.istore_n 2, 1, 0, 0) := by decide +kernel
theorem u_13_1 {a : Int32} {lv : am_L} {st : List Value} : am_W G (am_M G d) 13 K 1 lv (.int a :: st) h nc ns = (am_W G (am_M G d) 13 K 2 (am_st1 lv 2 (.int a)) st h nc ns) := (am_u e_13_1).trans (f_t (by decide +kernel))
theorem e_13_2 : pg_code 13 2 = some (.iload_n 2, 1, 0, 0) := by decide +kernel
theorem u_13_2 {a : Int32} {z0 : Option Value} {z1 : Option Value} {lv : am_L} {st : List Value} : am_W G (am_M G d) 13 K 2 (z0 :: z1 :: some (.int a) :: lv) st h nc ns = (am_W G (am_M G d) 13 K 3 (z0 :: z1 :: some (.int a) :: lv) (.int a :: st) h nc ns) := am_u e_13_2
theorem e_13_3 : pg_code 13 3 = some (.aload_n 0, 1, 0, 0) := by decide +kernel
theorem u_13_3 {a : Nat} {lv : am_L} {st : List Value} : am_W G (am_M G d) 13 K 3 (some (.ref a) :: lv) st h nc ns = (am_W G (am_M G d) 13 K 4 (some (.ref a) :: lv) (.ref a :: st) h nc ns) := am_u e_13_3
theorem e_13_4 : pg_code 13 4 = some (.getfield 25, 3, 4, 0) := by decide +kernel
theorem u_13_4 {a : Nat} {lv : am_L} {st : List Value} : am_W G (am_M G d) 13 K 4 lv (.ref a :: st) h nc ns = (f_gf G d 13 K 7 lv st h nc ns (h a) 4 0) := am_u e_13_4
theorem e_13_7 : pg_code 13 7 = some (.getfield 42, 3, 2, 3) := by decide +kernel
theorem u_13_7 {a : Nat} {lv : am_L} {st : List Value} : am_W G (am_M G d) 13 K 7 lv (.ref a :: st) h nc ns = (f_gf G d 13 K 10 lv st h nc ns (h a) 2 3) := am_u e_13_7
theorem e_13_10 : pg_code 13 10 = some (.if_icmp .ge 52, 3, 62, 0) := by decide +kernel
theorem u_13_10 {a b : Int32} {lv : am_L} {st : List Value} : am_W G (am_M G d) 13 K 10 lv (.int b :: .int a :: st) h nc ns = (am_br (b ≤ a) (am_W G (am_M G d) 13 K 62 lv st h nc ns) (am_W G (am_M G d) 13 K 13 lv st h nc ns)) := am_u e_13_10
theorem e_13_13 : pg_code 13 13 = some (.aload_n 0, 1, 0, 0) := by decide +kernel
theorem u_13_13 {a : Nat} {lv : am_L} {st : List Value} : am_W G (am_M G d) 13 K 13 (some (.ref a) :: lv) st h nc ns = (am_W G (am_M G d) 13 K 14 (some (.ref a) :: lv) (.ref a :: st) h nc ns) := am_u e_13_13
theorem e_13_14 : pg_code 13 14 = some (.getfield 15, 3, 4, 3) := by decide +kernel
theorem u_13_14 {a : Nat} {lv : am_L} {st : List Value} : am_W G (am_M G d) 13 K 14 lv (.ref a :: st) h nc ns = (f_gf G d 13 K 17 lv st h nc ns (h a) 4 3) := am_u e_13_14
theorem e_13_17 : pg_code 13 17 = some (.iload_n 2, 1, 0, 0) := by decide +kernel
theorem u_13_17 {a : Int32} {z0 : Option Value} {z1 : Option Value} {lv : am_L} {st : List Value} : am_W G (am_M G d) 13 K 17 (z0 :: z1 :: some (.int a) :: lv) st h nc ns = (am_W G (am_M G d) 13 K 18 (z0 :: z1 :: some (.int a) :: lv) (.int a :: st) h nc ns) := am_u e_13_17
theorem e_13_18 : pg_code 13 18 = some (.baload, 1, 0, 0) := by decide +kernel
theorem u_13_18 {a : Nat} {j : Int32} {lv : am_L} {st : List Value} : am_W G (am_M G d) 13 K 18 lv (.int j :: .ref a :: st) h nc ns = (f_ia G d 13 K 19 lv st h nc ns (h a) .boolean j) := am_u e_13_18
theorem e_13_19 : pg_code 13 19 = some (.ifCond .ne 37, 3, 56, 0) := by decide +kernel
theorem u_13_19 {a : Int32} {lv : am_L} {st : List Value} : am_W G (am_M G d) 13 K 19 lv (.int a :: st) h nc ns = (am_br (¬ a = 0) (am_W G (am_M G d) 13 K 56 lv st h nc ns) (am_W G (am_M G d) 13 K 22 lv st h nc ns)) := am_u e_13_19
theorem e_13_22 : pg_code 13 22 = some (.aload_n 0, 1, 0, 0) := by decide +kernel
theorem u_13_22 {a : Nat} {lv : am_L} {st : List Value} : am_W G (am_M G d) 13 K 22 (some (.ref a) :: lv) st h nc ns = (am_W G (am_M G d) 13 K 23 (some (.ref a) :: lv) (.ref a :: st) h nc ns) := am_u e_13_22
theorem e_13_23 : pg_code 13 23 = some (.aload_n 0, 1, 0, 0) := by decide +kernel
theorem u_13_23 {a : Nat} {lv : am_L} {st : List Value} : am_W G (am_M G d) 13 K 23 (some (.ref a) :: lv) st h nc ns = (am_W G (am_M G d) 13 K 24 (some (.ref a) :: lv) (.ref a :: st) h nc ns) := am_u e_13_23
theorem e_13_24 : pg_code 13 24 = some (.getfield 25, 3, 4, 0) := by decide +kernel
theorem u_13_24 {a : Nat} {lv : am_L} {st : List Value} : am_W G (am_M G d) 13 K 24 lv (.ref a :: st) h nc ns = (f_gf G d 13 K 27 lv st h nc ns (h a) 4 0) := am_u e_13_24
theorem e_13_27 : pg_code 13 27 = some (.getfield 70, 3, 2, 1) := by decide +kernel
theorem u_13_27 {a : Nat} {lv : am_L} {st : List Value} : am_W G (am_M G d) 13 K 27 lv (.ref a :: st) h nc ns = (f_gf G d 13 K 30 lv st h nc ns (h a) 2 1) := am_u e_13_27
theorem e_13_30 : pg_code 13 30 = some (.iload_n 2, 1, 0, 0) := by decide +kernel
theorem u_13_30 {a : Int32} {z0 : Option Value} {z1 : Option Value} {lv : am_L} {st : List Value} : am_W G (am_M G d) 13 K 30 (z0 :: z1 :: some (.int a) :: lv) st h nc ns = (am_W G (am_M G d) 13 K 31 (z0 :: z1 :: some (.int a) :: lv) (.int a :: st) h nc ns) := am_u e_13_30
theorem e_13_31 : pg_code 13 31 = some (.iaload, 1, 0, 0) := by decide +kernel
theorem u_13_31 {a : Nat} {j : Int32} {lv : am_L} {st : List Value} : am_W G (am_M G d) 13 K 31 lv (.int j :: .ref a :: st) h nc ns = (f_ia G d 13 K 32 lv st h nc ns (h a) .int j) := am_u e_13_31
theorem e_13_32 : pg_code 13 32 = some (.invokevirtual 73, 3, 14, 2) := by decide +kernel
theorem u_13_32 {a : Nat} {v0 : Value} {lv : am_L} {st : List Value} : am_W G (am_M G d) 13 K 32 lv (v0 :: .ref a :: st) h nc ns = ((am_words st ≤ 8 ∧ nc + 0 ≤ 0 ∧ ns + 0 ≤ 0 ∧ f_rc (h a) 4) ∧ am_M G d 14 [.ref a, v0] h (am_back 13 K (am_W G (am_M G d) 13 K) 14 32 lv st nc ns)) := (am_u e_13_32).trans (f_iv_eq (a := a) (G := G) (d := d) (k := 13) (K := K) (pc := 32) (lv := lv) (st := st) (h := h) (nc := nc) (ns := ns) (x := 14) (X := am_W G (am_M G d) 13 K) [v0] (by decide) rfl)
theorem e_13_35 : pg_code 13 35 = some (.ifCond .eq 21, 3, 56, 0) := by decide +kernel
theorem u_13_35 {a : Int32} {lv : am_L} {st : List Value} : am_W G (am_M G d) 13 K 35 lv (.int a :: st) h nc ns = (am_br (a = 0) (am_W G (am_M G d) 13 K 56 lv st h nc ns) (am_W G (am_M G d) 13 K 38 lv st h nc ns)) := am_u e_13_35
theorem e_13_38 : pg_code 13 38 = some (.aload_n 0, 1, 0, 0) := by decide +kernel
theorem u_13_38 {a : Nat} {lv : am_L} {st : List Value} : am_W G (am_M G d) 13 K 38 (some (.ref a) :: lv) st h nc ns = (am_W G (am_M G d) 13 K 39 (some (.ref a) :: lv) (.ref a :: st) h nc ns) := am_u e_13_38
theorem e_13_39 : pg_code 13 39 = some (.aload_n 0, 1, 0, 0) := by decide +kernel
theorem u_13_39 {a : Nat} {lv : am_L} {st : List Value} : am_W G (am_M G d) 13 K 39 (some (.ref a) :: lv) st h nc ns = (am_W G (am_M G d) 13 K 40 (some (.ref a) :: lv) (.ref a :: st) h nc ns) := am_u e_13_39
theorem e_13_40 : pg_code 13 40 = some (.getfield 25, 3, 4, 0) := by decide +kernel
theorem u_13_40 {a : Nat} {lv : am_L} {st : List Value} : am_W G (am_M G d) 13 K 40 lv (.ref a :: st) h nc ns = (f_gf G d 13 K 43 lv st h nc ns (h a) 4 0) := am_u e_13_40
theorem e_13_43 : pg_code 13 43 = some (.getfield 77, 3, 2, 2) := by decide +kernel
theorem u_13_43 {a : Nat} {lv : am_L} {st : List Value} : am_W G (am_M G d) 13 K 43 lv (.ref a :: st) h nc ns = (f_gf G d 13 K 46 lv st h nc ns (h a) 2 2) := am_u e_13_43
theorem e_13_46 : pg_code 13 46 = some (.iload_n 2, 1, 0, 0) := by decide +kernel
theorem u_13_46 {a : Int32} {z0 : Option Value} {z1 : Option Value} {lv : am_L} {st : List Value} : am_W G (am_M G d) 13 K 46 (z0 :: z1 :: some (.int a) :: lv) st h nc ns = (am_W G (am_M G d) 13 K 47 (z0 :: z1 :: some (.int a) :: lv) (.int a :: st) h nc ns) := am_u e_13_46
theorem e_13_47 : pg_code 13 47 = some (.iaload, 1, 0, 0) := by decide +kernel
theorem u_13_47 {a : Nat} {j : Int32} {lv : am_L} {st : List Value} : am_W G (am_M G d) 13 K 47 lv (.int j :: .ref a :: st) h nc ns = (f_ia G d 13 K 48 lv st h nc ns (h a) .int j) := am_u e_13_47
theorem e_13_48 : pg_code 13 48 = some (.invokevirtual 73, 3, 14, 2) := by decide +kernel
theorem u_13_48 {a : Nat} {v0 : Value} {lv : am_L} {st : List Value} : am_W G (am_M G d) 13 K 48 lv (v0 :: .ref a :: st) h nc ns = ((am_words st ≤ 8 ∧ nc + 0 ≤ 0 ∧ ns + 0 ≤ 0 ∧ f_rc (h a) 4) ∧ am_M G d 14 [.ref a, v0] h (am_back 13 K (am_W G (am_M G d) 13 K) 14 48 lv st nc ns)) := (am_u e_13_48).trans (f_iv_eq (a := a) (G := G) (d := d) (k := 13) (K := K) (pc := 48) (lv := lv) (st := st) (h := h) (nc := nc) (ns := ns) (x := 14) (X := am_W G (am_M G d) 13 K) [v0] (by decide) rfl)
theorem e_13_51 : pg_code 13 51 = some (.ifCond .eq 5, 3, 56, 0) := by decide +kernel
theorem u_13_51 {a : Int32} {lv : am_L} {st : List Value} : am_W G (am_M G d) 13 K 51 lv (.int a :: st) h nc ns = (am_br (a = 0) (am_W G (am_M G d) 13 K 56 lv st h nc ns) (am_W G (am_M G d) 13 K 54 lv st h nc ns)) := am_u e_13_51
theorem e_13_54 : pg_code 13 54 = some (.iload_n 2, 1, 0, 0) := by decide +kernel
theorem u_13_54 {a : Int32} {z0 : Option Value} {z1 : Option Value} {lv : am_L} {st : List Value} : am_W G (am_M G d) 13 K 54 (z0 :: z1 :: some (.int a) :: lv) st h nc ns = (am_W G (am_M G d) 13 K 55 (z0 :: z1 :: some (.int a) :: lv) (.int a :: st) h nc ns) := am_u e_13_54
theorem e_13_55 : pg_code 13 55 = some (.ireturn, 1, 0, 0) := by decide +kernel
theorem u_13_55 {a : Int32} {lv : am_L} : am_W G (am_M G d) 13 K 55 lv [.int a] h nc ns = (K (.inl (some (.int a))) h) := (am_u e_13_55).trans (f_t ⟨rfl, .int, rfl, rfl⟩)
theorem e_13_56 : pg_code 13 56 = some (.iinc 2 1, 3, 0, 0) := by decide +kernel
theorem u_13_56 {a : Int32} {z0 : Option Value} {z1 : Option Value} {lv : am_L} {st : List Value} : am_W G (am_M G d) 13 K 56 (z0 :: z1 :: some (.int a) :: lv) st h nc ns = (am_W G (am_M G d) 13 K 59 (am_st1 (z0 :: z1 :: some (.int a) :: lv) 2 (.int (a + Int32.ofInt 1))) st h nc ns) := (am_u e_13_56).trans (f_t (by decide +kernel))
theorem e_13_59 : pg_code 13 59 = some (.goto (-57), 3, 2, 0) := by decide +kernel
theorem u_13_59 {lv : am_L} {st : List Value} : am_W G (am_M G d) 13 K 59 lv st h nc ns = (am_W G (am_M G d) 13 K 2 lv st h nc ns) := am_u e_13_59
theorem e_13_62 : pg_code 13 62 = some (.iconst (-1), 1, 0, 0) := by decide +kernel
theorem u_13_62 {lv : am_L} {st : List Value} : am_W G (am_M G d) 13 K 62 lv st h nc ns = (am_W G (am_M G d) 13 K 63 lv (.int (-1) :: st) h nc ns) := am_u e_13_62
theorem e_13_63 : pg_code 13 63 = some (.ireturn, 1, 0, 0) := by decide +kernel
theorem u_13_63 {a : Int32} {lv : am_L} : am_W G (am_M G d) 13 K 63 lv [.int a] h nc ns = (K (.inl (some (.int a))) h) := (am_u e_13_63).trans (f_t ⟨rfl, .int, rfl, rfl⟩)
theorem e_14_0 : pg_code 14 0 = some (.iload_n 1, 1, 0, 0) := by decide +kernel
theorem u_14_0 {a : Int32} {z0 : Option Value} {lv : am_L} {st : List Value} : am_W G (am_M G d) 14 K 0 (z0 :: some (.int a) :: lv) st h nc ns = (am_W G (am_M G d) 14 K 1 (z0 :: some (.int a) :: lv) (.int a :: st) h nc ns) := am_u e_14_0
theorem e_14_1 : pg_code 14 1 = some (.ifCond .lt 12, 3, 13, 0) := by decide +kernel
theorem u_14_1 {a : Int32} {lv : am_L} {st : List Value} : am_W G (am_M G d) 14 K 1 lv (.int a :: st) h nc ns = (am_br (a < 0) (am_W G (am_M G d) 14 K 13 lv st h nc ns) (am_W G (am_M G d) 14 K 4 lv st h nc ns)) := am_u e_14_1
theorem e_14_4 : pg_code 14 4 = some (.aload_n 0, 1, 0, 0) := by decide +kernel
theorem u_14_4 {a : Nat} {lv : am_L} {st : List Value} : am_W G (am_M G d) 14 K 4 (some (.ref a) :: lv) st h nc ns = (am_W G (am_M G d) 14 K 5 (some (.ref a) :: lv) (.ref a :: st) h nc ns) := am_u e_14_4
theorem e_14_5 : pg_code 14 5 = some (.getfield 15, 3, 4, 3) := by decide +kernel
theorem u_14_5 {a : Nat} {lv : am_L} {st : List Value} : am_W G (am_M G d) 14 K 5 lv (.ref a :: st) h nc ns = (f_gf G d 14 K 8 lv st h nc ns (h a) 4 3) := am_u e_14_5
theorem e_14_8 : pg_code 14 8 = some (.iload_n 1, 1, 0, 0) := by decide +kernel
theorem u_14_8 {a : Int32} {z0 : Option Value} {lv : am_L} {st : List Value} : am_W G (am_M G d) 14 K 8 (z0 :: some (.int a) :: lv) st h nc ns = (am_W G (am_M G d) 14 K 9 (z0 :: some (.int a) :: lv) (.int a :: st) h nc ns) := am_u e_14_8
theorem e_14_9 : pg_code 14 9 = some (.baload, 1, 0, 0) := by decide +kernel
theorem u_14_9 {a : Nat} {j : Int32} {lv : am_L} {st : List Value} : am_W G (am_M G d) 14 K 9 lv (.int j :: .ref a :: st) h nc ns = (f_ia G d 14 K 10 lv st h nc ns (h a) .boolean j) := am_u e_14_9
theorem e_14_10 : pg_code 14 10 = some (.ifCond .eq 7, 3, 17, 0) := by decide +kernel
theorem u_14_10 {a : Int32} {lv : am_L} {st : List Value} : am_W G (am_M G d) 14 K 10 lv (.int a :: st) h nc ns = (am_br (a = 0) (am_W G (am_M G d) 14 K 17 lv st h nc ns) (am_W G (am_M G d) 14 K 13 lv st h nc ns)) := am_u e_14_10
theorem e_14_13 : pg_code 14 13 = some (.iconst 1, 1, 0, 0) := by decide +kernel
theorem u_14_13 {lv : am_L} {st : List Value} : am_W G (am_M G d) 14 K 13 lv st h nc ns = (am_W G (am_M G d) 14 K 14 lv (.int 1 :: st) h nc ns) := am_u e_14_13
theorem e_14_14 : pg_code 14 14 = some (.goto 4, 3, 18, 0) := by decide +kernel
theorem u_14_14 {lv : am_L} {st : List Value} : am_W G (am_M G d) 14 K 14 lv st h nc ns = (am_W G (am_M G d) 14 K 18 lv st h nc ns) := am_u e_14_14
theorem e_14_17 : pg_code 14 17 = some (.iconst 0, 1, 0, 0) := by decide +kernel
theorem u_14_17 {lv : am_L} {st : List Value} : am_W G (am_M G d) 14 K 17 lv st h nc ns = (am_W G (am_M G d) 14 K 18 lv (.int 0 :: st) h nc ns) := am_u e_14_17
theorem e_14_18 : pg_code 14 18 = some (.ireturn, 1, 0, 0) := by decide +kernel
theorem u_14_18 {a : Int32} {lv : am_L} : am_W G (am_M G d) 14 K 18 lv [.int a] h nc ns = (narrow .boolean (.int a) = .int a ∧ K (.inl (some (.int a))) h) := (am_u e_14_18).trans (f_z_eq rfl)
theorem e_15_0 : pg_code 15 0 = some (.aload_n 0, 1, 0, 0) := by decide +kernel
theorem u_15_0 {a : Nat} {lv : am_L} {st : List Value} : am_W G (am_M G d) 15 K 0 (some (.ref a) :: lv) st h nc ns = (am_W G (am_M G d) 15 K 1 (some (.ref a) :: lv) (.ref a :: st) h nc ns) := am_u e_15_0
theorem e_15_1 : pg_code 15 1 = some (.iconst 0, 1, 0, 0) := by decide +kernel
theorem u_15_1 {lv : am_L} {st : List Value} : am_W G (am_M G d) 15 K 1 lv st h nc ns = (am_W G (am_M G d) 15 K 2 lv (.int 0 :: st) h nc ns) := am_u e_15_1
theorem e_15_2 : pg_code 15 2 = some (.putfield 54, 3, 4, 7) := by decide +kernel
theorem u_15_2 {a : Nat} {b : Int32} {lv : am_L} {st : List Value} : am_W G (am_M G d) 15 K 2 lv (.int b :: .ref a :: st) h nc ns = (f_pf G d 15 K 5 lv st h nc ns (h a) 4 7 a (.int b)) := (am_u e_15_2).trans (f_pf_eq ⟨rfl, rfl⟩)
theorem e_15_5 : pg_code 15 5 = some (.iconst 0, 1, 0, 0) := by decide +kernel
theorem u_15_5 {lv : am_L} {st : List Value} : am_W G (am_M G d) 15 K 5 lv st h nc ns = (am_W G (am_M G d) 15 K 6 lv (.int 0 :: st) h nc ns) := am_u e_15_5
theorem e_15_6 : pg_code 15 6 = some (.istore_n 1, 1, 0, 0) := by decide +kernel
theorem u_15_6 {a : Int32} {lv : am_L} {st : List Value} : am_W G (am_M G d) 15 K 6 lv (.int a :: st) h nc ns = (am_W G (am_M G d) 15 K 7 (am_st1 lv 1 (.int a)) st h nc ns) := (am_u e_15_6).trans (f_t (by decide +kernel))
theorem e_15_7 : pg_code 15 7 = some (.iload_n 1, 1, 0, 0) := by decide +kernel
theorem u_15_7 {a : Int32} {z0 : Option Value} {lv : am_L} {st : List Value} : am_W G (am_M G d) 15 K 7 (z0 :: some (.int a) :: lv) st h nc ns = (am_W G (am_M G d) 15 K 8 (z0 :: some (.int a) :: lv) (.int a :: st) h nc ns) := am_u e_15_7
theorem e_15_8 : pg_code 15 8 = some (.aload_n 0, 1, 0, 0) := by decide +kernel
theorem u_15_8 {a : Nat} {lv : am_L} {st : List Value} : am_W G (am_M G d) 15 K 8 (some (.ref a) :: lv) st h nc ns = (am_W G (am_M G d) 15 K 9 (some (.ref a) :: lv) (.ref a :: st) h nc ns) := am_u e_15_8
theorem e_15_9 : pg_code 15 9 = some (.getfield 25, 3, 4, 0) := by decide +kernel
theorem u_15_9 {a : Nat} {lv : am_L} {st : List Value} : am_W G (am_M G d) 15 K 9 lv (.ref a :: st) h nc ns = (f_gf G d 15 K 12 lv st h nc ns (h a) 4 0) := am_u e_15_9
theorem e_15_12 : pg_code 15 12 = some (.getfield 42, 3, 2, 3) := by decide +kernel
theorem u_15_12 {a : Nat} {lv : am_L} {st : List Value} : am_W G (am_M G d) 15 K 12 lv (.ref a :: st) h nc ns = (f_gf G d 15 K 15 lv st h nc ns (h a) 2 3) := am_u e_15_12
theorem e_15_15 : pg_code 15 15 = some (.if_icmp .ge 80, 3, 95, 0) := by decide +kernel
theorem u_15_15 {a b : Int32} {lv : am_L} {st : List Value} : am_W G (am_M G d) 15 K 15 lv (.int b :: .int a :: st) h nc ns = (am_br (b ≤ a) (am_W G (am_M G d) 15 K 95 lv st h nc ns) (am_W G (am_M G d) 15 K 18 lv st h nc ns)) := am_u e_15_15
theorem e_15_18 : pg_code 15 18 = some (.aload_n 0, 1, 0, 0) := by decide +kernel
theorem u_15_18 {a : Nat} {lv : am_L} {st : List Value} : am_W G (am_M G d) 15 K 18 (some (.ref a) :: lv) st h nc ns = (am_W G (am_M G d) 15 K 19 (some (.ref a) :: lv) (.ref a :: st) h nc ns) := am_u e_15_18
theorem e_15_19 : pg_code 15 19 = some (.getfield 15, 3, 4, 3) := by decide +kernel
theorem u_15_19 {a : Nat} {lv : am_L} {st : List Value} : am_W G (am_M G d) 15 K 19 lv (.ref a :: st) h nc ns = (f_gf G d 15 K 22 lv st h nc ns (h a) 4 3) := am_u e_15_19
theorem e_15_22 : pg_code 15 22 = some (.iload_n 1, 1, 0, 0) := by decide +kernel
theorem u_15_22 {a : Int32} {z0 : Option Value} {lv : am_L} {st : List Value} : am_W G (am_M G d) 15 K 22 (z0 :: some (.int a) :: lv) st h nc ns = (am_W G (am_M G d) 15 K 23 (z0 :: some (.int a) :: lv) (.int a :: st) h nc ns) := am_u e_15_22
theorem e_15_23 : pg_code 15 23 = some (.baload, 1, 0, 0) := by decide +kernel
theorem u_15_23 {a : Nat} {j : Int32} {lv : am_L} {st : List Value} : am_W G (am_M G d) 15 K 23 lv (.int j :: .ref a :: st) h nc ns = (f_ia G d 15 K 24 lv st h nc ns (h a) .boolean j) := am_u e_15_23
theorem e_15_24 : pg_code 15 24 = some (.ifCond .ne 65, 3, 89, 0) := by decide +kernel
theorem u_15_24 {a : Int32} {lv : am_L} {st : List Value} : am_W G (am_M G d) 15 K 24 lv (.int a :: st) h nc ns = (am_br (¬ a = 0) (am_W G (am_M G d) 15 K 89 lv st h nc ns) (am_W G (am_M G d) 15 K 27 lv st h nc ns)) := am_u e_15_24
theorem e_15_27 : pg_code 15 27 = some (.aload_n 0, 1, 0, 0) := by decide +kernel
theorem u_15_27 {a : Nat} {lv : am_L} {st : List Value} : am_W G (am_M G d) 15 K 27 (some (.ref a) :: lv) st h nc ns = (am_W G (am_M G d) 15 K 28 (some (.ref a) :: lv) (.ref a :: st) h nc ns) := am_u e_15_27
theorem e_15_28 : pg_code 15 28 = some (.getfield 34, 3, 4, 1) := by decide +kernel
theorem u_15_28 {a : Nat} {lv : am_L} {st : List Value} : am_W G (am_M G d) 15 K 28 lv (.ref a :: st) h nc ns = (f_gf G d 15 K 31 lv st h nc ns (h a) 4 1) := am_u e_15_28
theorem e_15_31 : pg_code 15 31 = some (.iload_n 1, 1, 0, 0) := by decide +kernel
theorem u_15_31 {a : Int32} {z0 : Option Value} {lv : am_L} {st : List Value} : am_W G (am_M G d) 15 K 31 (z0 :: some (.int a) :: lv) st h nc ns = (am_W G (am_M G d) 15 K 32 (z0 :: some (.int a) :: lv) (.int a :: st) h nc ns) := am_u e_15_31
theorem e_15_32 : pg_code 15 32 = some (.iload_n 1, 1, 0, 0) := by decide +kernel
theorem u_15_32 {a : Int32} {z0 : Option Value} {lv : am_L} {st : List Value} : am_W G (am_M G d) 15 K 32 (z0 :: some (.int a) :: lv) st h nc ns = (am_W G (am_M G d) 15 K 33 (z0 :: some (.int a) :: lv) (.int a :: st) h nc ns) := am_u e_15_32
theorem e_15_33 : pg_code 15 33 = some (.invokevirtual 80, 3, 16, 3) := by decide +kernel
theorem u_15_33 {a : Nat} {v0 v1 : Value} {lv : am_L} {st : List Value} : am_W G (am_M G d) 15 K 33 lv (v1 :: v0 :: .ref a :: st) h nc ns = ((am_words st ≤ 8 ∧ nc + 0 ≤ 0 ∧ ns + 0 ≤ 0 ∧ f_rc (h a) 6) ∧ am_M G d 16 [.ref a, v0, v1] h (am_back 15 K (am_W G (am_M G d) 15 K) 16 33 lv st nc ns)) := (am_u e_15_33).trans (f_iv_eq (a := a) (G := G) (d := d) (k := 15) (K := K) (pc := 33) (lv := lv) (st := st) (h := h) (nc := nc) (ns := ns) (x := 16) (X := am_W G (am_M G d) 15 K) [v0, v1] (by decide) rfl)
theorem e_15_36 : pg_code 15 36 = some (.istore_n 2, 1, 0, 0) := by decide +kernel
theorem u_15_36 {a : Int32} {lv : am_L} {st : List Value} : am_W G (am_M G d) 15 K 36 lv (.int a :: st) h nc ns = (am_W G (am_M G d) 15 K 37 (am_st1 lv 2 (.int a)) st h nc ns) := (am_u e_15_36).trans (f_t (by decide +kernel))
theorem e_15_37 : pg_code 15 37 = some (.aload_n 0, 1, 0, 0) := by decide +kernel
theorem u_15_37 {a : Nat} {lv : am_L} {st : List Value} : am_W G (am_M G d) 15 K 37 (some (.ref a) :: lv) st h nc ns = (am_W G (am_M G d) 15 K 38 (some (.ref a) :: lv) (.ref a :: st) h nc ns) := am_u e_15_37
theorem e_15_38 : pg_code 15 38 = some (.getfield 9, 3, 4, 2) := by decide +kernel
theorem u_15_38 {a : Nat} {lv : am_L} {st : List Value} : am_W G (am_M G d) 15 K 38 lv (.ref a :: st) h nc ns = (f_gf G d 15 K 41 lv st h nc ns (h a) 4 2) := am_u e_15_38
theorem e_15_41 : pg_code 15 41 = some (.iload_n 1, 1, 0, 0) := by decide +kernel
theorem u_15_41 {a : Int32} {z0 : Option Value} {lv : am_L} {st : List Value} : am_W G (am_M G d) 15 K 41 (z0 :: some (.int a) :: lv) st h nc ns = (am_W G (am_M G d) 15 K 42 (z0 :: some (.int a) :: lv) (.int a :: st) h nc ns) := am_u e_15_41
theorem e_15_42 : pg_code 15 42 = some (.iload_n 2, 1, 0, 0) := by decide +kernel
theorem u_15_42 {a : Int32} {z0 : Option Value} {z1 : Option Value} {lv : am_L} {st : List Value} : am_W G (am_M G d) 15 K 42 (z0 :: z1 :: some (.int a) :: lv) st h nc ns = (am_W G (am_M G d) 15 K 43 (z0 :: z1 :: some (.int a) :: lv) (.int a :: st) h nc ns) := am_u e_15_42
theorem e_15_43 : pg_code 15 43 = some (.iconst (-1), 1, 0, 0) := by decide +kernel
theorem u_15_43 {lv : am_L} {st : List Value} : am_W G (am_M G d) 15 K 43 lv st h nc ns = (am_W G (am_M G d) 15 K 44 lv (.int (-1) :: st) h nc ns) := am_u e_15_43
theorem e_15_44 : pg_code 15 44 = some (.if_icmp .eq 7, 3, 51, 0) := by decide +kernel
theorem u_15_44 {a b : Int32} {lv : am_L} {st : List Value} : am_W G (am_M G d) 15 K 44 lv (.int b :: .int a :: st) h nc ns = (am_br (a = b) (am_W G (am_M G d) 15 K 51 lv st h nc ns) (am_W G (am_M G d) 15 K 47 lv st h nc ns)) := am_u e_15_44
theorem e_15_47 : pg_code 15 47 = some (.iconst 1, 1, 0, 0) := by decide +kernel
theorem u_15_47 {lv : am_L} {st : List Value} : am_W G (am_M G d) 15 K 47 lv st h nc ns = (am_W G (am_M G d) 15 K 48 lv (.int 1 :: st) h nc ns) := am_u e_15_47
theorem e_15_48 : pg_code 15 48 = some (.goto 4, 3, 52, 0) := by decide +kernel
theorem u_15_48 {lv : am_L} {st : List Value} : am_W G (am_M G d) 15 K 48 lv st h nc ns = (am_W G (am_M G d) 15 K 52 lv st h nc ns) := am_u e_15_48
theorem e_15_51 : pg_code 15 51 = some (.iconst 0, 1, 0, 0) := by decide +kernel
theorem u_15_51 {lv : am_L} {st : List Value} : am_W G (am_M G d) 15 K 51 lv st h nc ns = (am_W G (am_M G d) 15 K 52 lv (.int 0 :: st) h nc ns) := am_u e_15_51
theorem e_15_52 : pg_code 15 52 = some (.bastore, 1, 0, 0) := by decide +kernel
theorem u_15_52 {a : Nat} {j b : Int32} {lv : am_L} {st : List Value} : am_W G (am_M G d) 15 K 52 lv (.int b :: .int j :: .ref a :: st) h nc ns = (f_is G d 15 K 53 lv st h nc ns (h a) .boolean a j (vp_nar .boolean b)) := am_u e_15_52
theorem e_15_53 : pg_code 15 53 = some (.aload_n 0, 1, 0, 0) := by decide +kernel
theorem u_15_53 {a : Nat} {lv : am_L} {st : List Value} : am_W G (am_M G d) 15 K 53 (some (.ref a) :: lv) st h nc ns = (am_W G (am_M G d) 15 K 54 (some (.ref a) :: lv) (.ref a :: st) h nc ns) := am_u e_15_53
theorem e_15_54 : pg_code 15 54 = some (.getfield 9, 3, 4, 2) := by decide +kernel
theorem u_15_54 {a : Nat} {lv : am_L} {st : List Value} : am_W G (am_M G d) 15 K 54 lv (.ref a :: st) h nc ns = (f_gf G d 15 K 57 lv st h nc ns (h a) 4 2) := am_u e_15_54
theorem e_15_57 : pg_code 15 57 = some (.iload_n 1, 1, 0, 0) := by decide +kernel
theorem u_15_57 {a : Int32} {z0 : Option Value} {lv : am_L} {st : List Value} : am_W G (am_M G d) 15 K 57 (z0 :: some (.int a) :: lv) st h nc ns = (am_W G (am_M G d) 15 K 58 (z0 :: some (.int a) :: lv) (.int a :: st) h nc ns) := am_u e_15_57
theorem e_15_58 : pg_code 15 58 = some (.baload, 1, 0, 0) := by decide +kernel
theorem u_15_58 {a : Nat} {j : Int32} {lv : am_L} {st : List Value} : am_W G (am_M G d) 15 K 58 lv (.int j :: .ref a :: st) h nc ns = (f_ia G d 15 K 59 lv st h nc ns (h a) .boolean j) := am_u e_15_58
theorem e_15_59 : pg_code 15 59 = some (.ifCond .eq 30, 3, 89, 0) := by decide +kernel
theorem u_15_59 {a : Int32} {lv : am_L} {st : List Value} : am_W G (am_M G d) 15 K 59 lv (.int a :: st) h nc ns = (am_br (a = 0) (am_W G (am_M G d) 15 K 89 lv st h nc ns) (am_W G (am_M G d) 15 K 62 lv st h nc ns)) := am_u e_15_59
theorem e_15_62 : pg_code 15 62 = some (.aload_n 0, 1, 0, 0) := by decide +kernel
theorem u_15_62 {a : Nat} {lv : am_L} {st : List Value} : am_W G (am_M G d) 15 K 62 (some (.ref a) :: lv) st h nc ns = (am_W G (am_M G d) 15 K 63 (some (.ref a) :: lv) (.ref a :: st) h nc ns) := am_u e_15_62
theorem e_15_63 : pg_code 15 63 = some (.getfield 54, 3, 4, 7) := by decide +kernel
theorem u_15_63 {a : Nat} {lv : am_L} {st : List Value} : am_W G (am_M G d) 15 K 63 lv (.ref a :: st) h nc ns = (f_gf G d 15 K 66 lv st h nc ns (h a) 4 7) := am_u e_15_63
theorem e_15_66 : pg_code 15 66 = some (.ifCond .eq 11, 3, 77, 0) := by decide +kernel
theorem u_15_66 {a : Int32} {lv : am_L} {st : List Value} : am_W G (am_M G d) 15 K 66 lv (.int a :: st) h nc ns = (am_br (a = 0) (am_W G (am_M G d) 15 K 77 lv st h nc ns) (am_W G (am_M G d) 15 K 69 lv st h nc ns)) := am_u e_15_66
theorem e_15_69 : pg_code 15 69 = some (.iload_n 2, 1, 0, 0) := by decide +kernel
theorem u_15_69 {a : Int32} {z0 : Option Value} {z1 : Option Value} {lv : am_L} {st : List Value} : am_W G (am_M G d) 15 K 69 (z0 :: z1 :: some (.int a) :: lv) st h nc ns = (am_W G (am_M G d) 15 K 70 (z0 :: z1 :: some (.int a) :: lv) (.int a :: st) h nc ns) := am_u e_15_69
theorem e_15_70 : pg_code 15 70 = some (.aload_n 0, 1, 0, 0) := by decide +kernel
theorem u_15_70 {a : Nat} {lv : am_L} {st : List Value} : am_W G (am_M G d) 15 K 70 (some (.ref a) :: lv) st h nc ns = (am_W G (am_M G d) 15 K 71 (some (.ref a) :: lv) (.ref a :: st) h nc ns) := am_u e_15_70
theorem e_15_71 : pg_code 15 71 = some (.getfield 54, 3, 4, 7) := by decide +kernel
theorem u_15_71 {a : Nat} {lv : am_L} {st : List Value} : am_W G (am_M G d) 15 K 71 lv (.ref a :: st) h nc ns = (f_gf G d 15 K 74 lv st h nc ns (h a) 4 7) := am_u e_15_71
theorem e_15_74 : pg_code 15 74 = some (.if_icmp .ge 15, 3, 89, 0) := by decide +kernel
theorem u_15_74 {a b : Int32} {lv : am_L} {st : List Value} : am_W G (am_M G d) 15 K 74 lv (.int b :: .int a :: st) h nc ns = (am_br (b ≤ a) (am_W G (am_M G d) 15 K 89 lv st h nc ns) (am_W G (am_M G d) 15 K 77 lv st h nc ns)) := am_u e_15_74
theorem e_15_77 : pg_code 15 77 = some (.aload_n 0, 1, 0, 0) := by decide +kernel
theorem u_15_77 {a : Nat} {lv : am_L} {st : List Value} : am_W G (am_M G d) 15 K 77 (some (.ref a) :: lv) st h nc ns = (am_W G (am_M G d) 15 K 78 (some (.ref a) :: lv) (.ref a :: st) h nc ns) := am_u e_15_77
theorem e_15_78 : pg_code 15 78 = some (.iload_n 2, 1, 0, 0) := by decide +kernel
theorem u_15_78 {a : Int32} {z0 : Option Value} {z1 : Option Value} {lv : am_L} {st : List Value} : am_W G (am_M G d) 15 K 78 (z0 :: z1 :: some (.int a) :: lv) st h nc ns = (am_W G (am_M G d) 15 K 79 (z0 :: z1 :: some (.int a) :: lv) (.int a :: st) h nc ns) := am_u e_15_78
theorem e_15_79 : pg_code 15 79 = some (.putfield 54, 3, 4, 7) := by decide +kernel
theorem u_15_79 {a : Nat} {b : Int32} {lv : am_L} {st : List Value} : am_W G (am_M G d) 15 K 79 lv (.int b :: .ref a :: st) h nc ns = (f_pf G d 15 K 82 lv st h nc ns (h a) 4 7 a (.int b)) := (am_u e_15_79).trans (f_pf_eq ⟨rfl, rfl⟩)
theorem e_15_82 : pg_code 15 82 = some (.aload_n 0, 1, 0, 0) := by decide +kernel
theorem u_15_82 {a : Nat} {lv : am_L} {st : List Value} : am_W G (am_M G d) 15 K 82 (some (.ref a) :: lv) st h nc ns = (am_W G (am_M G d) 15 K 83 (some (.ref a) :: lv) (.ref a :: st) h nc ns) := am_u e_15_82
theorem e_15_83 : pg_code 15 83 = some (.getfield 22, 3, 4, 6) := by decide +kernel
theorem u_15_83 {a : Nat} {lv : am_L} {st : List Value} : am_W G (am_M G d) 15 K 83 lv (.ref a :: st) h nc ns = (f_gf G d 15 K 86 lv st h nc ns (h a) 4 6) := am_u e_15_83
theorem e_15_86 : pg_code 15 86 = some (.iconst 0, 1, 0, 0) := by decide +kernel
theorem u_15_86 {lv : am_L} {st : List Value} : am_W G (am_M G d) 15 K 86 lv st h nc ns = (am_W G (am_M G d) 15 K 87 lv (.int 0 :: st) h nc ns) := am_u e_15_86
theorem e_15_87 : pg_code 15 87 = some (.iload_n 1, 1, 0, 0) := by decide +kernel
theorem u_15_87 {a : Int32} {z0 : Option Value} {lv : am_L} {st : List Value} : am_W G (am_M G d) 15 K 87 (z0 :: some (.int a) :: lv) st h nc ns = (am_W G (am_M G d) 15 K 88 (z0 :: some (.int a) :: lv) (.int a :: st) h nc ns) := am_u e_15_87
theorem e_15_88 : pg_code 15 88 = some (.iastore, 1, 0, 0) := by decide +kernel
theorem u_15_88 {a : Nat} {j b : Int32} {lv : am_L} {st : List Value} : am_W G (am_M G d) 15 K 88 lv (.int b :: .int j :: .ref a :: st) h nc ns = (f_is G d 15 K 89 lv st h nc ns (h a) .int a j b) := am_u e_15_88
theorem e_15_89 : pg_code 15 89 = some (.iinc 1 1, 3, 0, 0) := by decide +kernel
theorem u_15_89 {a : Int32} {z0 : Option Value} {lv : am_L} {st : List Value} : am_W G (am_M G d) 15 K 89 (z0 :: some (.int a) :: lv) st h nc ns = (am_W G (am_M G d) 15 K 92 (am_st1 (z0 :: some (.int a) :: lv) 1 (.int (a + Int32.ofInt 1))) st h nc ns) := (am_u e_15_89).trans (f_t (by decide +kernel))
theorem e_15_92 : pg_code 15 92 = some (.goto (-85), 3, 7, 0) := by decide +kernel
theorem u_15_92 {lv : am_L} {st : List Value} : am_W G (am_M G d) 15 K 92 lv st h nc ns = (am_W G (am_M G d) 15 K 7 lv st h nc ns) := am_u e_15_92
theorem e_15_95 : pg_code 15 95 = some (.iconst 1, 1, 0, 0) := by decide +kernel
theorem u_15_95 {lv : am_L} {st : List Value} : am_W G (am_M G d) 15 K 95 lv st h nc ns = (am_W G (am_M G d) 15 K 96 lv (.int 1 :: st) h nc ns) := am_u e_15_95
theorem e_15_96 : pg_code 15 96 = some (.istore_n 1, 1, 0, 0) := by decide +kernel
theorem u_15_96 {a : Int32} {lv : am_L} {st : List Value} : am_W G (am_M G d) 15 K 96 lv (.int a :: st) h nc ns = (am_W G (am_M G d) 15 K 97 (am_st1 lv 1 (.int a)) st h nc ns) := (am_u e_15_96).trans (f_t (by decide +kernel))
theorem e_15_97 : pg_code 15 97 = some (.iload_n 1, 1, 0, 0) := by decide +kernel
theorem u_15_97 {a : Int32} {z0 : Option Value} {lv : am_L} {st : List Value} : am_W G (am_M G d) 15 K 97 (z0 :: some (.int a) :: lv) st h nc ns = (am_W G (am_M G d) 15 K 98 (z0 :: some (.int a) :: lv) (.int a :: st) h nc ns) := am_u e_15_97
theorem e_15_98 : pg_code 15 98 = some (.aload_n 0, 1, 0, 0) := by decide +kernel
theorem u_15_98 {a : Nat} {lv : am_L} {st : List Value} : am_W G (am_M G d) 15 K 98 (some (.ref a) :: lv) st h nc ns = (am_W G (am_M G d) 15 K 99 (some (.ref a) :: lv) (.ref a :: st) h nc ns) := am_u e_15_98
theorem e_15_99 : pg_code 15 99 = some (.getfield 54, 3, 4, 7) := by decide +kernel
theorem u_15_99 {a : Nat} {lv : am_L} {st : List Value} : am_W G (am_M G d) 15 K 99 lv (.ref a :: st) h nc ns = (f_gf G d 15 K 102 lv st h nc ns (h a) 4 7) := am_u e_15_99
theorem e_15_102 : pg_code 15 102 = some (.if_icmp .ge 33, 3, 135, 0) := by decide +kernel
theorem u_15_102 {a b : Int32} {lv : am_L} {st : List Value} : am_W G (am_M G d) 15 K 102 lv (.int b :: .int a :: st) h nc ns = (am_br (b ≤ a) (am_W G (am_M G d) 15 K 135 lv st h nc ns) (am_W G (am_M G d) 15 K 105 lv st h nc ns)) := am_u e_15_102
theorem e_15_105 : pg_code 15 105 = some (.aload_n 0, 1, 0, 0) := by decide +kernel
theorem u_15_105 {a : Nat} {lv : am_L} {st : List Value} : am_W G (am_M G d) 15 K 105 (some (.ref a) :: lv) st h nc ns = (am_W G (am_M G d) 15 K 106 (some (.ref a) :: lv) (.ref a :: st) h nc ns) := am_u e_15_105
theorem e_15_106 : pg_code 15 106 = some (.getfield 22, 3, 4, 6) := by decide +kernel
theorem u_15_106 {a : Nat} {lv : am_L} {st : List Value} : am_W G (am_M G d) 15 K 106 lv (.ref a :: st) h nc ns = (f_gf G d 15 K 109 lv st h nc ns (h a) 4 6) := am_u e_15_106
theorem e_15_109 : pg_code 15 109 = some (.iload_n 1, 1, 0, 0) := by decide +kernel
theorem u_15_109 {a : Int32} {z0 : Option Value} {lv : am_L} {st : List Value} : am_W G (am_M G d) 15 K 109 (z0 :: some (.int a) :: lv) st h nc ns = (am_W G (am_M G d) 15 K 110 (z0 :: some (.int a) :: lv) (.int a :: st) h nc ns) := am_u e_15_109
theorem e_15_110 : pg_code 15 110 = some (.aload_n 0, 1, 0, 0) := by decide +kernel
theorem u_15_110 {a : Nat} {lv : am_L} {st : List Value} : am_W G (am_M G d) 15 K 110 (some (.ref a) :: lv) st h nc ns = (am_W G (am_M G d) 15 K 111 (some (.ref a) :: lv) (.ref a :: st) h nc ns) := am_u e_15_110
theorem e_15_111 : pg_code 15 111 = some (.aload_n 0, 1, 0, 0) := by decide +kernel
theorem u_15_111 {a : Nat} {lv : am_L} {st : List Value} : am_W G (am_M G d) 15 K 111 (some (.ref a) :: lv) st h nc ns = (am_W G (am_M G d) 15 K 112 (some (.ref a) :: lv) (.ref a :: st) h nc ns) := am_u e_15_111
theorem e_15_112 : pg_code 15 112 = some (.getfield 22, 3, 4, 6) := by decide +kernel
theorem u_15_112 {a : Nat} {lv : am_L} {st : List Value} : am_W G (am_M G d) 15 K 112 lv (.ref a :: st) h nc ns = (f_gf G d 15 K 115 lv st h nc ns (h a) 4 6) := am_u e_15_112
theorem e_15_115 : pg_code 15 115 = some (.iload_n 1, 1, 0, 0) := by decide +kernel
theorem u_15_115 {a : Int32} {z0 : Option Value} {lv : am_L} {st : List Value} : am_W G (am_M G d) 15 K 115 (z0 :: some (.int a) :: lv) st h nc ns = (am_W G (am_M G d) 15 K 116 (z0 :: some (.int a) :: lv) (.int a :: st) h nc ns) := am_u e_15_115
theorem e_15_116 : pg_code 15 116 = some (.iconst 1, 1, 0, 0) := by decide +kernel
theorem u_15_116 {lv : am_L} {st : List Value} : am_W G (am_M G d) 15 K 116 lv st h nc ns = (am_W G (am_M G d) 15 K 117 lv (.int 1 :: st) h nc ns) := am_u e_15_116
theorem e_15_117 : pg_code 15 117 = some (.isub, 1, 0, 0) := by decide +kernel
theorem u_15_117 {a b : Int32} {lv : am_L} {st : List Value} : am_W G (am_M G d) 15 K 117 lv (.int b :: .int a :: st) h nc ns = (am_W G (am_M G d) 15 K 118 lv (.int (a - b) :: st) h nc ns) := am_u e_15_117
theorem e_15_118 : pg_code 15 118 = some (.iaload, 1, 0, 0) := by decide +kernel
theorem u_15_118 {a : Nat} {j : Int32} {lv : am_L} {st : List Value} : am_W G (am_M G d) 15 K 118 lv (.int j :: .ref a :: st) h nc ns = (f_ia G d 15 K 119 lv st h nc ns (h a) .int j) := am_u e_15_118
theorem e_15_119 : pg_code 15 119 = some (.aload_n 0, 1, 0, 0) := by decide +kernel
theorem u_15_119 {a : Nat} {lv : am_L} {st : List Value} : am_W G (am_M G d) 15 K 119 (some (.ref a) :: lv) st h nc ns = (am_W G (am_M G d) 15 K 120 (some (.ref a) :: lv) (.ref a :: st) h nc ns) := am_u e_15_119
theorem e_15_120 : pg_code 15 120 = some (.getfield 54, 3, 4, 7) := by decide +kernel
theorem u_15_120 {a : Nat} {lv : am_L} {st : List Value} : am_W G (am_M G d) 15 K 120 lv (.ref a :: st) h nc ns = (f_gf G d 15 K 123 lv st h nc ns (h a) 4 7) := am_u e_15_120
theorem e_15_123 : pg_code 15 123 = some (.iload_n 1, 1, 0, 0) := by decide +kernel
theorem u_15_123 {a : Int32} {z0 : Option Value} {lv : am_L} {st : List Value} : am_W G (am_M G d) 15 K 123 (z0 :: some (.int a) :: lv) st h nc ns = (am_W G (am_M G d) 15 K 124 (z0 :: some (.int a) :: lv) (.int a :: st) h nc ns) := am_u e_15_123
theorem e_15_124 : pg_code 15 124 = some (.isub, 1, 0, 0) := by decide +kernel
theorem u_15_124 {a b : Int32} {lv : am_L} {st : List Value} : am_W G (am_M G d) 15 K 124 lv (.int b :: .int a :: st) h nc ns = (am_W G (am_M G d) 15 K 125 lv (.int (a - b) :: st) h nc ns) := am_u e_15_124
theorem e_15_125 : pg_code 15 125 = some (.invokevirtual 84, 3, 19, 3) := by decide +kernel
theorem u_15_125 {a : Nat} {v0 v1 : Value} {lv : am_L} {st : List Value} : am_W G (am_M G d) 15 K 125 lv (v1 :: v0 :: .ref a :: st) h nc ns = ((am_words st ≤ 8 ∧ nc + 0 ≤ 0 ∧ ns + 0 ≤ 0 ∧ f_rc (h a) 4) ∧ am_M G d 19 [.ref a, v0, v1] h (am_back 15 K (am_W G (am_M G d) 15 K) 19 125 lv st nc ns)) := (am_u e_15_125).trans (f_iv_eq (a := a) (G := G) (d := d) (k := 15) (K := K) (pc := 125) (lv := lv) (st := st) (h := h) (nc := nc) (ns := ns) (x := 19) (X := am_W G (am_M G d) 15 K) [v0, v1] (by decide) rfl)
theorem e_15_128 : pg_code 15 128 = some (.iastore, 1, 0, 0) := by decide +kernel
theorem u_15_128 {a : Nat} {j b : Int32} {lv : am_L} {st : List Value} : am_W G (am_M G d) 15 K 128 lv (.int b :: .int j :: .ref a :: st) h nc ns = (f_is G d 15 K 129 lv st h nc ns (h a) .int a j b) := am_u e_15_128
theorem e_15_129 : pg_code 15 129 = some (.iinc 1 1, 3, 0, 0) := by decide +kernel
theorem u_15_129 {a : Int32} {z0 : Option Value} {lv : am_L} {st : List Value} : am_W G (am_M G d) 15 K 129 (z0 :: some (.int a) :: lv) st h nc ns = (am_W G (am_M G d) 15 K 132 (am_st1 (z0 :: some (.int a) :: lv) 1 (.int (a + Int32.ofInt 1))) st h nc ns) := (am_u e_15_129).trans (f_t (by decide +kernel))
theorem e_15_132 : pg_code 15 132 = some (.goto (-35), 3, 97, 0) := by decide +kernel
theorem u_15_132 {lv : am_L} {st : List Value} : am_W G (am_M G d) 15 K 132 lv st h nc ns = (am_W G (am_M G d) 15 K 97 lv st h nc ns) := am_u e_15_132
theorem e_15_135 : pg_code 15 135 = some (.return_, 1, 0, 0) := by decide +kernel
theorem u_15_135 {lv : am_L} : am_W G (am_M G d) 15 K 135 lv [] h nc ns = (K (.inl none) h) := (am_u e_15_135).trans (f_t ⟨rfl, rfl⟩)
theorem e_16_0 : pg_code 16 0 = some (.aload_n 0, 1, 0, 0) := by decide +kernel
theorem u_16_0 {a : Nat} {lv : am_L} {st : List Value} : am_W G (am_M G d) 16 K 0 (some (.ref a) :: lv) st h nc ns = (am_W G (am_M G d) 16 K 1 (some (.ref a) :: lv) (.ref a :: st) h nc ns) := am_u e_16_0
theorem e_16_1 : pg_code 16 1 = some (.iload_n 1, 1, 0, 0) := by decide +kernel
theorem u_16_1 {a : Int32} {z0 : Option Value} {lv : am_L} {st : List Value} : am_W G (am_M G d) 16 K 1 (z0 :: some (.int a) :: lv) st h nc ns = (am_W G (am_M G d) 16 K 2 (z0 :: some (.int a) :: lv) (.int a :: st) h nc ns) := am_u e_16_1
theorem e_16_2 : pg_code 16 2 = some (.invokevirtual 45, 3, 17, 2) := by decide +kernel
theorem u_16_2 {a : Nat} {v0 : Value} {lv : am_L} {st : List Value} : am_W G (am_M G d) 16 K 2 lv (v0 :: .ref a :: st) h nc ns = ((am_words st ≤ 8 ∧ nc + 0 ≤ 0 ∧ ns + 0 ≤ 0 ∧ f_rc (h a) 6) ∧ am_M G d 17 [.ref a, v0] h (am_back 16 K (am_W G (am_M G d) 16 K) 17 2 lv st nc ns)) := (am_u e_16_2).trans (f_iv_eq (a := a) (G := G) (d := d) (k := 16) (K := K) (pc := 2) (lv := lv) (st := st) (h := h) (nc := nc) (ns := ns) (x := 17) (X := am_W G (am_M G d) 16 K) [v0] (by decide) rfl)
theorem e_16_5 : pg_code 16 5 = some (.iconst 0, 1, 0, 0) := by decide +kernel
theorem u_16_5 {lv : am_L} {st : List Value} : am_W G (am_M G d) 16 K 5 lv st h nc ns = (am_W G (am_M G d) 16 K 6 lv (.int 0 :: st) h nc ns) := am_u e_16_5
theorem e_16_6 : pg_code 16 6 = some (.istore_n 3, 1, 0, 0) := by decide +kernel
theorem u_16_6 {a : Int32} {lv : am_L} {st : List Value} : am_W G (am_M G d) 16 K 6 lv (.int a :: st) h nc ns = (am_W G (am_M G d) 16 K 7 (am_st1 lv 3 (.int a)) st h nc ns) := (am_u e_16_6).trans (f_t (by decide +kernel))
theorem e_16_7 : pg_code 16 7 = some (.iload_n 3, 1, 0, 0) := by decide +kernel
theorem u_16_7 {a : Int32} {z0 : Option Value} {z1 : Option Value} {z2 : Option Value} {lv : am_L} {st : List Value} : am_W G (am_M G d) 16 K 7 (z0 :: z1 :: z2 :: some (.int a) :: lv) st h nc ns = (am_W G (am_M G d) 16 K 8 (z0 :: z1 :: z2 :: some (.int a) :: lv) (.int a :: st) h nc ns) := am_u e_16_7
theorem e_16_8 : pg_code 16 8 = some (.aload_n 0, 1, 0, 0) := by decide +kernel
theorem u_16_8 {a : Nat} {lv : am_L} {st : List Value} : am_W G (am_M G d) 16 K 8 (some (.ref a) :: lv) st h nc ns = (am_W G (am_M G d) 16 K 9 (some (.ref a) :: lv) (.ref a :: st) h nc ns) := am_u e_16_8
theorem e_16_9 : pg_code 16 9 = some (.getfield 32, 3, 6, 2) := by decide +kernel
theorem u_16_9 {a : Nat} {lv : am_L} {st : List Value} : am_W G (am_M G d) 16 K 9 lv (.ref a :: st) h nc ns = (f_gf G d 16 K 12 lv st h nc ns (h a) 6 2) := am_u e_16_9
theorem e_16_12 : pg_code 16 12 = some (.if_icmp .ge 55, 3, 67, 0) := by decide +kernel
theorem u_16_12 {a b : Int32} {lv : am_L} {st : List Value} : am_W G (am_M G d) 16 K 12 lv (.int b :: .int a :: st) h nc ns = (am_br (b ≤ a) (am_W G (am_M G d) 16 K 67 lv st h nc ns) (am_W G (am_M G d) 16 K 15 lv st h nc ns)) := am_u e_16_12
theorem e_16_15 : pg_code 16 15 = some (.aload_n 0, 1, 0, 0) := by decide +kernel
theorem u_16_15 {a : Nat} {lv : am_L} {st : List Value} : am_W G (am_M G d) 16 K 15 (some (.ref a) :: lv) st h nc ns = (am_W G (am_M G d) 16 K 16 (some (.ref a) :: lv) (.ref a :: st) h nc ns) := am_u e_16_15
theorem e_16_16 : pg_code 16 16 = some (.getfield 9, 3, 6, 1) := by decide +kernel
theorem u_16_16 {a : Nat} {lv : am_L} {st : List Value} : am_W G (am_M G d) 16 K 16 lv (.ref a :: st) h nc ns = (f_gf G d 16 K 19 lv st h nc ns (h a) 6 1) := am_u e_16_16
theorem e_16_19 : pg_code 16 19 = some (.iload_n 3, 1, 0, 0) := by decide +kernel
theorem u_16_19 {a : Int32} {z0 : Option Value} {z1 : Option Value} {z2 : Option Value} {lv : am_L} {st : List Value} : am_W G (am_M G d) 16 K 19 (z0 :: z1 :: z2 :: some (.int a) :: lv) st h nc ns = (am_W G (am_M G d) 16 K 20 (z0 :: z1 :: z2 :: some (.int a) :: lv) (.int a :: st) h nc ns) := am_u e_16_19
theorem e_16_20 : pg_code 16 20 = some (.iaload, 1, 0, 0) := by decide +kernel
theorem u_16_20 {a : Nat} {j : Int32} {lv : am_L} {st : List Value} : am_W G (am_M G d) 16 K 20 lv (.int j :: .ref a :: st) h nc ns = (f_ia G d 16 K 21 lv st h nc ns (h a) .int j) := am_u e_16_20
theorem e_16_21 : pg_code 16 21 = some (.istore 4, 2, 0, 0) := by decide +kernel
theorem u_16_21 {a : Int32} {lv : am_L} {st : List Value} : am_W G (am_M G d) 16 K 21 lv (.int a :: st) h nc ns = (am_W G (am_M G d) 16 K 23 (am_st1 lv 4 (.int a)) st h nc ns) := (am_u e_16_21).trans (f_t (by decide +kernel))
theorem e_16_23 : pg_code 16 23 = some (.aload_n 0, 1, 0, 0) := by decide +kernel
theorem u_16_23 {a : Nat} {lv : am_L} {st : List Value} : am_W G (am_M G d) 16 K 23 (some (.ref a) :: lv) st h nc ns = (am_W G (am_M G d) 16 K 24 (some (.ref a) :: lv) (.ref a :: st) h nc ns) := am_u e_16_23
theorem e_16_24 : pg_code 16 24 = some (.getfield 22, 3, 6, 0) := by decide +kernel
theorem u_16_24 {a : Nat} {lv : am_L} {st : List Value} : am_W G (am_M G d) 16 K 24 lv (.ref a :: st) h nc ns = (f_gf G d 16 K 27 lv st h nc ns (h a) 6 0) := am_u e_16_24
theorem e_16_27 : pg_code 16 27 = some (.getfield 39, 3, 2, 1) := by decide +kernel
theorem u_16_27 {a : Nat} {lv : am_L} {st : List Value} : am_W G (am_M G d) 16 K 27 lv (.ref a :: st) h nc ns = (f_gf G d 16 K 30 lv st h nc ns (h a) 2 1) := am_u e_16_27
theorem e_16_30 : pg_code 16 30 = some (.iload 4, 2, 0, 0) := by decide +kernel
theorem u_16_30 {a : Int32} {z0 : Option Value} {z1 : Option Value} {z2 : Option Value} {z3 : Option Value} {lv : am_L} {st : List Value} : am_W G (am_M G d) 16 K 30 (z0 :: z1 :: z2 :: z3 :: some (.int a) :: lv) st h nc ns = (am_W G (am_M G d) 16 K 32 (z0 :: z1 :: z2 :: z3 :: some (.int a) :: lv) (.int a :: st) h nc ns) := am_u e_16_30
theorem e_16_32 : pg_code 16 32 = some (.iaload, 1, 0, 0) := by decide +kernel
theorem u_16_32 {a : Nat} {j : Int32} {lv : am_L} {st : List Value} : am_W G (am_M G d) 16 K 32 lv (.int j :: .ref a :: st) h nc ns = (f_ia G d 16 K 33 lv st h nc ns (h a) .int j) := am_u e_16_32
theorem e_16_33 : pg_code 16 33 = some (.iload_n 2, 1, 0, 0) := by decide +kernel
theorem u_16_33 {a : Int32} {z0 : Option Value} {z1 : Option Value} {lv : am_L} {st : List Value} : am_W G (am_M G d) 16 K 33 (z0 :: z1 :: some (.int a) :: lv) st h nc ns = (am_W G (am_M G d) 16 K 34 (z0 :: z1 :: some (.int a) :: lv) (.int a :: st) h nc ns) := am_u e_16_33
theorem e_16_34 : pg_code 16 34 = some (.if_icmp .eq 17, 3, 51, 0) := by decide +kernel
theorem u_16_34 {a b : Int32} {lv : am_L} {st : List Value} : am_W G (am_M G d) 16 K 34 lv (.int b :: .int a :: st) h nc ns = (am_br (a = b) (am_W G (am_M G d) 16 K 51 lv st h nc ns) (am_W G (am_M G d) 16 K 37 lv st h nc ns)) := am_u e_16_34
theorem e_16_37 : pg_code 16 37 = some (.aload_n 0, 1, 0, 0) := by decide +kernel
theorem u_16_37 {a : Nat} {lv : am_L} {st : List Value} : am_W G (am_M G d) 16 K 37 (some (.ref a) :: lv) st h nc ns = (am_W G (am_M G d) 16 K 38 (some (.ref a) :: lv) (.ref a :: st) h nc ns) := am_u e_16_37
theorem e_16_38 : pg_code 16 38 = some (.getfield 22, 3, 6, 0) := by decide +kernel
theorem u_16_38 {a : Nat} {lv : am_L} {st : List Value} : am_W G (am_M G d) 16 K 38 lv (.ref a :: st) h nc ns = (f_gf G d 16 K 41 lv st h nc ns (h a) 6 0) := am_u e_16_38
theorem e_16_41 : pg_code 16 41 = some (.getfield 42, 3, 2, 2) := by decide +kernel
theorem u_16_41 {a : Nat} {lv : am_L} {st : List Value} : am_W G (am_M G d) 16 K 41 lv (.ref a :: st) h nc ns = (f_gf G d 16 K 44 lv st h nc ns (h a) 2 2) := am_u e_16_41
theorem e_16_44 : pg_code 16 44 = some (.iload 4, 2, 0, 0) := by decide +kernel
theorem u_16_44 {a : Int32} {z0 : Option Value} {z1 : Option Value} {z2 : Option Value} {z3 : Option Value} {lv : am_L} {st : List Value} : am_W G (am_M G d) 16 K 44 (z0 :: z1 :: z2 :: z3 :: some (.int a) :: lv) st h nc ns = (am_W G (am_M G d) 16 K 46 (z0 :: z1 :: z2 :: z3 :: some (.int a) :: lv) (.int a :: st) h nc ns) := am_u e_16_44
theorem e_16_46 : pg_code 16 46 = some (.iaload, 1, 0, 0) := by decide +kernel
theorem u_16_46 {a : Nat} {j : Int32} {lv : am_L} {st : List Value} : am_W G (am_M G d) 16 K 46 lv (.int j :: .ref a :: st) h nc ns = (f_ia G d 16 K 47 lv st h nc ns (h a) .int j) := am_u e_16_46
theorem e_16_47 : pg_code 16 47 = some (.iload_n 2, 1, 0, 0) := by decide +kernel
theorem u_16_47 {a : Int32} {z0 : Option Value} {z1 : Option Value} {lv : am_L} {st : List Value} : am_W G (am_M G d) 16 K 47 (z0 :: z1 :: some (.int a) :: lv) st h nc ns = (am_W G (am_M G d) 16 K 48 (z0 :: z1 :: some (.int a) :: lv) (.int a :: st) h nc ns) := am_u e_16_47
theorem e_16_48 : pg_code 16 48 = some (.if_icmp .ne 13, 3, 61, 0) := by decide +kernel
theorem u_16_48 {a b : Int32} {lv : am_L} {st : List Value} : am_W G (am_M G d) 16 K 48 lv (.int b :: .int a :: st) h nc ns = (am_br (¬ a = b) (am_W G (am_M G d) 16 K 61 lv st h nc ns) (am_W G (am_M G d) 16 K 51 lv st h nc ns)) := am_u e_16_48
theorem e_16_51 : pg_code 16 51 = some (.aload_n 0, 1, 0, 0) := by decide +kernel
theorem u_16_51 {a : Nat} {lv : am_L} {st : List Value} : am_W G (am_M G d) 16 K 51 (some (.ref a) :: lv) st h nc ns = (am_W G (am_M G d) 16 K 52 (some (.ref a) :: lv) (.ref a :: st) h nc ns) := am_u e_16_51
theorem e_16_52 : pg_code 16 52 = some (.getfield 15, 3, 6, 3) := by decide +kernel
theorem u_16_52 {a : Nat} {lv : am_L} {st : List Value} : am_W G (am_M G d) 16 K 52 lv (.ref a :: st) h nc ns = (f_gf G d 16 K 55 lv st h nc ns (h a) 6 3) := am_u e_16_52
theorem e_16_55 : pg_code 16 55 = some (.iload 4, 2, 0, 0) := by decide +kernel
theorem u_16_55 {a : Int32} {z0 : Option Value} {z1 : Option Value} {z2 : Option Value} {z3 : Option Value} {lv : am_L} {st : List Value} : am_W G (am_M G d) 16 K 55 (z0 :: z1 :: z2 :: z3 :: some (.int a) :: lv) st h nc ns = (am_W G (am_M G d) 16 K 57 (z0 :: z1 :: z2 :: z3 :: some (.int a) :: lv) (.int a :: st) h nc ns) := am_u e_16_55
theorem e_16_57 : pg_code 16 57 = some (.iaload, 1, 0, 0) := by decide +kernel
theorem u_16_57 {a : Nat} {j : Int32} {lv : am_L} {st : List Value} : am_W G (am_M G d) 16 K 57 lv (.int j :: .ref a :: st) h nc ns = (f_ia G d 16 K 58 lv st h nc ns (h a) .int j) := am_u e_16_57
theorem e_16_58 : pg_code 16 58 = some (.iconst 1, 1, 0, 0) := by decide +kernel
theorem u_16_58 {lv : am_L} {st : List Value} : am_W G (am_M G d) 16 K 58 lv st h nc ns = (am_W G (am_M G d) 16 K 59 lv (.int 1 :: st) h nc ns) := am_u e_16_58
theorem e_16_59 : pg_code 16 59 = some (.iadd, 1, 0, 0) := by decide +kernel
theorem u_16_59 {a b : Int32} {lv : am_L} {st : List Value} : am_W G (am_M G d) 16 K 59 lv (.int b :: .int a :: st) h nc ns = (am_W G (am_M G d) 16 K 60 lv (.int (a + b) :: st) h nc ns) := am_u e_16_59
theorem e_16_60 : pg_code 16 60 = some (.ireturn, 1, 0, 0) := by decide +kernel
theorem u_16_60 {a : Int32} {lv : am_L} : am_W G (am_M G d) 16 K 60 lv [.int a] h nc ns = (K (.inl (some (.int a))) h) := (am_u e_16_60).trans (f_t ⟨rfl, .int, rfl, rfl⟩)
theorem e_16_61 : pg_code 16 61 = some (.iinc 3 1, 3, 0, 0) := by decide +kernel
theorem u_16_61 {a : Int32} {z0 : Option Value} {z1 : Option Value} {z2 : Option Value} {lv : am_L} {st : List Value} : am_W G (am_M G d) 16 K 61 (z0 :: z1 :: z2 :: some (.int a) :: lv) st h nc ns = (am_W G (am_M G d) 16 K 64 (am_st1 (z0 :: z1 :: z2 :: some (.int a) :: lv) 3 (.int (a + Int32.ofInt 1))) st h nc ns) := (am_u e_16_61).trans (f_t (by decide +kernel))
theorem e_16_64 : pg_code 16 64 = some (.goto (-57), 3, 7, 0) := by decide +kernel
theorem u_16_64 {lv : am_L} {st : List Value} : am_W G (am_M G d) 16 K 64 lv st h nc ns = (am_W G (am_M G d) 16 K 7 lv st h nc ns) := am_u e_16_64
theorem e_16_67 : pg_code 16 67 = some (.iconst (-1), 1, 0, 0) := by decide +kernel
theorem u_16_67 {lv : am_L} {st : List Value} : am_W G (am_M G d) 16 K 67 lv st h nc ns = (am_W G (am_M G d) 16 K 68 lv (.int (-1) :: st) h nc ns) := am_u e_16_67
theorem e_16_68 : pg_code 16 68 = some (.ireturn, 1, 0, 0) := by decide +kernel
theorem u_16_68 {a : Int32} {lv : am_L} : am_W G (am_M G d) 16 K 68 lv [.int a] h nc ns = (K (.inl (some (.int a))) h) := (am_u e_16_68).trans (f_t ⟨rfl, .int, rfl, rfl⟩)
theorem e_17_0 : pg_code 17 0 = some (.iconst 0, 1, 0, 0) := by decide +kernel
theorem u_17_0 {lv : am_L} {st : List Value} : am_W G (am_M G d) 17 K 0 lv st h nc ns = (am_W G (am_M G d) 17 K 1 lv (.int 0 :: st) h nc ns) := am_u e_17_0
theorem e_17_1 : pg_code 17 1 = some (.istore_n 2, 1, 0, 0) := by decide +kernel
theorem u_17_1 {a : Int32} {lv : am_L} {st : List Value} : am_W G (am_M G d) 17 K 1 lv (.int a :: st) h nc ns = (am_W G (am_M G d) 17 K 2 (am_st1 lv 2 (.int a)) st h nc ns) := (am_u e_17_1).trans (f_t (by decide +kernel))
theorem e_17_2 : pg_code 17 2 = some (.iload_n 2, 1, 0, 0) := by decide +kernel
theorem u_17_2 {a : Int32} {z0 : Option Value} {z1 : Option Value} {lv : am_L} {st : List Value} : am_W G (am_M G d) 17 K 2 (z0 :: z1 :: some (.int a) :: lv) st h nc ns = (am_W G (am_M G d) 17 K 3 (z0 :: z1 :: some (.int a) :: lv) (.int a :: st) h nc ns) := am_u e_17_2
theorem e_17_3 : pg_code 17 3 = some (.aload_n 0, 1, 0, 0) := by decide +kernel
theorem u_17_3 {a : Nat} {lv : am_L} {st : List Value} : am_W G (am_M G d) 17 K 3 (some (.ref a) :: lv) st h nc ns = (am_W G (am_M G d) 17 K 4 (some (.ref a) :: lv) (.ref a :: st) h nc ns) := am_u e_17_3
theorem e_17_4 : pg_code 17 4 = some (.getfield 22, 3, 6, 0) := by decide +kernel
theorem u_17_4 {a : Nat} {lv : am_L} {st : List Value} : am_W G (am_M G d) 17 K 4 lv (.ref a :: st) h nc ns = (f_gf G d 17 K 7 lv st h nc ns (h a) 6 0) := am_u e_17_4
theorem e_17_7 : pg_code 17 7 = some (.getfield 26, 3, 2, 3) := by decide +kernel
theorem u_17_7 {a : Nat} {lv : am_L} {st : List Value} : am_W G (am_M G d) 17 K 7 lv (.ref a :: st) h nc ns = (f_gf G d 17 K 10 lv st h nc ns (h a) 2 3) := am_u e_17_7
theorem e_17_10 : pg_code 17 10 = some (.if_icmp .ge 16, 3, 26, 0) := by decide +kernel
theorem u_17_10 {a b : Int32} {lv : am_L} {st : List Value} : am_W G (am_M G d) 17 K 10 lv (.int b :: .int a :: st) h nc ns = (am_br (b ≤ a) (am_W G (am_M G d) 17 K 26 lv st h nc ns) (am_W G (am_M G d) 17 K 13 lv st h nc ns)) := am_u e_17_10
theorem e_17_13 : pg_code 17 13 = some (.aload_n 0, 1, 0, 0) := by decide +kernel
theorem u_17_13 {a : Nat} {lv : am_L} {st : List Value} : am_W G (am_M G d) 17 K 13 (some (.ref a) :: lv) st h nc ns = (am_W G (am_M G d) 17 K 14 (some (.ref a) :: lv) (.ref a :: st) h nc ns) := am_u e_17_13
theorem e_17_14 : pg_code 17 14 = some (.getfield 15, 3, 6, 3) := by decide +kernel
theorem u_17_14 {a : Nat} {lv : am_L} {st : List Value} : am_W G (am_M G d) 17 K 14 lv (.ref a :: st) h nc ns = (f_gf G d 17 K 17 lv st h nc ns (h a) 6 3) := am_u e_17_14
theorem e_17_17 : pg_code 17 17 = some (.iload_n 2, 1, 0, 0) := by decide +kernel
theorem u_17_17 {a : Int32} {z0 : Option Value} {z1 : Option Value} {lv : am_L} {st : List Value} : am_W G (am_M G d) 17 K 17 (z0 :: z1 :: some (.int a) :: lv) st h nc ns = (am_W G (am_M G d) 17 K 18 (z0 :: z1 :: some (.int a) :: lv) (.int a :: st) h nc ns) := am_u e_17_17
theorem e_17_18 : pg_code 17 18 = some (.iconst (-1), 1, 0, 0) := by decide +kernel
theorem u_17_18 {lv : am_L} {st : List Value} : am_W G (am_M G d) 17 K 18 lv st h nc ns = (am_W G (am_M G d) 17 K 19 lv (.int (-1) :: st) h nc ns) := am_u e_17_18
theorem e_17_19 : pg_code 17 19 = some (.iastore, 1, 0, 0) := by decide +kernel
theorem u_17_19 {a : Nat} {j b : Int32} {lv : am_L} {st : List Value} : am_W G (am_M G d) 17 K 19 lv (.int b :: .int j :: .ref a :: st) h nc ns = (f_is G d 17 K 20 lv st h nc ns (h a) .int a j b) := am_u e_17_19
theorem e_17_20 : pg_code 17 20 = some (.iinc 2 1, 3, 0, 0) := by decide +kernel
theorem u_17_20 {a : Int32} {z0 : Option Value} {z1 : Option Value} {lv : am_L} {st : List Value} : am_W G (am_M G d) 17 K 20 (z0 :: z1 :: some (.int a) :: lv) st h nc ns = (am_W G (am_M G d) 17 K 23 (am_st1 (z0 :: z1 :: some (.int a) :: lv) 2 (.int (a + Int32.ofInt 1))) st h nc ns) := (am_u e_17_20).trans (f_t (by decide +kernel))
theorem e_17_23 : pg_code 17 23 = some (.goto (-21), 3, 2, 0) := by decide +kernel
theorem u_17_23 {lv : am_L} {st : List Value} : am_W G (am_M G d) 17 K 23 lv st h nc ns = (am_W G (am_M G d) 17 K 2 lv st h nc ns) := am_u e_17_23
theorem e_17_26 : pg_code 17 26 = some (.aload_n 0, 1, 0, 0) := by decide +kernel
theorem u_17_26 {a : Nat} {lv : am_L} {st : List Value} : am_W G (am_M G d) 17 K 26 (some (.ref a) :: lv) st h nc ns = (am_W G (am_M G d) 17 K 27 (some (.ref a) :: lv) (.ref a :: st) h nc ns) := am_u e_17_26
theorem e_17_27 : pg_code 17 27 = some (.iconst 0, 1, 0, 0) := by decide +kernel
theorem u_17_27 {lv : am_L} {st : List Value} : am_W G (am_M G d) 17 K 27 lv st h nc ns = (am_W G (am_M G d) 17 K 28 lv (.int 0 :: st) h nc ns) := am_u e_17_27
theorem e_17_28 : pg_code 17 28 = some (.putfield 32, 3, 6, 2) := by decide +kernel
theorem u_17_28 {a : Nat} {b : Int32} {lv : am_L} {st : List Value} : am_W G (am_M G d) 17 K 28 lv (.int b :: .ref a :: st) h nc ns = (f_pf G d 17 K 31 lv st h nc ns (h a) 6 2 a (.int b)) := (am_u e_17_28).trans (f_pf_eq ⟨rfl, rfl⟩)
theorem e_17_31 : pg_code 17 31 = some (.aload_n 0, 1, 0, 0) := by decide +kernel
theorem u_17_31 {a : Nat} {lv : am_L} {st : List Value} : am_W G (am_M G d) 17 K 31 (some (.ref a) :: lv) st h nc ns = (am_W G (am_M G d) 17 K 32 (some (.ref a) :: lv) (.ref a :: st) h nc ns) := am_u e_17_31
theorem e_17_32 : pg_code 17 32 = some (.iload_n 1, 1, 0, 0) := by decide +kernel
theorem u_17_32 {a : Int32} {z0 : Option Value} {lv : am_L} {st : List Value} : am_W G (am_M G d) 17 K 32 (z0 :: some (.int a) :: lv) st h nc ns = (am_W G (am_M G d) 17 K 33 (z0 :: some (.int a) :: lv) (.int a :: st) h nc ns) := am_u e_17_32
theorem e_17_33 : pg_code 17 33 = some (.iconst 0, 1, 0, 0) := by decide +kernel
theorem u_17_33 {lv : am_L} {st : List Value} : am_W G (am_M G d) 17 K 33 lv st h nc ns = (am_W G (am_M G d) 17 K 34 lv (.int 0 :: st) h nc ns) := am_u e_17_33
theorem e_17_34 : pg_code 17 34 = some (.invokevirtual 35, 3, 18, 3) := by decide +kernel
theorem u_17_34 {a : Nat} {v0 v1 : Value} {lv : am_L} {st : List Value} : am_W G (am_M G d) 17 K 34 lv (v1 :: v0 :: .ref a :: st) h nc ns = ((am_words st ≤ 8 ∧ nc + 0 ≤ 0 ∧ ns + 0 ≤ 0 ∧ f_rc (h a) 6) ∧ am_M G d 18 [.ref a, v0, v1] h (am_back 17 K (am_W G (am_M G d) 17 K) 18 34 lv st nc ns)) := (am_u e_17_34).trans (f_iv_eq (a := a) (G := G) (d := d) (k := 17) (K := K) (pc := 34) (lv := lv) (st := st) (h := h) (nc := nc) (ns := ns) (x := 18) (X := am_W G (am_M G d) 17 K) [v0, v1] (by decide) rfl)
theorem e_17_37 : pg_code 17 37 = some (.iconst 0, 1, 0, 0) := by decide +kernel
theorem u_17_37 {lv : am_L} {st : List Value} : am_W G (am_M G d) 17 K 37 lv st h nc ns = (am_W G (am_M G d) 17 K 38 lv (.int 0 :: st) h nc ns) := am_u e_17_37
theorem e_17_38 : pg_code 17 38 = some (.istore_n 2, 1, 0, 0) := by decide +kernel
theorem u_17_38 {a : Int32} {lv : am_L} {st : List Value} : am_W G (am_M G d) 17 K 38 lv (.int a :: st) h nc ns = (am_W G (am_M G d) 17 K 39 (am_st1 lv 2 (.int a)) st h nc ns) := (am_u e_17_38).trans (f_t (by decide +kernel))
theorem e_17_39 : pg_code 17 39 = some (.iload_n 2, 1, 0, 0) := by decide +kernel
theorem u_17_39 {a : Int32} {z0 : Option Value} {z1 : Option Value} {lv : am_L} {st : List Value} : am_W G (am_M G d) 17 K 39 (z0 :: z1 :: some (.int a) :: lv) st h nc ns = (am_W G (am_M G d) 17 K 40 (z0 :: z1 :: some (.int a) :: lv) (.int a :: st) h nc ns) := am_u e_17_39
theorem e_17_40 : pg_code 17 40 = some (.aload_n 0, 1, 0, 0) := by decide +kernel
theorem u_17_40 {a : Nat} {lv : am_L} {st : List Value} : am_W G (am_M G d) 17 K 40 (some (.ref a) :: lv) st h nc ns = (am_W G (am_M G d) 17 K 41 (some (.ref a) :: lv) (.ref a :: st) h nc ns) := am_u e_17_40
theorem e_17_41 : pg_code 17 41 = some (.getfield 32, 3, 6, 2) := by decide +kernel
theorem u_17_41 {a : Nat} {lv : am_L} {st : List Value} : am_W G (am_M G d) 17 K 41 lv (.ref a :: st) h nc ns = (f_gf G d 17 K 44 lv st h nc ns (h a) 6 2) := am_u e_17_41
theorem e_17_44 : pg_code 17 44 = some (.if_icmp .ge 65, 3, 109, 0) := by decide +kernel
theorem u_17_44 {a b : Int32} {lv : am_L} {st : List Value} : am_W G (am_M G d) 17 K 44 lv (.int b :: .int a :: st) h nc ns = (am_br (b ≤ a) (am_W G (am_M G d) 17 K 109 lv st h nc ns) (am_W G (am_M G d) 17 K 47 lv st h nc ns)) := am_u e_17_44
theorem e_17_47 : pg_code 17 47 = some (.iload_n 2, 1, 0, 0) := by decide +kernel
theorem u_17_47 {a : Int32} {z0 : Option Value} {z1 : Option Value} {lv : am_L} {st : List Value} : am_W G (am_M G d) 17 K 47 (z0 :: z1 :: some (.int a) :: lv) st h nc ns = (am_W G (am_M G d) 17 K 48 (z0 :: z1 :: some (.int a) :: lv) (.int a :: st) h nc ns) := am_u e_17_47
theorem e_17_48 : pg_code 17 48 = some (.sipush 150, 3, 0, 0) := by decide +kernel
theorem u_17_48 {lv : am_L} {st : List Value} : am_W G (am_M G d) 17 K 48 lv st h nc ns = (am_W G (am_M G d) 17 K 51 lv (.int 150 :: st) h nc ns) := am_u e_17_48
theorem e_17_51 : pg_code 17 51 = some (.if_icmp .ge 58, 3, 109, 0) := by decide +kernel
theorem u_17_51 {a b : Int32} {lv : am_L} {st : List Value} : am_W G (am_M G d) 17 K 51 lv (.int b :: .int a :: st) h nc ns = (am_br (b ≤ a) (am_W G (am_M G d) 17 K 109 lv st h nc ns) (am_W G (am_M G d) 17 K 54 lv st h nc ns)) := am_u e_17_51
theorem e_17_54 : pg_code 17 54 = some (.aload_n 0, 1, 0, 0) := by decide +kernel
theorem u_17_54 {a : Nat} {lv : am_L} {st : List Value} : am_W G (am_M G d) 17 K 54 (some (.ref a) :: lv) st h nc ns = (am_W G (am_M G d) 17 K 55 (some (.ref a) :: lv) (.ref a :: st) h nc ns) := am_u e_17_54
theorem e_17_55 : pg_code 17 55 = some (.getfield 9, 3, 6, 1) := by decide +kernel
theorem u_17_55 {a : Nat} {lv : am_L} {st : List Value} : am_W G (am_M G d) 17 K 55 lv (.ref a :: st) h nc ns = (f_gf G d 17 K 58 lv st h nc ns (h a) 6 1) := am_u e_17_55
theorem e_17_58 : pg_code 17 58 = some (.iload_n 2, 1, 0, 0) := by decide +kernel
theorem u_17_58 {a : Int32} {z0 : Option Value} {z1 : Option Value} {lv : am_L} {st : List Value} : am_W G (am_M G d) 17 K 58 (z0 :: z1 :: some (.int a) :: lv) st h nc ns = (am_W G (am_M G d) 17 K 59 (z0 :: z1 :: some (.int a) :: lv) (.int a :: st) h nc ns) := am_u e_17_58
theorem e_17_59 : pg_code 17 59 = some (.iaload, 1, 0, 0) := by decide +kernel
theorem u_17_59 {a : Nat} {j : Int32} {lv : am_L} {st : List Value} : am_W G (am_M G d) 17 K 59 lv (.int j :: .ref a :: st) h nc ns = (f_ia G d 17 K 60 lv st h nc ns (h a) .int j) := am_u e_17_59
theorem e_17_60 : pg_code 17 60 = some (.istore_n 3, 1, 0, 0) := by decide +kernel
theorem u_17_60 {a : Int32} {lv : am_L} {st : List Value} : am_W G (am_M G d) 17 K 60 lv (.int a :: st) h nc ns = (am_W G (am_M G d) 17 K 61 (am_st1 lv 3 (.int a)) st h nc ns) := (am_u e_17_60).trans (f_t (by decide +kernel))
theorem e_17_61 : pg_code 17 61 = some (.aload_n 0, 1, 0, 0) := by decide +kernel
theorem u_17_61 {a : Nat} {lv : am_L} {st : List Value} : am_W G (am_M G d) 17 K 61 (some (.ref a) :: lv) st h nc ns = (am_W G (am_M G d) 17 K 62 (some (.ref a) :: lv) (.ref a :: st) h nc ns) := am_u e_17_61
theorem e_17_62 : pg_code 17 62 = some (.aload_n 0, 1, 0, 0) := by decide +kernel
theorem u_17_62 {a : Nat} {lv : am_L} {st : List Value} : am_W G (am_M G d) 17 K 62 (some (.ref a) :: lv) st h nc ns = (am_W G (am_M G d) 17 K 63 (some (.ref a) :: lv) (.ref a :: st) h nc ns) := am_u e_17_62
theorem e_17_63 : pg_code 17 63 = some (.getfield 22, 3, 6, 0) := by decide +kernel
theorem u_17_63 {a : Nat} {lv : am_L} {st : List Value} : am_W G (am_M G d) 17 K 63 lv (.ref a :: st) h nc ns = (f_gf G d 17 K 66 lv st h nc ns (h a) 6 0) := am_u e_17_63
theorem e_17_66 : pg_code 17 66 = some (.getfield 39, 3, 2, 1) := by decide +kernel
theorem u_17_66 {a : Nat} {lv : am_L} {st : List Value} : am_W G (am_M G d) 17 K 66 lv (.ref a :: st) h nc ns = (f_gf G d 17 K 69 lv st h nc ns (h a) 2 1) := am_u e_17_66
theorem e_17_69 : pg_code 17 69 = some (.iload_n 3, 1, 0, 0) := by decide +kernel
theorem u_17_69 {a : Int32} {z0 : Option Value} {z1 : Option Value} {z2 : Option Value} {lv : am_L} {st : List Value} : am_W G (am_M G d) 17 K 69 (z0 :: z1 :: z2 :: some (.int a) :: lv) st h nc ns = (am_W G (am_M G d) 17 K 70 (z0 :: z1 :: z2 :: some (.int a) :: lv) (.int a :: st) h nc ns) := am_u e_17_69
theorem e_17_70 : pg_code 17 70 = some (.iaload, 1, 0, 0) := by decide +kernel
theorem u_17_70 {a : Nat} {j : Int32} {lv : am_L} {st : List Value} : am_W G (am_M G d) 17 K 70 lv (.int j :: .ref a :: st) h nc ns = (f_ia G d 17 K 71 lv st h nc ns (h a) .int j) := am_u e_17_70
theorem e_17_71 : pg_code 17 71 = some (.aload_n 0, 1, 0, 0) := by decide +kernel
theorem u_17_71 {a : Nat} {lv : am_L} {st : List Value} : am_W G (am_M G d) 17 K 71 (some (.ref a) :: lv) st h nc ns = (am_W G (am_M G d) 17 K 72 (some (.ref a) :: lv) (.ref a :: st) h nc ns) := am_u e_17_71
theorem e_17_72 : pg_code 17 72 = some (.getfield 15, 3, 6, 3) := by decide +kernel
theorem u_17_72 {a : Nat} {lv : am_L} {st : List Value} : am_W G (am_M G d) 17 K 72 lv (.ref a :: st) h nc ns = (f_gf G d 17 K 75 lv st h nc ns (h a) 6 3) := am_u e_17_72
theorem e_17_75 : pg_code 17 75 = some (.iload_n 3, 1, 0, 0) := by decide +kernel
theorem u_17_75 {a : Int32} {z0 : Option Value} {z1 : Option Value} {z2 : Option Value} {lv : am_L} {st : List Value} : am_W G (am_M G d) 17 K 75 (z0 :: z1 :: z2 :: some (.int a) :: lv) st h nc ns = (am_W G (am_M G d) 17 K 76 (z0 :: z1 :: z2 :: some (.int a) :: lv) (.int a :: st) h nc ns) := am_u e_17_75
theorem e_17_76 : pg_code 17 76 = some (.iaload, 1, 0, 0) := by decide +kernel
theorem u_17_76 {a : Nat} {j : Int32} {lv : am_L} {st : List Value} : am_W G (am_M G d) 17 K 76 lv (.int j :: .ref a :: st) h nc ns = (f_ia G d 17 K 77 lv st h nc ns (h a) .int j) := am_u e_17_76
theorem e_17_77 : pg_code 17 77 = some (.iconst 1, 1, 0, 0) := by decide +kernel
theorem u_17_77 {lv : am_L} {st : List Value} : am_W G (am_M G d) 17 K 77 lv st h nc ns = (am_W G (am_M G d) 17 K 78 lv (.int 1 :: st) h nc ns) := am_u e_17_77
theorem e_17_78 : pg_code 17 78 = some (.iadd, 1, 0, 0) := by decide +kernel
theorem u_17_78 {a b : Int32} {lv : am_L} {st : List Value} : am_W G (am_M G d) 17 K 78 lv (.int b :: .int a :: st) h nc ns = (am_W G (am_M G d) 17 K 79 lv (.int (a + b) :: st) h nc ns) := am_u e_17_78
theorem e_17_79 : pg_code 17 79 = some (.invokevirtual 35, 3, 18, 3) := by decide +kernel
theorem u_17_79 {a : Nat} {v0 v1 : Value} {lv : am_L} {st : List Value} : am_W G (am_M G d) 17 K 79 lv (v1 :: v0 :: .ref a :: st) h nc ns = ((am_words st ≤ 8 ∧ nc + 0 ≤ 0 ∧ ns + 0 ≤ 0 ∧ f_rc (h a) 6) ∧ am_M G d 18 [.ref a, v0, v1] h (am_back 17 K (am_W G (am_M G d) 17 K) 18 79 lv st nc ns)) := (am_u e_17_79).trans (f_iv_eq (a := a) (G := G) (d := d) (k := 17) (K := K) (pc := 79) (lv := lv) (st := st) (h := h) (nc := nc) (ns := ns) (x := 18) (X := am_W G (am_M G d) 17 K) [v0, v1] (by decide) rfl)
theorem e_17_82 : pg_code 17 82 = some (.aload_n 0, 1, 0, 0) := by decide +kernel
theorem u_17_82 {a : Nat} {lv : am_L} {st : List Value} : am_W G (am_M G d) 17 K 82 (some (.ref a) :: lv) st h nc ns = (am_W G (am_M G d) 17 K 83 (some (.ref a) :: lv) (.ref a :: st) h nc ns) := am_u e_17_82
theorem e_17_83 : pg_code 17 83 = some (.aload_n 0, 1, 0, 0) := by decide +kernel
theorem u_17_83 {a : Nat} {lv : am_L} {st : List Value} : am_W G (am_M G d) 17 K 83 (some (.ref a) :: lv) st h nc ns = (am_W G (am_M G d) 17 K 84 (some (.ref a) :: lv) (.ref a :: st) h nc ns) := am_u e_17_83
theorem e_17_84 : pg_code 17 84 = some (.getfield 22, 3, 6, 0) := by decide +kernel
theorem u_17_84 {a : Nat} {lv : am_L} {st : List Value} : am_W G (am_M G d) 17 K 84 lv (.ref a :: st) h nc ns = (f_gf G d 17 K 87 lv st h nc ns (h a) 6 0) := am_u e_17_84
theorem e_17_87 : pg_code 17 87 = some (.getfield 42, 3, 2, 2) := by decide +kernel
theorem u_17_87 {a : Nat} {lv : am_L} {st : List Value} : am_W G (am_M G d) 17 K 87 lv (.ref a :: st) h nc ns = (f_gf G d 17 K 90 lv st h nc ns (h a) 2 2) := am_u e_17_87
theorem e_17_90 : pg_code 17 90 = some (.iload_n 3, 1, 0, 0) := by decide +kernel
theorem u_17_90 {a : Int32} {z0 : Option Value} {z1 : Option Value} {z2 : Option Value} {lv : am_L} {st : List Value} : am_W G (am_M G d) 17 K 90 (z0 :: z1 :: z2 :: some (.int a) :: lv) st h nc ns = (am_W G (am_M G d) 17 K 91 (z0 :: z1 :: z2 :: some (.int a) :: lv) (.int a :: st) h nc ns) := am_u e_17_90
theorem e_17_91 : pg_code 17 91 = some (.iaload, 1, 0, 0) := by decide +kernel
theorem u_17_91 {a : Nat} {j : Int32} {lv : am_L} {st : List Value} : am_W G (am_M G d) 17 K 91 lv (.int j :: .ref a :: st) h nc ns = (f_ia G d 17 K 92 lv st h nc ns (h a) .int j) := am_u e_17_91
theorem e_17_92 : pg_code 17 92 = some (.aload_n 0, 1, 0, 0) := by decide +kernel
theorem u_17_92 {a : Nat} {lv : am_L} {st : List Value} : am_W G (am_M G d) 17 K 92 (some (.ref a) :: lv) st h nc ns = (am_W G (am_M G d) 17 K 93 (some (.ref a) :: lv) (.ref a :: st) h nc ns) := am_u e_17_92
theorem e_17_93 : pg_code 17 93 = some (.getfield 15, 3, 6, 3) := by decide +kernel
theorem u_17_93 {a : Nat} {lv : am_L} {st : List Value} : am_W G (am_M G d) 17 K 93 lv (.ref a :: st) h nc ns = (f_gf G d 17 K 96 lv st h nc ns (h a) 6 3) := am_u e_17_93
theorem e_17_96 : pg_code 17 96 = some (.iload_n 3, 1, 0, 0) := by decide +kernel
theorem u_17_96 {a : Int32} {z0 : Option Value} {z1 : Option Value} {z2 : Option Value} {lv : am_L} {st : List Value} : am_W G (am_M G d) 17 K 96 (z0 :: z1 :: z2 :: some (.int a) :: lv) st h nc ns = (am_W G (am_M G d) 17 K 97 (z0 :: z1 :: z2 :: some (.int a) :: lv) (.int a :: st) h nc ns) := am_u e_17_96
theorem e_17_97 : pg_code 17 97 = some (.iaload, 1, 0, 0) := by decide +kernel
theorem u_17_97 {a : Nat} {j : Int32} {lv : am_L} {st : List Value} : am_W G (am_M G d) 17 K 97 lv (.int j :: .ref a :: st) h nc ns = (f_ia G d 17 K 98 lv st h nc ns (h a) .int j) := am_u e_17_97
theorem e_17_98 : pg_code 17 98 = some (.iconst 1, 1, 0, 0) := by decide +kernel
theorem u_17_98 {lv : am_L} {st : List Value} : am_W G (am_M G d) 17 K 98 lv st h nc ns = (am_W G (am_M G d) 17 K 99 lv (.int 1 :: st) h nc ns) := am_u e_17_98
theorem e_17_99 : pg_code 17 99 = some (.iadd, 1, 0, 0) := by decide +kernel
theorem u_17_99 {a b : Int32} {lv : am_L} {st : List Value} : am_W G (am_M G d) 17 K 99 lv (.int b :: .int a :: st) h nc ns = (am_W G (am_M G d) 17 K 100 lv (.int (a + b) :: st) h nc ns) := am_u e_17_99
theorem e_17_100 : pg_code 17 100 = some (.invokevirtual 35, 3, 18, 3) := by decide +kernel
theorem u_17_100 {a : Nat} {v0 v1 : Value} {lv : am_L} {st : List Value} : am_W G (am_M G d) 17 K 100 lv (v1 :: v0 :: .ref a :: st) h nc ns = ((am_words st ≤ 8 ∧ nc + 0 ≤ 0 ∧ ns + 0 ≤ 0 ∧ f_rc (h a) 6) ∧ am_M G d 18 [.ref a, v0, v1] h (am_back 17 K (am_W G (am_M G d) 17 K) 18 100 lv st nc ns)) := (am_u e_17_100).trans (f_iv_eq (a := a) (G := G) (d := d) (k := 17) (K := K) (pc := 100) (lv := lv) (st := st) (h := h) (nc := nc) (ns := ns) (x := 18) (X := am_W G (am_M G d) 17 K) [v0, v1] (by decide) rfl)
theorem e_17_103 : pg_code 17 103 = some (.iinc 2 1, 3, 0, 0) := by decide +kernel
theorem u_17_103 {a : Int32} {z0 : Option Value} {z1 : Option Value} {lv : am_L} {st : List Value} : am_W G (am_M G d) 17 K 103 (z0 :: z1 :: some (.int a) :: lv) st h nc ns = (am_W G (am_M G d) 17 K 106 (am_st1 (z0 :: z1 :: some (.int a) :: lv) 2 (.int (a + Int32.ofInt 1))) st h nc ns) := (am_u e_17_103).trans (f_t (by decide +kernel))
theorem e_17_106 : pg_code 17 106 = some (.goto (-67), 3, 39, 0) := by decide +kernel
theorem u_17_106 {lv : am_L} {st : List Value} : am_W G (am_M G d) 17 K 106 lv st h nc ns = (am_W G (am_M G d) 17 K 39 lv st h nc ns) := am_u e_17_106
theorem e_17_109 : pg_code 17 109 = some (.return_, 1, 0, 0) := by decide +kernel
theorem u_17_109 {lv : am_L} : am_W G (am_M G d) 17 K 109 lv [] h nc ns = (K (.inl none) h) := (am_u e_17_109).trans (f_t ⟨rfl, rfl⟩)
theorem e_18_0 : pg_code 18 0 = some (.iload_n 1, 1, 0, 0) := by decide +kernel
theorem u_18_0 {a : Int32} {z0 : Option Value} {lv : am_L} {st : List Value} : am_W G (am_M G d) 18 K 0 (z0 :: some (.int a) :: lv) st h nc ns = (am_W G (am_M G d) 18 K 1 (z0 :: some (.int a) :: lv) (.int a :: st) h nc ns) := am_u e_18_0
theorem e_18_1 : pg_code 18 1 = some (.ifCond .lt 40, 3, 41, 0) := by decide +kernel
theorem u_18_1 {a : Int32} {lv : am_L} {st : List Value} : am_W G (am_M G d) 18 K 1 lv (.int a :: st) h nc ns = (am_br (a < 0) (am_W G (am_M G d) 18 K 41 lv st h nc ns) (am_W G (am_M G d) 18 K 4 lv st h nc ns)) := am_u e_18_1
theorem e_18_4 : pg_code 18 4 = some (.aload_n 0, 1, 0, 0) := by decide +kernel
theorem u_18_4 {a : Nat} {lv : am_L} {st : List Value} : am_W G (am_M G d) 18 K 4 (some (.ref a) :: lv) st h nc ns = (am_W G (am_M G d) 18 K 5 (some (.ref a) :: lv) (.ref a :: st) h nc ns) := am_u e_18_4
theorem e_18_5 : pg_code 18 5 = some (.getfield 15, 3, 6, 3) := by decide +kernel
theorem u_18_5 {a : Nat} {lv : am_L} {st : List Value} : am_W G (am_M G d) 18 K 5 lv (.ref a :: st) h nc ns = (f_gf G d 18 K 8 lv st h nc ns (h a) 6 3) := am_u e_18_5
theorem e_18_8 : pg_code 18 8 = some (.iload_n 1, 1, 0, 0) := by decide +kernel
theorem u_18_8 {a : Int32} {z0 : Option Value} {lv : am_L} {st : List Value} : am_W G (am_M G d) 18 K 8 (z0 :: some (.int a) :: lv) st h nc ns = (am_W G (am_M G d) 18 K 9 (z0 :: some (.int a) :: lv) (.int a :: st) h nc ns) := am_u e_18_8
theorem e_18_9 : pg_code 18 9 = some (.iaload, 1, 0, 0) := by decide +kernel
theorem u_18_9 {a : Nat} {j : Int32} {lv : am_L} {st : List Value} : am_W G (am_M G d) 18 K 9 lv (.int j :: .ref a :: st) h nc ns = (f_ia G d 18 K 10 lv st h nc ns (h a) .int j) := am_u e_18_9
theorem e_18_10 : pg_code 18 10 = some (.iconst (-1), 1, 0, 0) := by decide +kernel
theorem u_18_10 {lv : am_L} {st : List Value} : am_W G (am_M G d) 18 K 10 lv st h nc ns = (am_W G (am_M G d) 18 K 11 lv (.int (-1) :: st) h nc ns) := am_u e_18_10
theorem e_18_11 : pg_code 18 11 = some (.if_icmp .ne 30, 3, 41, 0) := by decide +kernel
theorem u_18_11 {a b : Int32} {lv : am_L} {st : List Value} : am_W G (am_M G d) 18 K 11 lv (.int b :: .int a :: st) h nc ns = (am_br (¬ a = b) (am_W G (am_M G d) 18 K 41 lv st h nc ns) (am_W G (am_M G d) 18 K 14 lv st h nc ns)) := am_u e_18_11
theorem e_18_14 : pg_code 18 14 = some (.aload_n 0, 1, 0, 0) := by decide +kernel
theorem u_18_14 {a : Nat} {lv : am_L} {st : List Value} : am_W G (am_M G d) 18 K 14 (some (.ref a) :: lv) st h nc ns = (am_W G (am_M G d) 18 K 15 (some (.ref a) :: lv) (.ref a :: st) h nc ns) := am_u e_18_14
theorem e_18_15 : pg_code 18 15 = some (.getfield 15, 3, 6, 3) := by decide +kernel
theorem u_18_15 {a : Nat} {lv : am_L} {st : List Value} : am_W G (am_M G d) 18 K 15 lv (.ref a :: st) h nc ns = (f_gf G d 18 K 18 lv st h nc ns (h a) 6 3) := am_u e_18_15
theorem e_18_18 : pg_code 18 18 = some (.iload_n 1, 1, 0, 0) := by decide +kernel
theorem u_18_18 {a : Int32} {z0 : Option Value} {lv : am_L} {st : List Value} : am_W G (am_M G d) 18 K 18 (z0 :: some (.int a) :: lv) st h nc ns = (am_W G (am_M G d) 18 K 19 (z0 :: some (.int a) :: lv) (.int a :: st) h nc ns) := am_u e_18_18
theorem e_18_19 : pg_code 18 19 = some (.iload_n 2, 1, 0, 0) := by decide +kernel
theorem u_18_19 {a : Int32} {z0 : Option Value} {z1 : Option Value} {lv : am_L} {st : List Value} : am_W G (am_M G d) 18 K 19 (z0 :: z1 :: some (.int a) :: lv) st h nc ns = (am_W G (am_M G d) 18 K 20 (z0 :: z1 :: some (.int a) :: lv) (.int a :: st) h nc ns) := am_u e_18_19
theorem e_18_20 : pg_code 18 20 = some (.iastore, 1, 0, 0) := by decide +kernel
theorem u_18_20 {a : Nat} {j b : Int32} {lv : am_L} {st : List Value} : am_W G (am_M G d) 18 K 20 lv (.int b :: .int j :: .ref a :: st) h nc ns = (f_is G d 18 K 21 lv st h nc ns (h a) .int a j b) := am_u e_18_20
theorem e_18_21 : pg_code 18 21 = some (.aload_n 0, 1, 0, 0) := by decide +kernel
theorem u_18_21 {a : Nat} {lv : am_L} {st : List Value} : am_W G (am_M G d) 18 K 21 (some (.ref a) :: lv) st h nc ns = (am_W G (am_M G d) 18 K 22 (some (.ref a) :: lv) (.ref a :: st) h nc ns) := am_u e_18_21
theorem e_18_22 : pg_code 18 22 = some (.getfield 9, 3, 6, 1) := by decide +kernel
theorem u_18_22 {a : Nat} {lv : am_L} {st : List Value} : am_W G (am_M G d) 18 K 22 lv (.ref a :: st) h nc ns = (f_gf G d 18 K 25 lv st h nc ns (h a) 6 1) := am_u e_18_22
theorem e_18_25 : pg_code 18 25 = some (.aload_n 0, 1, 0, 0) := by decide +kernel
theorem u_18_25 {a : Nat} {lv : am_L} {st : List Value} : am_W G (am_M G d) 18 K 25 (some (.ref a) :: lv) st h nc ns = (am_W G (am_M G d) 18 K 26 (some (.ref a) :: lv) (.ref a :: st) h nc ns) := am_u e_18_25
theorem e_18_26 : pg_code 18 26 = some (.getfield 32, 3, 6, 2) := by decide +kernel
theorem u_18_26 {a : Nat} {lv : am_L} {st : List Value} : am_W G (am_M G d) 18 K 26 lv (.ref a :: st) h nc ns = (f_gf G d 18 K 29 lv st h nc ns (h a) 6 2) := am_u e_18_26
theorem e_18_29 : pg_code 18 29 = some (.iload_n 1, 1, 0, 0) := by decide +kernel
theorem u_18_29 {a : Int32} {z0 : Option Value} {lv : am_L} {st : List Value} : am_W G (am_M G d) 18 K 29 (z0 :: some (.int a) :: lv) st h nc ns = (am_W G (am_M G d) 18 K 30 (z0 :: some (.int a) :: lv) (.int a :: st) h nc ns) := am_u e_18_29
theorem e_18_30 : pg_code 18 30 = some (.iastore, 1, 0, 0) := by decide +kernel
theorem u_18_30 {a : Nat} {j b : Int32} {lv : am_L} {st : List Value} : am_W G (am_M G d) 18 K 30 lv (.int b :: .int j :: .ref a :: st) h nc ns = (f_is G d 18 K 31 lv st h nc ns (h a) .int a j b) := am_u e_18_30
theorem e_18_31 : pg_code 18 31 = some (.aload_n 0, 1, 0, 0) := by decide +kernel
theorem u_18_31 {a : Nat} {lv : am_L} {st : List Value} : am_W G (am_M G d) 18 K 31 (some (.ref a) :: lv) st h nc ns = (am_W G (am_M G d) 18 K 32 (some (.ref a) :: lv) (.ref a :: st) h nc ns) := am_u e_18_31
theorem e_18_32 : pg_code 18 32 = some (.dup, 1, 0, 0) := by decide +kernel
theorem u_18_32 {a : Nat} {lv : am_L} {st : List Value} : am_W G (am_M G d) 18 K 32 lv (.ref a :: st) h nc ns = (am_W G (am_M G d) 18 K 33 lv (.ref a :: .ref a :: st) h nc ns) := (am_u e_18_32).trans (f_t rfl)
theorem e_18_33 : pg_code 18 33 = some (.getfield 32, 3, 6, 2) := by decide +kernel
theorem u_18_33 {a : Nat} {lv : am_L} {st : List Value} : am_W G (am_M G d) 18 K 33 lv (.ref a :: st) h nc ns = (f_gf G d 18 K 36 lv st h nc ns (h a) 6 2) := am_u e_18_33
theorem e_18_36 : pg_code 18 36 = some (.iconst 1, 1, 0, 0) := by decide +kernel
theorem u_18_36 {lv : am_L} {st : List Value} : am_W G (am_M G d) 18 K 36 lv st h nc ns = (am_W G (am_M G d) 18 K 37 lv (.int 1 :: st) h nc ns) := am_u e_18_36
theorem e_18_37 : pg_code 18 37 = some (.iadd, 1, 0, 0) := by decide +kernel
theorem u_18_37 {a b : Int32} {lv : am_L} {st : List Value} : am_W G (am_M G d) 18 K 37 lv (.int b :: .int a :: st) h nc ns = (am_W G (am_M G d) 18 K 38 lv (.int (a + b) :: st) h nc ns) := am_u e_18_37
theorem e_18_38 : pg_code 18 38 = some (.putfield 32, 3, 6, 2) := by decide +kernel
theorem u_18_38 {a : Nat} {b : Int32} {lv : am_L} {st : List Value} : am_W G (am_M G d) 18 K 38 lv (.int b :: .ref a :: st) h nc ns = (f_pf G d 18 K 41 lv st h nc ns (h a) 6 2 a (.int b)) := (am_u e_18_38).trans (f_pf_eq ⟨rfl, rfl⟩)
theorem e_18_41 : pg_code 18 41 = some (.return_, 1, 0, 0) := by decide +kernel
theorem u_18_41 {lv : am_L} : am_W G (am_M G d) 18 K 41 lv [] h nc ns = (K (.inl none) h) := (am_u e_18_41).trans (f_t ⟨rfl, rfl⟩)
theorem e_19_0 : pg_code 19 0 = some (.aload_n 0, 1, 0, 0) := by decide +kernel
theorem u_19_0 {a : Nat} {lv : am_L} {st : List Value} : am_W G (am_M G d) 19 K 0 (some (.ref a) :: lv) st h nc ns = (am_W G (am_M G d) 19 K 1 (some (.ref a) :: lv) (.ref a :: st) h nc ns) := am_u e_19_0
theorem e_19_1 : pg_code 19 1 = some (.getfield 25, 3, 4, 0) := by decide +kernel
theorem u_19_1 {a : Nat} {lv : am_L} {st : List Value} : am_W G (am_M G d) 19 K 1 lv (.ref a :: st) h nc ns = (f_gf G d 19 K 4 lv st h nc ns (h a) 4 0) := am_u e_19_1
theorem e_19_4 : pg_code 19 4 = some (.getfield 70, 3, 2, 1) := by decide +kernel
theorem u_19_4 {a : Nat} {lv : am_L} {st : List Value} : am_W G (am_M G d) 19 K 4 lv (.ref a :: st) h nc ns = (f_gf G d 19 K 7 lv st h nc ns (h a) 2 1) := am_u e_19_4
theorem e_19_7 : pg_code 19 7 = some (.iload_n 1, 1, 0, 0) := by decide +kernel
theorem u_19_7 {a : Int32} {z0 : Option Value} {lv : am_L} {st : List Value} : am_W G (am_M G d) 19 K 7 (z0 :: some (.int a) :: lv) st h nc ns = (am_W G (am_M G d) 19 K 8 (z0 :: some (.int a) :: lv) (.int a :: st) h nc ns) := am_u e_19_7
theorem e_19_8 : pg_code 19 8 = some (.iaload, 1, 0, 0) := by decide +kernel
theorem u_19_8 {a : Nat} {j : Int32} {lv : am_L} {st : List Value} : am_W G (am_M G d) 19 K 8 lv (.int j :: .ref a :: st) h nc ns = (f_ia G d 19 K 9 lv st h nc ns (h a) .int j) := am_u e_19_8
theorem e_19_9 : pg_code 19 9 = some (.aload_n 0, 1, 0, 0) := by decide +kernel
theorem u_19_9 {a : Nat} {lv : am_L} {st : List Value} : am_W G (am_M G d) 19 K 9 (some (.ref a) :: lv) st h nc ns = (am_W G (am_M G d) 19 K 10 (some (.ref a) :: lv) (.ref a :: st) h nc ns) := am_u e_19_9
theorem e_19_10 : pg_code 19 10 = some (.getfield 25, 3, 4, 0) := by decide +kernel
theorem u_19_10 {a : Nat} {lv : am_L} {st : List Value} : am_W G (am_M G d) 19 K 10 lv (.ref a :: st) h nc ns = (f_gf G d 19 K 13 lv st h nc ns (h a) 4 0) := am_u e_19_10
theorem e_19_13 : pg_code 19 13 = some (.getfield 77, 3, 2, 2) := by decide +kernel
theorem u_19_13 {a : Nat} {lv : am_L} {st : List Value} : am_W G (am_M G d) 19 K 13 lv (.ref a :: st) h nc ns = (f_gf G d 19 K 16 lv st h nc ns (h a) 2 2) := am_u e_19_13
theorem e_19_16 : pg_code 19 16 = some (.iload_n 1, 1, 0, 0) := by decide +kernel
theorem u_19_16 {a : Int32} {z0 : Option Value} {lv : am_L} {st : List Value} : am_W G (am_M G d) 19 K 16 (z0 :: some (.int a) :: lv) st h nc ns = (am_W G (am_M G d) 19 K 17 (z0 :: some (.int a) :: lv) (.int a :: st) h nc ns) := am_u e_19_16
theorem e_19_17 : pg_code 19 17 = some (.iaload, 1, 0, 0) := by decide +kernel
theorem u_19_17 {a : Nat} {j : Int32} {lv : am_L} {st : List Value} : am_W G (am_M G d) 19 K 17 lv (.int j :: .ref a :: st) h nc ns = (f_ia G d 19 K 18 lv st h nc ns (h a) .int j) := am_u e_19_17
theorem e_19_18 : pg_code 19 18 = some (.invokestatic 87, 3, 903, 2) := by decide +kernel
theorem u_19_18 {a b : Int32} {lv : am_L} {st : List Value} : am_W G (am_M G d) 19 K 18 lv (.int b :: .int a :: st) h nc ns = (am_words st ≤ 8 ∧ am_W G (am_M G d) 19 K 21 lv (.int (if b < a then b else a) :: st) h nc ns) := am_u e_19_18
theorem e_19_21 : pg_code 19 21 = some (.istore_n 3, 1, 0, 0) := by decide +kernel
theorem u_19_21 {a : Int32} {lv : am_L} {st : List Value} : am_W G (am_M G d) 19 K 21 lv (.int a :: st) h nc ns = (am_W G (am_M G d) 19 K 22 (am_st1 lv 3 (.int a)) st h nc ns) := (am_u e_19_21).trans (f_t (by decide +kernel))
theorem e_19_22 : pg_code 19 22 = some (.aload_n 0, 1, 0, 0) := by decide +kernel
theorem u_19_22 {a : Nat} {lv : am_L} {st : List Value} : am_W G (am_M G d) 19 K 22 (some (.ref a) :: lv) st h nc ns = (am_W G (am_M G d) 19 K 23 (some (.ref a) :: lv) (.ref a :: st) h nc ns) := am_u e_19_22
theorem e_19_23 : pg_code 19 23 = some (.getfield 25, 3, 4, 0) := by decide +kernel
theorem u_19_23 {a : Nat} {lv : am_L} {st : List Value} : am_W G (am_M G d) 19 K 23 lv (.ref a :: st) h nc ns = (f_gf G d 19 K 26 lv st h nc ns (h a) 4 0) := am_u e_19_23
theorem e_19_26 : pg_code 19 26 = some (.getfield 70, 3, 2, 1) := by decide +kernel
theorem u_19_26 {a : Nat} {lv : am_L} {st : List Value} : am_W G (am_M G d) 19 K 26 lv (.ref a :: st) h nc ns = (f_gf G d 19 K 29 lv st h nc ns (h a) 2 1) := am_u e_19_26
theorem e_19_29 : pg_code 19 29 = some (.iload_n 1, 1, 0, 0) := by decide +kernel
theorem u_19_29 {a : Int32} {z0 : Option Value} {lv : am_L} {st : List Value} : am_W G (am_M G d) 19 K 29 (z0 :: some (.int a) :: lv) st h nc ns = (am_W G (am_M G d) 19 K 30 (z0 :: some (.int a) :: lv) (.int a :: st) h nc ns) := am_u e_19_29
theorem e_19_30 : pg_code 19 30 = some (.iaload, 1, 0, 0) := by decide +kernel
theorem u_19_30 {a : Nat} {j : Int32} {lv : am_L} {st : List Value} : am_W G (am_M G d) 19 K 30 lv (.int j :: .ref a :: st) h nc ns = (f_ia G d 19 K 31 lv st h nc ns (h a) .int j) := am_u e_19_30
theorem e_19_31 : pg_code 19 31 = some (.aload_n 0, 1, 0, 0) := by decide +kernel
theorem u_19_31 {a : Nat} {lv : am_L} {st : List Value} : am_W G (am_M G d) 19 K 31 (some (.ref a) :: lv) st h nc ns = (am_W G (am_M G d) 19 K 32 (some (.ref a) :: lv) (.ref a :: st) h nc ns) := am_u e_19_31
theorem e_19_32 : pg_code 19 32 = some (.getfield 25, 3, 4, 0) := by decide +kernel
theorem u_19_32 {a : Nat} {lv : am_L} {st : List Value} : am_W G (am_M G d) 19 K 32 lv (.ref a :: st) h nc ns = (f_gf G d 19 K 35 lv st h nc ns (h a) 4 0) := am_u e_19_32
theorem e_19_35 : pg_code 19 35 = some (.getfield 77, 3, 2, 2) := by decide +kernel
theorem u_19_35 {a : Nat} {lv : am_L} {st : List Value} : am_W G (am_M G d) 19 K 35 lv (.ref a :: st) h nc ns = (f_gf G d 19 K 38 lv st h nc ns (h a) 2 2) := am_u e_19_35
theorem e_19_38 : pg_code 19 38 = some (.iload_n 1, 1, 0, 0) := by decide +kernel
theorem u_19_38 {a : Int32} {z0 : Option Value} {lv : am_L} {st : List Value} : am_W G (am_M G d) 19 K 38 (z0 :: some (.int a) :: lv) st h nc ns = (am_W G (am_M G d) 19 K 39 (z0 :: some (.int a) :: lv) (.int a :: st) h nc ns) := am_u e_19_38
theorem e_19_39 : pg_code 19 39 = some (.iaload, 1, 0, 0) := by decide +kernel
theorem u_19_39 {a : Nat} {j : Int32} {lv : am_L} {st : List Value} : am_W G (am_M G d) 19 K 39 lv (.int j :: .ref a :: st) h nc ns = (f_ia G d 19 K 40 lv st h nc ns (h a) .int j) := am_u e_19_39
theorem e_19_40 : pg_code 19 40 = some (.invokestatic 92, 3, 902, 2) := by decide +kernel
theorem u_19_40 {a b : Int32} {lv : am_L} {st : List Value} : am_W G (am_M G d) 19 K 40 lv (.int b :: .int a :: st) h nc ns = (am_words st ≤ 8 ∧ am_W G (am_M G d) 19 K 43 lv (.int (if a < b then b else a) :: st) h nc ns) := am_u e_19_40
theorem e_19_43 : pg_code 19 43 = some (.istore 4, 2, 0, 0) := by decide +kernel
theorem u_19_43 {a : Int32} {lv : am_L} {st : List Value} : am_W G (am_M G d) 19 K 43 lv (.int a :: st) h nc ns = (am_W G (am_M G d) 19 K 45 (am_st1 lv 4 (.int a)) st h nc ns) := (am_u e_19_43).trans (f_t (by decide +kernel))
theorem e_19_45 : pg_code 19 45 = some (.iload_n 3, 1, 0, 0) := by decide +kernel
theorem u_19_45 {a : Int32} {z0 : Option Value} {z1 : Option Value} {z2 : Option Value} {lv : am_L} {st : List Value} : am_W G (am_M G d) 19 K 45 (z0 :: z1 :: z2 :: some (.int a) :: lv) st h nc ns = (am_W G (am_M G d) 19 K 46 (z0 :: z1 :: z2 :: some (.int a) :: lv) (.int a :: st) h nc ns) := am_u e_19_45
theorem e_19_46 : pg_code 19 46 = some (.ifCond .lt 25, 3, 71, 0) := by decide +kernel
theorem u_19_46 {a : Int32} {lv : am_L} {st : List Value} : am_W G (am_M G d) 19 K 46 lv (.int a :: st) h nc ns = (am_br (a < 0) (am_W G (am_M G d) 19 K 71 lv st h nc ns) (am_W G (am_M G d) 19 K 49 lv st h nc ns)) := am_u e_19_46
theorem e_19_49 : pg_code 19 49 = some (.aload_n 0, 1, 0, 0) := by decide +kernel
theorem u_19_49 {a : Nat} {lv : am_L} {st : List Value} : am_W G (am_M G d) 19 K 49 (some (.ref a) :: lv) st h nc ns = (am_W G (am_M G d) 19 K 50 (some (.ref a) :: lv) (.ref a :: st) h nc ns) := am_u e_19_49
theorem e_19_50 : pg_code 19 50 = some (.getfield 34, 3, 4, 1) := by decide +kernel
theorem u_19_50 {a : Nat} {lv : am_L} {st : List Value} : am_W G (am_M G d) 19 K 50 lv (.ref a :: st) h nc ns = (f_gf G d 19 K 53 lv st h nc ns (h a) 4 1) := am_u e_19_50
theorem e_19_53 : pg_code 19 53 = some (.iload_n 3, 1, 0, 0) := by decide +kernel
theorem u_19_53 {a : Int32} {z0 : Option Value} {z1 : Option Value} {z2 : Option Value} {lv : am_L} {st : List Value} : am_W G (am_M G d) 19 K 53 (z0 :: z1 :: z2 :: some (.int a) :: lv) st h nc ns = (am_W G (am_M G d) 19 K 54 (z0 :: z1 :: z2 :: some (.int a) :: lv) (.int a :: st) h nc ns) := am_u e_19_53
theorem e_19_54 : pg_code 19 54 = some (.aload_n 0, 1, 0, 0) := by decide +kernel
theorem u_19_54 {a : Nat} {lv : am_L} {st : List Value} : am_W G (am_M G d) 19 K 54 (some (.ref a) :: lv) st h nc ns = (am_W G (am_M G d) 19 K 55 (some (.ref a) :: lv) (.ref a :: st) h nc ns) := am_u e_19_54
theorem e_19_55 : pg_code 19 55 = some (.getfield 22, 3, 4, 6) := by decide +kernel
theorem u_19_55 {a : Nat} {lv : am_L} {st : List Value} : am_W G (am_M G d) 19 K 55 lv (.ref a :: st) h nc ns = (f_gf G d 19 K 58 lv st h nc ns (h a) 4 6) := am_u e_19_55
theorem e_19_58 : pg_code 19 58 = some (.iconst 0, 1, 0, 0) := by decide +kernel
theorem u_19_58 {lv : am_L} {st : List Value} : am_W G (am_M G d) 19 K 58 lv st h nc ns = (am_W G (am_M G d) 19 K 59 lv (.int 0 :: st) h nc ns) := am_u e_19_58
theorem e_19_59 : pg_code 19 59 = some (.iaload, 1, 0, 0) := by decide +kernel
theorem u_19_59 {a : Nat} {j : Int32} {lv : am_L} {st : List Value} : am_W G (am_M G d) 19 K 59 lv (.int j :: .ref a :: st) h nc ns = (f_ia G d 19 K 60 lv st h nc ns (h a) .int j) := am_u e_19_59
theorem e_19_60 : pg_code 19 60 = some (.invokevirtual 80, 3, 16, 3) := by decide +kernel
theorem u_19_60 {a : Nat} {v0 v1 : Value} {lv : am_L} {st : List Value} : am_W G (am_M G d) 19 K 60 lv (v1 :: v0 :: .ref a :: st) h nc ns = ((am_words st ≤ 8 ∧ nc + 0 ≤ 0 ∧ ns + 0 ≤ 0 ∧ f_rc (h a) 6) ∧ am_M G d 16 [.ref a, v0, v1] h (am_back 19 K (am_W G (am_M G d) 19 K) 16 60 lv st nc ns)) := (am_u e_19_60).trans (f_iv_eq (a := a) (G := G) (d := d) (k := 19) (K := K) (pc := 60) (lv := lv) (st := st) (h := h) (nc := nc) (ns := ns) (x := 16) (X := am_W G (am_M G d) 19 K) [v0, v1] (by decide) rfl)
theorem e_19_63 : pg_code 19 63 = some (.iload_n 2, 1, 0, 0) := by decide +kernel
theorem u_19_63 {a : Int32} {z0 : Option Value} {z1 : Option Value} {lv : am_L} {st : List Value} : am_W G (am_M G d) 19 K 63 (z0 :: z1 :: some (.int a) :: lv) st h nc ns = (am_W G (am_M G d) 19 K 64 (z0 :: z1 :: some (.int a) :: lv) (.int a :: st) h nc ns) := am_u e_19_63
theorem e_19_64 : pg_code 19 64 = some (.if_icmp .ne 7, 3, 71, 0) := by decide +kernel
theorem u_19_64 {a b : Int32} {lv : am_L} {st : List Value} : am_W G (am_M G d) 19 K 64 lv (.int b :: .int a :: st) h nc ns = (am_br (¬ a = b) (am_W G (am_M G d) 19 K 71 lv st h nc ns) (am_W G (am_M G d) 19 K 67 lv st h nc ns)) := am_u e_19_64
theorem e_19_67 : pg_code 19 67 = some (.iload_n 3, 1, 0, 0) := by decide +kernel
theorem u_19_67 {a : Int32} {z0 : Option Value} {z1 : Option Value} {z2 : Option Value} {lv : am_L} {st : List Value} : am_W G (am_M G d) 19 K 67 (z0 :: z1 :: z2 :: some (.int a) :: lv) st h nc ns = (am_W G (am_M G d) 19 K 68 (z0 :: z1 :: z2 :: some (.int a) :: lv) (.int a :: st) h nc ns) := am_u e_19_67
theorem e_19_68 : pg_code 19 68 = some (.goto 5, 3, 73, 0) := by decide +kernel
theorem u_19_68 {lv : am_L} {st : List Value} : am_W G (am_M G d) 19 K 68 lv st h nc ns = (am_W G (am_M G d) 19 K 73 lv st h nc ns) := am_u e_19_68
theorem e_19_71 : pg_code 19 71 = some (.iload 4, 2, 0, 0) := by decide +kernel
theorem u_19_71 {a : Int32} {z0 : Option Value} {z1 : Option Value} {z2 : Option Value} {z3 : Option Value} {lv : am_L} {st : List Value} : am_W G (am_M G d) 19 K 71 (z0 :: z1 :: z2 :: z3 :: some (.int a) :: lv) st h nc ns = (am_W G (am_M G d) 19 K 73 (z0 :: z1 :: z2 :: z3 :: some (.int a) :: lv) (.int a :: st) h nc ns) := am_u e_19_71
theorem e_19_73 : pg_code 19 73 = some (.ireturn, 1, 0, 0) := by decide +kernel
theorem u_19_73 {a : Int32} {lv : am_L} : am_W G (am_M G d) 19 K 73 lv [.int a] h nc ns = (K (.inl (some (.int a))) h) := (am_u e_19_73).trans (f_t ⟨rfl, .int, rfl, rfl⟩)
theorem e_20_0 : pg_code 20 0 = some (.iconst 0, 1, 0, 0) := by decide +kernel
theorem u_20_0 {lv : am_L} {st : List Value} : am_W G (am_M G d) 20 K 0 lv st h nc ns = (am_W G (am_M G d) 20 K 1 lv (.int 0 :: st) h nc ns) := am_u e_20_0
theorem e_20_1 : pg_code 20 1 = some (.istore_n 2, 1, 0, 0) := by decide +kernel
theorem u_20_1 {a : Int32} {lv : am_L} {st : List Value} : am_W G (am_M G d) 20 K 1 lv (.int a :: st) h nc ns = (am_W G (am_M G d) 20 K 2 (am_st1 lv 2 (.int a)) st h nc ns) := (am_u e_20_1).trans (f_t (by decide +kernel))
theorem e_20_2 : pg_code 20 2 = some (.iload_n 2, 1, 0, 0) := by decide +kernel
theorem u_20_2 {a : Int32} {z0 : Option Value} {z1 : Option Value} {lv : am_L} {st : List Value} : am_W G (am_M G d) 20 K 2 (z0 :: z1 :: some (.int a) :: lv) st h nc ns = (am_W G (am_M G d) 20 K 3 (z0 :: z1 :: some (.int a) :: lv) (.int a :: st) h nc ns) := am_u e_20_2
theorem e_20_3 : pg_code 20 3 = some (.aload_n 0, 1, 0, 0) := by decide +kernel
theorem u_20_3 {a : Nat} {lv : am_L} {st : List Value} : am_W G (am_M G d) 20 K 3 (some (.ref a) :: lv) st h nc ns = (am_W G (am_M G d) 20 K 4 (some (.ref a) :: lv) (.ref a :: st) h nc ns) := am_u e_20_3
theorem e_20_4 : pg_code 20 4 = some (.getfield 42, 3, 5, 0) := by decide +kernel
theorem u_20_4 {a : Nat} {lv : am_L} {st : List Value} : am_W G (am_M G d) 20 K 4 lv (.ref a :: st) h nc ns = (f_gf G d 20 K 7 lv st h nc ns (h a) 5 0) := am_u e_20_4
theorem e_20_7 : pg_code 20 7 = some (.getfield 53, 3, 2, 3) := by decide +kernel
theorem u_20_7 {a : Nat} {lv : am_L} {st : List Value} : am_W G (am_M G d) 20 K 7 lv (.ref a :: st) h nc ns = (f_gf G d 20 K 10 lv st h nc ns (h a) 2 3) := am_u e_20_7
theorem e_20_10 : pg_code 20 10 = some (.if_icmp .ge 22, 3, 32, 0) := by decide +kernel
theorem u_20_10 {a b : Int32} {lv : am_L} {st : List Value} : am_W G (am_M G d) 20 K 10 lv (.int b :: .int a :: st) h nc ns = (am_br (b ≤ a) (am_W G (am_M G d) 20 K 32 lv st h nc ns) (am_W G (am_M G d) 20 K 13 lv st h nc ns)) := am_u e_20_10
theorem e_20_13 : pg_code 20 13 = some (.aload_n 1, 1, 0, 0) := by decide +kernel
theorem u_20_13 {a : Nat} {z0 : Option Value} {lv : am_L} {st : List Value} : am_W G (am_M G d) 20 K 13 (z0 :: some (.ref a) :: lv) st h nc ns = (am_W G (am_M G d) 20 K 14 (z0 :: some (.ref a) :: lv) (.ref a :: st) h nc ns) := am_u e_20_13
theorem e_20_14 : pg_code 20 14 = some (.iload_n 2, 1, 0, 0) := by decide +kernel
theorem u_20_14 {a : Int32} {z0 : Option Value} {z1 : Option Value} {lv : am_L} {st : List Value} : am_W G (am_M G d) 20 K 14 (z0 :: z1 :: some (.int a) :: lv) st h nc ns = (am_W G (am_M G d) 20 K 15 (z0 :: z1 :: some (.int a) :: lv) (.int a :: st) h nc ns) := am_u e_20_14
theorem e_20_15 : pg_code 20 15 = some (.baload, 1, 0, 0) := by decide +kernel
theorem u_20_15 {a : Nat} {j : Int32} {lv : am_L} {st : List Value} : am_W G (am_M G d) 20 K 15 lv (.int j :: .ref a :: st) h nc ns = (f_ia G d 20 K 16 lv st h nc ns (h a) .boolean j) := am_u e_20_15
theorem e_20_16 : pg_code 20 16 = some (.ifCond .eq 10, 3, 26, 0) := by decide +kernel
theorem u_20_16 {a : Int32} {lv : am_L} {st : List Value} : am_W G (am_M G d) 20 K 16 lv (.int a :: st) h nc ns = (am_br (a = 0) (am_W G (am_M G d) 20 K 26 lv st h nc ns) (am_W G (am_M G d) 20 K 19 lv st h nc ns)) := am_u e_20_16
theorem e_20_19 : pg_code 20 19 = some (.aload_n 0, 1, 0, 0) := by decide +kernel
theorem u_20_19 {a : Nat} {lv : am_L} {st : List Value} : am_W G (am_M G d) 20 K 19 (some (.ref a) :: lv) st h nc ns = (am_W G (am_M G d) 20 K 20 (some (.ref a) :: lv) (.ref a :: st) h nc ns) := am_u e_20_19
theorem e_20_20 : pg_code 20 20 = some (.getfield 19, 3, 5, 4) := by decide +kernel
theorem u_20_20 {a : Nat} {lv : am_L} {st : List Value} : am_W G (am_M G d) 20 K 20 lv (.ref a :: st) h nc ns = (f_gf G d 20 K 23 lv st h nc ns (h a) 5 4) := am_u e_20_20
theorem e_20_23 : pg_code 20 23 = some (.iload_n 2, 1, 0, 0) := by decide +kernel
theorem u_20_23 {a : Int32} {z0 : Option Value} {z1 : Option Value} {lv : am_L} {st : List Value} : am_W G (am_M G d) 20 K 23 (z0 :: z1 :: some (.int a) :: lv) st h nc ns = (am_W G (am_M G d) 20 K 24 (z0 :: z1 :: some (.int a) :: lv) (.int a :: st) h nc ns) := am_u e_20_23
theorem e_20_24 : pg_code 20 24 = some (.iconst 3, 1, 0, 0) := by decide +kernel
theorem u_20_24 {lv : am_L} {st : List Value} : am_W G (am_M G d) 20 K 24 lv st h nc ns = (am_W G (am_M G d) 20 K 25 lv (.int 3 :: st) h nc ns) := am_u e_20_24
theorem e_20_25 : pg_code 20 25 = some (.iastore, 1, 0, 0) := by decide +kernel
theorem u_20_25 {a : Nat} {j b : Int32} {lv : am_L} {st : List Value} : am_W G (am_M G d) 20 K 25 lv (.int b :: .int j :: .ref a :: st) h nc ns = (f_is G d 20 K 26 lv st h nc ns (h a) .int a j b) := am_u e_20_25
theorem e_20_26 : pg_code 20 26 = some (.iinc 2 1, 3, 0, 0) := by decide +kernel
theorem u_20_26 {a : Int32} {z0 : Option Value} {z1 : Option Value} {lv : am_L} {st : List Value} : am_W G (am_M G d) 20 K 26 (z0 :: z1 :: some (.int a) :: lv) st h nc ns = (am_W G (am_M G d) 20 K 29 (am_st1 (z0 :: z1 :: some (.int a) :: lv) 2 (.int (a + Int32.ofInt 1))) st h nc ns) := (am_u e_20_26).trans (f_t (by decide +kernel))
theorem e_20_29 : pg_code 20 29 = some (.goto (-27), 3, 2, 0) := by decide +kernel
theorem u_20_29 {lv : am_L} {st : List Value} : am_W G (am_M G d) 20 K 29 lv st h nc ns = (am_W G (am_M G d) 20 K 2 lv st h nc ns) := am_u e_20_29
theorem e_20_32 : pg_code 20 32 = some (.return_, 1, 0, 0) := by decide +kernel
theorem u_20_32 {lv : am_L} : am_W G (am_M G d) 20 K 32 lv [] h nc ns = (K (.inl none) h) := (am_u e_20_32).trans (f_t ⟨rfl, rfl⟩)
theorem e_21_0 : pg_code 21 0 = some (.aload_n 0, 1, 0, 0) := by decide +kernel
theorem u_21_0 {a : Nat} {lv : am_L} {st : List Value} : am_W G (am_M G d) 21 K 0 (some (.ref a) :: lv) st h nc ns = (am_W G (am_M G d) 21 K 1 (some (.ref a) :: lv) (.ref a :: st) h nc ns) := am_u e_21_0
theorem e_21_1 : pg_code 21 1 = some (.getfield 15, 3, 0, 0) := by decide +kernel
theorem u_21_1 {a : Nat} {lv : am_L} {st : List Value} : am_W G (am_M G d) 21 K 1 lv (.ref a :: st) h nc ns = (f_gf G d 21 K 4 lv st h nc ns (h a) 0 0) := am_u e_21_1
theorem e_21_4 : pg_code 21 4 = some (.iload_n 1, 1, 0, 0) := by decide +kernel
theorem u_21_4 {a : Int32} {z0 : Option Value} {lv : am_L} {st : List Value} : am_W G (am_M G d) 21 K 4 (z0 :: some (.int a) :: lv) st h nc ns = (am_W G (am_M G d) 21 K 5 (z0 :: some (.int a) :: lv) (.int a :: st) h nc ns) := am_u e_21_4
theorem e_21_5 : pg_code 21 5 = some (.invokevirtual 223, 3, 22, 2) := by decide +kernel
theorem u_21_5 {a : Nat} {v0 : Value} {lv : am_L} {st : List Value} : am_W G (am_M G d) 21 K 5 lv (v0 :: .ref a :: st) h nc ns = ((am_words st ≤ 8 ∧ nc + 0 ≤ 0 ∧ ns + 0 ≤ 0 ∧ f_rc (h a) 5) ∧ am_M G d 22 [.ref a, v0] h (am_back 21 K (am_W G (am_M G d) 21 K) 22 5 lv st nc ns)) := (am_u e_21_5).trans (f_iv_eq (a := a) (G := G) (d := d) (k := 21) (K := K) (pc := 5) (lv := lv) (st := st) (h := h) (nc := nc) (ns := ns) (x := 22) (X := am_W G (am_M G d) 21 K) [v0] (by decide) rfl)
theorem e_21_8 : pg_code 21 8 = some (.ifCond .eq 16, 3, 24, 0) := by decide +kernel
theorem u_21_8 {a : Int32} {lv : am_L} {st : List Value} : am_W G (am_M G d) 21 K 8 lv (.int a :: st) h nc ns = (am_br (a = 0) (am_W G (am_M G d) 21 K 24 lv st h nc ns) (am_W G (am_M G d) 21 K 11 lv st h nc ns)) := am_u e_21_8
theorem e_21_11 : pg_code 21 11 = some (.aload_n 0, 1, 0, 0) := by decide +kernel
theorem u_21_11 {a : Nat} {lv : am_L} {st : List Value} : am_W G (am_M G d) 21 K 11 (some (.ref a) :: lv) st h nc ns = (am_W G (am_M G d) 21 K 12 (some (.ref a) :: lv) (.ref a :: st) h nc ns) := am_u e_21_11
theorem e_21_12 : pg_code 21 12 = some (.getfield 15, 3, 0, 0) := by decide +kernel
theorem u_21_12 {a : Nat} {lv : am_L} {st : List Value} : am_W G (am_M G d) 21 K 12 lv (.ref a :: st) h nc ns = (f_gf G d 21 K 15 lv st h nc ns (h a) 0 0) := am_u e_21_12
theorem e_21_15 : pg_code 21 15 = some (.getfield 138, 3, 5, 4) := by decide +kernel
theorem u_21_15 {a : Nat} {lv : am_L} {st : List Value} : am_W G (am_M G d) 21 K 15 lv (.ref a :: st) h nc ns = (f_gf G d 21 K 18 lv st h nc ns (h a) 5 4) := am_u e_21_15
theorem e_21_18 : pg_code 21 18 = some (.iload_n 1, 1, 0, 0) := by decide +kernel
theorem u_21_18 {a : Int32} {z0 : Option Value} {lv : am_L} {st : List Value} : am_W G (am_M G d) 21 K 18 (z0 :: some (.int a) :: lv) st h nc ns = (am_W G (am_M G d) 21 K 19 (z0 :: some (.int a) :: lv) (.int a :: st) h nc ns) := am_u e_21_18
theorem e_21_19 : pg_code 21 19 = some (.iconst 2, 1, 0, 0) := by decide +kernel
theorem u_21_19 {lv : am_L} {st : List Value} : am_W G (am_M G d) 21 K 19 lv st h nc ns = (am_W G (am_M G d) 21 K 20 lv (.int 2 :: st) h nc ns) := am_u e_21_19
theorem e_21_20 : pg_code 21 20 = some (.iastore, 1, 0, 0) := by decide +kernel
theorem u_21_20 {a : Nat} {j b : Int32} {lv : am_L} {st : List Value} : am_W G (am_M G d) 21 K 20 lv (.int b :: .int j :: .ref a :: st) h nc ns = (f_is G d 21 K 21 lv st h nc ns (h a) .int a j b) := am_u e_21_20
theorem e_21_21 : pg_code 21 21 = some (.goto 42, 3, 63, 0) := by decide +kernel
theorem u_21_21 {lv : am_L} {st : List Value} : am_W G (am_M G d) 21 K 21 lv st h nc ns = (am_W G (am_M G d) 21 K 63 lv st h nc ns) := am_u e_21_21
theorem e_21_24 : pg_code 21 24 = some (.aload_n 0, 1, 0, 0) := by decide +kernel
theorem u_21_24 {a : Nat} {lv : am_L} {st : List Value} : am_W G (am_M G d) 21 K 24 (some (.ref a) :: lv) st h nc ns = (am_W G (am_M G d) 21 K 25 (some (.ref a) :: lv) (.ref a :: st) h nc ns) := am_u e_21_24
theorem e_21_25 : pg_code 21 25 = some (.getfield 15, 3, 0, 0) := by decide +kernel
theorem u_21_25 {a : Nat} {lv : am_L} {st : List Value} : am_W G (am_M G d) 21 K 25 lv (.ref a :: st) h nc ns = (f_gf G d 21 K 28 lv st h nc ns (h a) 0 0) := am_u e_21_25
theorem e_21_28 : pg_code 21 28 = some (.iload_n 1, 1, 0, 0) := by decide +kernel
theorem u_21_28 {a : Int32} {z0 : Option Value} {lv : am_L} {st : List Value} : am_W G (am_M G d) 21 K 28 (z0 :: some (.int a) :: lv) st h nc ns = (am_W G (am_M G d) 21 K 29 (z0 :: some (.int a) :: lv) (.int a :: st) h nc ns) := am_u e_21_28
theorem e_21_29 : pg_code 21 29 = some (.invokevirtual 227, 3, 24, 2) := by decide +kernel
theorem u_21_29 {a : Nat} {v0 : Value} {lv : am_L} {st : List Value} : am_W G (am_M G d) 21 K 29 lv (v0 :: .ref a :: st) h nc ns = ((am_words st ≤ 8 ∧ nc + 0 ≤ 0 ∧ ns + 0 ≤ 0 ∧ f_rc (h a) 5) ∧ am_M G d 24 [.ref a, v0] h (am_back 21 K (am_W G (am_M G d) 21 K) 24 29 lv st nc ns)) := (am_u e_21_29).trans (f_iv_eq (a := a) (G := G) (d := d) (k := 21) (K := K) (pc := 29) (lv := lv) (st := st) (h := h) (nc := nc) (ns := ns) (x := 24) (X := am_W G (am_M G d) 21 K) [v0] (by decide) rfl)
theorem e_21_32 : pg_code 21 32 = some (.ifCond .eq 31, 3, 63, 0) := by decide +kernel
theorem u_21_32 {a : Int32} {lv : am_L} {st : List Value} : am_W G (am_M G d) 21 K 32 lv (.int a :: st) h nc ns = (am_br (a = 0) (am_W G (am_M G d) 21 K 63 lv st h nc ns) (am_W G (am_M G d) 21 K 35 lv st h nc ns)) := am_u e_21_32
theorem e_21_35 : pg_code 21 35 = some (.aload_n 0, 1, 0, 0) := by decide +kernel
theorem u_21_35 {a : Nat} {lv : am_L} {st : List Value} : am_W G (am_M G d) 21 K 35 (some (.ref a) :: lv) st h nc ns = (am_W G (am_M G d) 21 K 36 (some (.ref a) :: lv) (.ref a :: st) h nc ns) := am_u e_21_35
theorem e_21_36 : pg_code 21 36 = some (.getfield 15, 3, 0, 0) := by decide +kernel
theorem u_21_36 {a : Nat} {lv : am_L} {st : List Value} : am_W G (am_M G d) 21 K 36 lv (.ref a :: st) h nc ns = (f_gf G d 21 K 39 lv st h nc ns (h a) 0 0) := am_u e_21_36
theorem e_21_39 : pg_code 21 39 = some (.iload_n 1, 1, 0, 0) := by decide +kernel
theorem u_21_39 {a : Int32} {z0 : Option Value} {lv : am_L} {st : List Value} : am_W G (am_M G d) 21 K 39 (z0 :: some (.int a) :: lv) st h nc ns = (am_W G (am_M G d) 21 K 40 (z0 :: some (.int a) :: lv) (.int a :: st) h nc ns) := am_u e_21_39
theorem e_21_40 : pg_code 21 40 = some (.invokevirtual 230, 3, 27, 2) := by decide +kernel
theorem u_21_40 {a : Nat} {v0 : Value} {lv : am_L} {st : List Value} : am_W G (am_M G d) 21 K 40 lv (v0 :: .ref a :: st) h nc ns = ((am_words st ≤ 8 ∧ nc + 0 ≤ 0 ∧ ns + 0 ≤ 0 ∧ f_rc (h a) 5) ∧ am_M G d 27 [.ref a, v0] h (am_back 21 K (am_W G (am_M G d) 21 K) 27 40 lv st nc ns)) := (am_u e_21_40).trans (f_iv_eq (a := a) (G := G) (d := d) (k := 21) (K := K) (pc := 40) (lv := lv) (st := st) (h := h) (nc := nc) (ns := ns) (x := 27) (X := am_W G (am_M G d) 21 K) [v0] (by decide) rfl)
theorem e_21_43 : pg_code 21 43 = some (.aload_n 0, 1, 0, 0) := by decide +kernel
theorem u_21_43 {a : Nat} {lv : am_L} {st : List Value} : am_W G (am_M G d) 21 K 43 (some (.ref a) :: lv) st h nc ns = (am_W G (am_M G d) 21 K 44 (some (.ref a) :: lv) (.ref a :: st) h nc ns) := am_u e_21_43
theorem e_21_44 : pg_code 21 44 = some (.getfield 42, 3, 0, 5) := by decide +kernel
theorem u_21_44 {a : Nat} {lv : am_L} {st : List Value} : am_W G (am_M G d) 21 K 44 lv (.ref a :: st) h nc ns = (f_gf G d 21 K 47 lv st h nc ns (h a) 0 5) := am_u e_21_44
theorem e_21_47 : pg_code 21 47 = some (.aload_n 0, 1, 0, 0) := by decide +kernel
theorem u_21_47 {a : Nat} {lv : am_L} {st : List Value} : am_W G (am_M G d) 21 K 47 (some (.ref a) :: lv) st h nc ns = (am_W G (am_M G d) 21 K 48 (some (.ref a) :: lv) (.ref a :: st) h nc ns) := am_u e_21_47
theorem e_21_48 : pg_code 21 48 = some (.getfield 123, 3, 0, 6) := by decide +kernel
theorem u_21_48 {a : Nat} {lv : am_L} {st : List Value} : am_W G (am_M G d) 21 K 48 lv (.ref a :: st) h nc ns = (f_gf G d 21 K 51 lv st h nc ns (h a) 0 6) := am_u e_21_48
theorem e_21_51 : pg_code 21 51 = some (.iload_n 1, 1, 0, 0) := by decide +kernel
theorem u_21_51 {a : Int32} {z0 : Option Value} {lv : am_L} {st : List Value} : am_W G (am_M G d) 21 K 51 (z0 :: some (.int a) :: lv) st h nc ns = (am_W G (am_M G d) 21 K 52 (z0 :: some (.int a) :: lv) (.int a :: st) h nc ns) := am_u e_21_51
theorem e_21_52 : pg_code 21 52 = some (.iastore, 1, 0, 0) := by decide +kernel
theorem u_21_52 {a : Nat} {j b : Int32} {lv : am_L} {st : List Value} : am_W G (am_M G d) 21 K 52 lv (.int b :: .int j :: .ref a :: st) h nc ns = (f_is G d 21 K 53 lv st h nc ns (h a) .int a j b) := am_u e_21_52
theorem e_21_53 : pg_code 21 53 = some (.aload_n 0, 1, 0, 0) := by decide +kernel
theorem u_21_53 {a : Nat} {lv : am_L} {st : List Value} : am_W G (am_M G d) 21 K 53 (some (.ref a) :: lv) st h nc ns = (am_W G (am_M G d) 21 K 54 (some (.ref a) :: lv) (.ref a :: st) h nc ns) := am_u e_21_53
theorem e_21_54 : pg_code 21 54 = some (.dup, 1, 0, 0) := by decide +kernel
theorem u_21_54 {a : Nat} {lv : am_L} {st : List Value} : am_W G (am_M G d) 21 K 54 lv (.ref a :: st) h nc ns = (am_W G (am_M G d) 21 K 55 lv (.ref a :: .ref a :: st) h nc ns) := (am_u e_21_54).trans (f_t rfl)
theorem e_21_55 : pg_code 21 55 = some (.getfield 123, 3, 0, 6) := by decide +kernel
theorem u_21_55 {a : Nat} {lv : am_L} {st : List Value} : am_W G (am_M G d) 21 K 55 lv (.ref a :: st) h nc ns = (f_gf G d 21 K 58 lv st h nc ns (h a) 0 6) := am_u e_21_55
theorem e_21_58 : pg_code 21 58 = some (.iconst 1, 1, 0, 0) := by decide +kernel
theorem u_21_58 {lv : am_L} {st : List Value} : am_W G (am_M G d) 21 K 58 lv st h nc ns = (am_W G (am_M G d) 21 K 59 lv (.int 1 :: st) h nc ns) := am_u e_21_58
theorem e_21_59 : pg_code 21 59 = some (.iadd, 1, 0, 0) := by decide +kernel
theorem u_21_59 {a b : Int32} {lv : am_L} {st : List Value} : am_W G (am_M G d) 21 K 59 lv (.int b :: .int a :: st) h nc ns = (am_W G (am_M G d) 21 K 60 lv (.int (a + b) :: st) h nc ns) := am_u e_21_59
theorem e_21_60 : pg_code 21 60 = some (.putfield 123, 3, 0, 6) := by decide +kernel
theorem u_21_60 {a : Nat} {b : Int32} {lv : am_L} {st : List Value} : am_W G (am_M G d) 21 K 60 lv (.int b :: .ref a :: st) h nc ns = (f_pf G d 21 K 63 lv st h nc ns (h a) 0 6 a (.int b)) := (am_u e_21_60).trans (f_pf_eq ⟨rfl, rfl⟩)
theorem e_21_63 : pg_code 21 63 = some (.return_, 1, 0, 0) := by decide +kernel
theorem u_21_63 {lv : am_L} : am_W G (am_M G d) 21 K 63 lv [] h nc ns = (K (.inl none) h) := (am_u e_21_63).trans (f_t ⟨rfl, rfl⟩)
theorem e_22_0 : pg_code 22 0 = some (.aload_n 0, 1, 0, 0) := by decide +kernel
theorem u_22_0 {a : Nat} {lv : am_L} {st : List Value} : am_W G (am_M G d) 22 K 0 (some (.ref a) :: lv) st h nc ns = (am_W G (am_M G d) 22 K 1 (some (.ref a) :: lv) (.ref a :: st) h nc ns) := am_u e_22_0
theorem e_22_1 : pg_code 22 1 = some (.aload_n 0, 1, 0, 0) := by decide +kernel
theorem u_22_1 {a : Nat} {lv : am_L} {st : List Value} : am_W G (am_M G d) 22 K 1 (some (.ref a) :: lv) st h nc ns = (am_W G (am_M G d) 22 K 2 (some (.ref a) :: lv) (.ref a :: st) h nc ns) := am_u e_22_1
theorem e_22_2 : pg_code 22 2 = some (.getfield 42, 3, 5, 0) := by decide +kernel
theorem u_22_2 {a : Nat} {lv : am_L} {st : List Value} : am_W G (am_M G d) 22 K 2 lv (.ref a :: st) h nc ns = (f_gf G d 22 K 5 lv st h nc ns (h a) 5 0) := am_u e_22_2
theorem e_22_5 : pg_code 22 5 = some (.getfield 60, 3, 2, 1) := by decide +kernel
theorem u_22_5 {a : Nat} {lv : am_L} {st : List Value} : am_W G (am_M G d) 22 K 5 lv (.ref a :: st) h nc ns = (f_gf G d 22 K 8 lv st h nc ns (h a) 2 1) := am_u e_22_5
theorem e_22_8 : pg_code 22 8 = some (.iload_n 1, 1, 0, 0) := by decide +kernel
theorem u_22_8 {a : Int32} {z0 : Option Value} {lv : am_L} {st : List Value} : am_W G (am_M G d) 22 K 8 (z0 :: some (.int a) :: lv) st h nc ns = (am_W G (am_M G d) 22 K 9 (z0 :: some (.int a) :: lv) (.int a :: st) h nc ns) := am_u e_22_8
theorem e_22_9 : pg_code 22 9 = some (.iaload, 1, 0, 0) := by decide +kernel
theorem u_22_9 {a : Nat} {j : Int32} {lv : am_L} {st : List Value} : am_W G (am_M G d) 22 K 9 lv (.int j :: .ref a :: st) h nc ns = (f_ia G d 22 K 10 lv st h nc ns (h a) .int j) := am_u e_22_9
theorem e_22_10 : pg_code 22 10 = some (.invokevirtual 63, 3, 23, 2) := by decide +kernel
theorem u_22_10 {a : Nat} {v0 : Value} {lv : am_L} {st : List Value} : am_W G (am_M G d) 22 K 10 lv (v0 :: .ref a :: st) h nc ns = ((am_words st ≤ 8 ∧ nc + 0 ≤ 0 ∧ ns + 0 ≤ 0 ∧ f_rc (h a) 5) ∧ am_M G d 23 [.ref a, v0] h (am_back 22 K (am_W G (am_M G d) 22 K) 23 10 lv st nc ns)) := (am_u e_22_10).trans (f_iv_eq (a := a) (G := G) (d := d) (k := 22) (K := K) (pc := 10) (lv := lv) (st := st) (h := h) (nc := nc) (ns := ns) (x := 23) (X := am_W G (am_M G d) 22 K) [v0] (by decide) rfl)
theorem e_22_13 : pg_code 22 13 = some (.ifCond .ne 19, 3, 32, 0) := by decide +kernel
theorem u_22_13 {a : Int32} {lv : am_L} {st : List Value} : am_W G (am_M G d) 22 K 13 lv (.int a :: st) h nc ns = (am_br (¬ a = 0) (am_W G (am_M G d) 22 K 32 lv st h nc ns) (am_W G (am_M G d) 22 K 16 lv st h nc ns)) := am_u e_22_13
theorem e_22_16 : pg_code 22 16 = some (.aload_n 0, 1, 0, 0) := by decide +kernel
theorem u_22_16 {a : Nat} {lv : am_L} {st : List Value} : am_W G (am_M G d) 22 K 16 (some (.ref a) :: lv) st h nc ns = (am_W G (am_M G d) 22 K 17 (some (.ref a) :: lv) (.ref a :: st) h nc ns) := am_u e_22_16
theorem e_22_17 : pg_code 22 17 = some (.aload_n 0, 1, 0, 0) := by decide +kernel
theorem u_22_17 {a : Nat} {lv : am_L} {st : List Value} : am_W G (am_M G d) 22 K 17 (some (.ref a) :: lv) st h nc ns = (am_W G (am_M G d) 22 K 18 (some (.ref a) :: lv) (.ref a :: st) h nc ns) := am_u e_22_17
theorem e_22_18 : pg_code 22 18 = some (.getfield 42, 3, 5, 0) := by decide +kernel
theorem u_22_18 {a : Nat} {lv : am_L} {st : List Value} : am_W G (am_M G d) 22 K 18 lv (.ref a :: st) h nc ns = (f_gf G d 22 K 21 lv st h nc ns (h a) 5 0) := am_u e_22_18
theorem e_22_21 : pg_code 22 21 = some (.getfield 67, 3, 2, 2) := by decide +kernel
theorem u_22_21 {a : Nat} {lv : am_L} {st : List Value} : am_W G (am_M G d) 22 K 21 lv (.ref a :: st) h nc ns = (f_gf G d 22 K 24 lv st h nc ns (h a) 2 2) := am_u e_22_21
theorem e_22_24 : pg_code 22 24 = some (.iload_n 1, 1, 0, 0) := by decide +kernel
theorem u_22_24 {a : Int32} {z0 : Option Value} {lv : am_L} {st : List Value} : am_W G (am_M G d) 22 K 24 (z0 :: some (.int a) :: lv) st h nc ns = (am_W G (am_M G d) 22 K 25 (z0 :: some (.int a) :: lv) (.int a :: st) h nc ns) := am_u e_22_24
theorem e_22_25 : pg_code 22 25 = some (.iaload, 1, 0, 0) := by decide +kernel
theorem u_22_25 {a : Nat} {j : Int32} {lv : am_L} {st : List Value} : am_W G (am_M G d) 22 K 25 lv (.int j :: .ref a :: st) h nc ns = (f_ia G d 22 K 26 lv st h nc ns (h a) .int j) := am_u e_22_25
theorem e_22_26 : pg_code 22 26 = some (.invokevirtual 63, 3, 23, 2) := by decide +kernel
theorem u_22_26 {a : Nat} {v0 : Value} {lv : am_L} {st : List Value} : am_W G (am_M G d) 22 K 26 lv (v0 :: .ref a :: st) h nc ns = ((am_words st ≤ 8 ∧ nc + 0 ≤ 0 ∧ ns + 0 ≤ 0 ∧ f_rc (h a) 5) ∧ am_M G d 23 [.ref a, v0] h (am_back 22 K (am_W G (am_M G d) 22 K) 23 26 lv st nc ns)) := (am_u e_22_26).trans (f_iv_eq (a := a) (G := G) (d := d) (k := 22) (K := K) (pc := 26) (lv := lv) (st := st) (h := h) (nc := nc) (ns := ns) (x := 23) (X := am_W G (am_M G d) 22 K) [v0] (by decide) rfl)
theorem e_22_29 : pg_code 22 29 = some (.ifCond .eq 7, 3, 36, 0) := by decide +kernel
theorem u_22_29 {a : Int32} {lv : am_L} {st : List Value} : am_W G (am_M G d) 22 K 29 lv (.int a :: st) h nc ns = (am_br (a = 0) (am_W G (am_M G d) 22 K 36 lv st h nc ns) (am_W G (am_M G d) 22 K 32 lv st h nc ns)) := am_u e_22_29
theorem e_22_32 : pg_code 22 32 = some (.iconst 1, 1, 0, 0) := by decide +kernel
theorem u_22_32 {lv : am_L} {st : List Value} : am_W G (am_M G d) 22 K 32 lv st h nc ns = (am_W G (am_M G d) 22 K 33 lv (.int 1 :: st) h nc ns) := am_u e_22_32
theorem e_22_33 : pg_code 22 33 = some (.goto 4, 3, 37, 0) := by decide +kernel
theorem u_22_33 {lv : am_L} {st : List Value} : am_W G (am_M G d) 22 K 33 lv st h nc ns = (am_W G (am_M G d) 22 K 37 lv st h nc ns) := am_u e_22_33
theorem e_22_36 : pg_code 22 36 = some (.iconst 0, 1, 0, 0) := by decide +kernel
theorem u_22_36 {lv : am_L} {st : List Value} : am_W G (am_M G d) 22 K 36 lv st h nc ns = (am_W G (am_M G d) 22 K 37 lv (.int 0 :: st) h nc ns) := am_u e_22_36
theorem e_22_37 : pg_code 22 37 = some (.ireturn, 1, 0, 0) := by decide +kernel
theorem u_22_37 {a : Int32} {lv : am_L} : am_W G (am_M G d) 22 K 37 lv [.int a] h nc ns = (narrow .boolean (.int a) = .int a ∧ K (.inl (some (.int a))) h) := (am_u e_22_37).trans (f_z_eq rfl)
theorem e_23_0 : pg_code 23 0 = some (.iload_n 1, 1, 0, 0) := by decide +kernel
theorem u_23_0 {a : Int32} {z0 : Option Value} {lv : am_L} {st : List Value} : am_W G (am_M G d) 23 K 0 (z0 :: some (.int a) :: lv) st h nc ns = (am_W G (am_M G d) 23 K 1 (z0 :: some (.int a) :: lv) (.int a :: st) h nc ns) := am_u e_23_0
theorem e_23_1 : pg_code 23 1 = some (.ifCond .lt 16, 3, 17, 0) := by decide +kernel
theorem u_23_1 {a : Int32} {lv : am_L} {st : List Value} : am_W G (am_M G d) 23 K 1 lv (.int a :: st) h nc ns = (am_br (a < 0) (am_W G (am_M G d) 23 K 17 lv st h nc ns) (am_W G (am_M G d) 23 K 4 lv st h nc ns)) := am_u e_23_1
theorem e_23_4 : pg_code 23 4 = some (.aload_n 0, 1, 0, 0) := by decide +kernel
theorem u_23_4 {a : Nat} {lv : am_L} {st : List Value} : am_W G (am_M G d) 23 K 4 (some (.ref a) :: lv) st h nc ns = (am_W G (am_M G d) 23 K 5 (some (.ref a) :: lv) (.ref a :: st) h nc ns) := am_u e_23_4
theorem e_23_5 : pg_code 23 5 = some (.getfield 19, 3, 5, 4) := by decide +kernel
theorem u_23_5 {a : Nat} {lv : am_L} {st : List Value} : am_W G (am_M G d) 23 K 5 lv (.ref a :: st) h nc ns = (f_gf G d 23 K 8 lv st h nc ns (h a) 5 4) := am_u e_23_5
theorem e_23_8 : pg_code 23 8 = some (.iload_n 1, 1, 0, 0) := by decide +kernel
theorem u_23_8 {a : Int32} {z0 : Option Value} {lv : am_L} {st : List Value} : am_W G (am_M G d) 23 K 8 (z0 :: some (.int a) :: lv) st h nc ns = (am_W G (am_M G d) 23 K 9 (z0 :: some (.int a) :: lv) (.int a :: st) h nc ns) := am_u e_23_8
theorem e_23_9 : pg_code 23 9 = some (.iaload, 1, 0, 0) := by decide +kernel
theorem u_23_9 {a : Nat} {j : Int32} {lv : am_L} {st : List Value} : am_W G (am_M G d) 23 K 9 lv (.int j :: .ref a :: st) h nc ns = (f_ia G d 23 K 10 lv st h nc ns (h a) .int j) := am_u e_23_9
theorem e_23_10 : pg_code 23 10 = some (.ifCond .eq 7, 3, 17, 0) := by decide +kernel
theorem u_23_10 {a : Int32} {lv : am_L} {st : List Value} : am_W G (am_M G d) 23 K 10 lv (.int a :: st) h nc ns = (am_br (a = 0) (am_W G (am_M G d) 23 K 17 lv st h nc ns) (am_W G (am_M G d) 23 K 13 lv st h nc ns)) := am_u e_23_10
theorem e_23_13 : pg_code 23 13 = some (.iconst 1, 1, 0, 0) := by decide +kernel
theorem u_23_13 {lv : am_L} {st : List Value} : am_W G (am_M G d) 23 K 13 lv st h nc ns = (am_W G (am_M G d) 23 K 14 lv (.int 1 :: st) h nc ns) := am_u e_23_13
theorem e_23_14 : pg_code 23 14 = some (.goto 4, 3, 18, 0) := by decide +kernel
theorem u_23_14 {lv : am_L} {st : List Value} : am_W G (am_M G d) 23 K 14 lv st h nc ns = (am_W G (am_M G d) 23 K 18 lv st h nc ns) := am_u e_23_14
theorem e_23_17 : pg_code 23 17 = some (.iconst 0, 1, 0, 0) := by decide +kernel
theorem u_23_17 {lv : am_L} {st : List Value} : am_W G (am_M G d) 23 K 17 lv st h nc ns = (am_W G (am_M G d) 23 K 18 lv (.int 0 :: st) h nc ns) := am_u e_23_17
theorem e_23_18 : pg_code 23 18 = some (.ireturn, 1, 0, 0) := by decide +kernel
theorem u_23_18 {a : Int32} {lv : am_L} : am_W G (am_M G d) 23 K 18 lv [.int a] h nc ns = (narrow .boolean (.int a) = .int a ∧ K (.inl (some (.int a))) h) := (am_u e_23_18).trans (f_z_eq rfl)
theorem e_24_0 : pg_code 24 0 = some (.aload_n 0, 1, 0, 0) := by decide +kernel
theorem u_24_0 {a : Nat} {lv : am_L} {st : List Value} : am_W G (am_M G d) 24 K 0 (some (.ref a) :: lv) st h nc ns = (am_W G (am_M G d) 24 K 1 (some (.ref a) :: lv) (.ref a :: st) h nc ns) := am_u e_24_0
theorem e_24_1 : pg_code 24 1 = some (.getfield 19, 3, 5, 4) := by decide +kernel
theorem u_24_1 {a : Nat} {lv : am_L} {st : List Value} : am_W G (am_M G d) 24 K 1 lv (.ref a :: st) h nc ns = (f_gf G d 24 K 4 lv st h nc ns (h a) 5 4) := am_u e_24_1
theorem e_24_4 : pg_code 24 4 = some (.iload_n 1, 1, 0, 0) := by decide +kernel
theorem u_24_4 {a : Int32} {z0 : Option Value} {lv : am_L} {st : List Value} : am_W G (am_M G d) 24 K 4 (z0 :: some (.int a) :: lv) st h nc ns = (am_W G (am_M G d) 24 K 5 (z0 :: some (.int a) :: lv) (.int a :: st) h nc ns) := am_u e_24_4
theorem e_24_5 : pg_code 24 5 = some (.iaload, 1, 0, 0) := by decide +kernel
theorem u_24_5 {a : Nat} {j : Int32} {lv : am_L} {st : List Value} : am_W G (am_M G d) 24 K 5 lv (.int j :: .ref a :: st) h nc ns = (f_ia G d 24 K 6 lv st h nc ns (h a) .int j) := am_u e_24_5
theorem e_24_6 : pg_code 24 6 = some (.ifCond .eq 15, 3, 21, 0) := by decide +kernel
theorem u_24_6 {a : Int32} {lv : am_L} {st : List Value} : am_W G (am_M G d) 24 K 6 lv (.int a :: st) h nc ns = (am_br (a = 0) (am_W G (am_M G d) 24 K 21 lv st h nc ns) (am_W G (am_M G d) 24 K 9 lv st h nc ns)) := am_u e_24_6
theorem e_24_9 : pg_code 24 9 = some (.aload_n 0, 1, 0, 0) := by decide +kernel
theorem u_24_9 {a : Nat} {lv : am_L} {st : List Value} : am_W G (am_M G d) 24 K 9 (some (.ref a) :: lv) st h nc ns = (am_W G (am_M G d) 24 K 10 (some (.ref a) :: lv) (.ref a :: st) h nc ns) := am_u e_24_9
theorem e_24_10 : pg_code 24 10 = some (.getfield 19, 3, 5, 4) := by decide +kernel
theorem u_24_10 {a : Nat} {lv : am_L} {st : List Value} : am_W G (am_M G d) 24 K 10 lv (.ref a :: st) h nc ns = (f_gf G d 24 K 13 lv st h nc ns (h a) 5 4) := am_u e_24_10
theorem e_24_13 : pg_code 24 13 = some (.iload_n 1, 1, 0, 0) := by decide +kernel
theorem u_24_13 {a : Int32} {z0 : Option Value} {lv : am_L} {st : List Value} : am_W G (am_M G d) 24 K 13 (z0 :: some (.int a) :: lv) st h nc ns = (am_W G (am_M G d) 24 K 14 (z0 :: some (.int a) :: lv) (.int a :: st) h nc ns) := am_u e_24_13
theorem e_24_14 : pg_code 24 14 = some (.iaload, 1, 0, 0) := by decide +kernel
theorem u_24_14 {a : Nat} {j : Int32} {lv : am_L} {st : List Value} : am_W G (am_M G d) 24 K 14 lv (.int j :: .ref a :: st) h nc ns = (f_ia G d 24 K 15 lv st h nc ns (h a) .int j) := am_u e_24_14
theorem e_24_15 : pg_code 24 15 = some (.iconst 1, 1, 0, 0) := by decide +kernel
theorem u_24_15 {lv : am_L} {st : List Value} : am_W G (am_M G d) 24 K 15 lv st h nc ns = (am_W G (am_M G d) 24 K 16 lv (.int 1 :: st) h nc ns) := am_u e_24_15
theorem e_24_16 : pg_code 24 16 = some (.if_icmp .eq 5, 3, 21, 0) := by decide +kernel
theorem u_24_16 {a b : Int32} {lv : am_L} {st : List Value} : am_W G (am_M G d) 24 K 16 lv (.int b :: .int a :: st) h nc ns = (am_br (a = b) (am_W G (am_M G d) 24 K 21 lv st h nc ns) (am_W G (am_M G d) 24 K 19 lv st h nc ns)) := am_u e_24_16
theorem e_24_19 : pg_code 24 19 = some (.iconst 1, 1, 0, 0) := by decide +kernel
theorem u_24_19 {lv : am_L} {st : List Value} : am_W G (am_M G d) 24 K 19 lv st h nc ns = (am_W G (am_M G d) 24 K 20 lv (.int 1 :: st) h nc ns) := am_u e_24_19
theorem e_24_20 : pg_code 24 20 = some (.ireturn, 1, 0, 0) := by decide +kernel
theorem u_24_20 {a : Int32} {lv : am_L} : am_W G (am_M G d) 24 K 20 lv [.int a] h nc ns = (narrow .boolean (.int a) = .int a ∧ K (.inl (some (.int a))) h) := (am_u e_24_20).trans (f_z_eq rfl)
theorem e_24_21 : pg_code 24 21 = some (.aload_n 0, 1, 0, 0) := by decide +kernel
theorem u_24_21 {a : Nat} {lv : am_L} {st : List Value} : am_W G (am_M G d) 24 K 21 (some (.ref a) :: lv) st h nc ns = (am_W G (am_M G d) 24 K 22 (some (.ref a) :: lv) (.ref a :: st) h nc ns) := am_u e_24_21
theorem e_24_22 : pg_code 24 22 = some (.getfield 15, 3, 5, 3) := by decide +kernel
theorem u_24_22 {a : Nat} {lv : am_L} {st : List Value} : am_W G (am_M G d) 24 K 22 lv (.ref a :: st) h nc ns = (f_gf G d 24 K 25 lv st h nc ns (h a) 5 3) := am_u e_24_22
theorem e_24_25 : pg_code 24 25 = some (.iload_n 1, 1, 0, 0) := by decide +kernel
theorem u_24_25 {a : Int32} {z0 : Option Value} {lv : am_L} {st : List Value} : am_W G (am_M G d) 24 K 25 (z0 :: some (.int a) :: lv) st h nc ns = (am_W G (am_M G d) 24 K 26 (z0 :: some (.int a) :: lv) (.int a :: st) h nc ns) := am_u e_24_25
theorem e_24_26 : pg_code 24 26 = some (.baload, 1, 0, 0) := by decide +kernel
theorem u_24_26 {a : Nat} {j : Int32} {lv : am_L} {st : List Value} : am_W G (am_M G d) 24 K 26 lv (.int j :: .ref a :: st) h nc ns = (f_ia G d 24 K 27 lv st h nc ns (h a) .boolean j) := am_u e_24_26
theorem e_24_27 : pg_code 24 27 = some (.aload_n 0, 1, 0, 0) := by decide +kernel
theorem u_24_27 {a : Nat} {lv : am_L} {st : List Value} : am_W G (am_M G d) 24 K 27 (some (.ref a) :: lv) st h nc ns = (am_W G (am_M G d) 24 K 28 (some (.ref a) :: lv) (.ref a :: st) h nc ns) := am_u e_24_27
theorem e_24_28 : pg_code 24 28 = some (.getfield 33, 3, 5, 7) := by decide +kernel
theorem u_24_28 {a : Nat} {lv : am_L} {st : List Value} : am_W G (am_M G d) 24 K 28 lv (.ref a :: st) h nc ns = (f_gf G d 24 K 31 lv st h nc ns (h a) 5 7) := am_u e_24_28
theorem e_24_31 : pg_code 24 31 = some (.iload_n 1, 1, 0, 0) := by decide +kernel
theorem u_24_31 {a : Int32} {z0 : Option Value} {lv : am_L} {st : List Value} : am_W G (am_M G d) 24 K 31 (z0 :: some (.int a) :: lv) st h nc ns = (am_W G (am_M G d) 24 K 32 (z0 :: some (.int a) :: lv) (.int a :: st) h nc ns) := am_u e_24_31
theorem e_24_32 : pg_code 24 32 = some (.baload, 1, 0, 0) := by decide +kernel
theorem u_24_32 {a : Nat} {j : Int32} {lv : am_L} {st : List Value} : am_W G (am_M G d) 24 K 32 lv (.int j :: .ref a :: st) h nc ns = (f_ia G d 24 K 33 lv st h nc ns (h a) .boolean j) := am_u e_24_32
theorem e_24_33 : pg_code 24 33 = some (.if_icmp .ne 64, 3, 97, 0) := by decide +kernel
theorem u_24_33 {a b : Int32} {lv : am_L} {st : List Value} : am_W G (am_M G d) 24 K 33 lv (.int b :: .int a :: st) h nc ns = (am_br (¬ a = b) (am_W G (am_M G d) 24 K 97 lv st h nc ns) (am_W G (am_M G d) 24 K 36 lv st h nc ns)) := am_u e_24_33
theorem e_24_36 : pg_code 24 36 = some (.aload_n 0, 1, 0, 0) := by decide +kernel
theorem u_24_36 {a : Nat} {lv : am_L} {st : List Value} : am_W G (am_M G d) 24 K 36 (some (.ref a) :: lv) st h nc ns = (am_W G (am_M G d) 24 K 37 (some (.ref a) :: lv) (.ref a :: st) h nc ns) := am_u e_24_36
theorem e_24_37 : pg_code 24 37 = some (.getfield 42, 3, 5, 0) := by decide +kernel
theorem u_24_37 {a : Nat} {lv : am_L} {st : List Value} : am_W G (am_M G d) 24 K 37 lv (.ref a :: st) h nc ns = (f_gf G d 24 K 40 lv st h nc ns (h a) 5 0) := am_u e_24_37
theorem e_24_40 : pg_code 24 40 = some (.iload_n 1, 1, 0, 0) := by decide +kernel
theorem u_24_40 {a : Int32} {z0 : Option Value} {lv : am_L} {st : List Value} : am_W G (am_M G d) 24 K 40 (z0 :: some (.int a) :: lv) st h nc ns = (am_W G (am_M G d) 24 K 41 (z0 :: some (.int a) :: lv) (.int a :: st) h nc ns) := am_u e_24_40
theorem e_24_41 : pg_code 24 41 = some (.aload_n 0, 1, 0, 0) := by decide +kernel
theorem u_24_41 {a : Nat} {lv : am_L} {st : List Value} : am_W G (am_M G d) 24 K 41 (some (.ref a) :: lv) st h nc ns = (am_W G (am_M G d) 24 K 42 (some (.ref a) :: lv) (.ref a :: st) h nc ns) := am_u e_24_41
theorem e_24_42 : pg_code 24 42 = some (.getfield 29, 3, 5, 6) := by decide +kernel
theorem u_24_42 {a : Nat} {lv : am_L} {st : List Value} : am_W G (am_M G d) 24 K 42 lv (.ref a :: st) h nc ns = (f_gf G d 24 K 45 lv st h nc ns (h a) 5 6) := am_u e_24_42
theorem e_24_45 : pg_code 24 45 = some (.invokevirtual 70, 3, 25, 3) := by decide +kernel
theorem u_24_45 {a : Nat} {v0 v1 : Value} {lv : am_L} {st : List Value} : am_W G (am_M G d) 24 K 45 lv (v1 :: v0 :: .ref a :: st) h nc ns = ((am_words st ≤ 8 ∧ nc + 0 ≤ 0 ∧ ns + 0 ≤ 0 ∧ f_rc (h a) 2) ∧ am_M G d 25 [.ref a, v0, v1] h (am_back 24 K (am_W G (am_M G d) 24 K) 25 45 lv st nc ns)) := (am_u e_24_45).trans (f_iv_eq (a := a) (G := G) (d := d) (k := 24) (K := K) (pc := 45) (lv := lv) (st := st) (h := h) (nc := nc) (ns := ns) (x := 25) (X := am_W G (am_M G d) 24 K) [v0, v1] (by decide) rfl)
theorem e_24_48 : pg_code 24 48 = some (.ifCond .eq 49, 3, 97, 0) := by decide +kernel
theorem u_24_48 {a : Int32} {lv : am_L} {st : List Value} : am_W G (am_M G d) 24 K 48 lv (.int a :: st) h nc ns = (am_br (a = 0) (am_W G (am_M G d) 24 K 97 lv st h nc ns) (am_W G (am_M G d) 24 K 51 lv st h nc ns)) := am_u e_24_48
theorem e_24_51 : pg_code 24 51 = some (.aload_n 0, 1, 0, 0) := by decide +kernel
theorem u_24_51 {a : Nat} {lv : am_L} {st : List Value} : am_W G (am_M G d) 24 K 51 (some (.ref a) :: lv) st h nc ns = (am_W G (am_M G d) 24 K 52 (some (.ref a) :: lv) (.ref a :: st) h nc ns) := am_u e_24_51
theorem e_24_52 : pg_code 24 52 = some (.aload_n 0, 1, 0, 0) := by decide +kernel
theorem u_24_52 {a : Nat} {lv : am_L} {st : List Value} : am_W G (am_M G d) 24 K 52 (some (.ref a) :: lv) st h nc ns = (am_W G (am_M G d) 24 K 53 (some (.ref a) :: lv) (.ref a :: st) h nc ns) := am_u e_24_52
theorem e_24_53 : pg_code 24 53 = some (.getfield 42, 3, 5, 0) := by decide +kernel
theorem u_24_53 {a : Nat} {lv : am_L} {st : List Value} : am_W G (am_M G d) 24 K 53 lv (.ref a :: st) h nc ns = (f_gf G d 24 K 56 lv st h nc ns (h a) 5 0) := am_u e_24_53
theorem e_24_56 : pg_code 24 56 = some (.getfield 60, 3, 2, 1) := by decide +kernel
theorem u_24_56 {a : Nat} {lv : am_L} {st : List Value} : am_W G (am_M G d) 24 K 56 lv (.ref a :: st) h nc ns = (f_gf G d 24 K 59 lv st h nc ns (h a) 2 1) := am_u e_24_56
theorem e_24_59 : pg_code 24 59 = some (.iload_n 1, 1, 0, 0) := by decide +kernel
theorem u_24_59 {a : Int32} {z0 : Option Value} {lv : am_L} {st : List Value} : am_W G (am_M G d) 24 K 59 (z0 :: some (.int a) :: lv) st h nc ns = (am_W G (am_M G d) 24 K 60 (z0 :: some (.int a) :: lv) (.int a :: st) h nc ns) := am_u e_24_59
theorem e_24_60 : pg_code 24 60 = some (.iaload, 1, 0, 0) := by decide +kernel
theorem u_24_60 {a : Nat} {j : Int32} {lv : am_L} {st : List Value} : am_W G (am_M G d) 24 K 60 lv (.int j :: .ref a :: st) h nc ns = (f_ia G d 24 K 61 lv st h nc ns (h a) .int j) := am_u e_24_60
theorem e_24_61 : pg_code 24 61 = some (.invokevirtual 74, 3, 26, 2) := by decide +kernel
theorem u_24_61 {a : Nat} {v0 : Value} {lv : am_L} {st : List Value} : am_W G (am_M G d) 24 K 61 lv (v0 :: .ref a :: st) h nc ns = ((am_words st ≤ 8 ∧ nc + 0 ≤ 0 ∧ ns + 0 ≤ 0 ∧ f_rc (h a) 5) ∧ am_M G d 26 [.ref a, v0] h (am_back 24 K (am_W G (am_M G d) 24 K) 26 61 lv st nc ns)) := (am_u e_24_61).trans (f_iv_eq (a := a) (G := G) (d := d) (k := 24) (K := K) (pc := 61) (lv := lv) (st := st) (h := h) (nc := nc) (ns := ns) (x := 26) (X := am_W G (am_M G d) 24 K) [v0] (by decide) rfl)
theorem e_24_64 : pg_code 24 64 = some (.aload_n 0, 1, 0, 0) := by decide +kernel
theorem u_24_64 {a : Nat} {lv : am_L} {st : List Value} : am_W G (am_M G d) 24 K 64 (some (.ref a) :: lv) st h nc ns = (am_W G (am_M G d) 24 K 65 (some (.ref a) :: lv) (.ref a :: st) h nc ns) := am_u e_24_64
theorem e_24_65 : pg_code 24 65 = some (.getfield 36, 3, 5, 8) := by decide +kernel
theorem u_24_65 {a : Nat} {lv : am_L} {st : List Value} : am_W G (am_M G d) 24 K 65 lv (.ref a :: st) h nc ns = (f_gf G d 24 K 68 lv st h nc ns (h a) 5 8) := am_u e_24_65
theorem e_24_68 : pg_code 24 68 = some (.iload_n 1, 1, 0, 0) := by decide +kernel
theorem u_24_68 {a : Int32} {z0 : Option Value} {lv : am_L} {st : List Value} : am_W G (am_M G d) 24 K 68 (z0 :: some (.int a) :: lv) st h nc ns = (am_W G (am_M G d) 24 K 69 (z0 :: some (.int a) :: lv) (.int a :: st) h nc ns) := am_u e_24_68
theorem e_24_69 : pg_code 24 69 = some (.laload, 1, 0, 0) := by decide +kernel
theorem u_24_69 {a : Nat} {j : Int32} {lv : am_L} {st : List Value} : am_W G (am_M G d) 24 K 69 lv (.int j :: .ref a :: st) h nc ns = (f_la G d 24 K 70 lv st h nc ns (h a) j) := am_u e_24_69
theorem e_24_70 : pg_code 24 70 = some (.lcmp, 1, 0, 0) := by decide +kernel
theorem u_24_70 {a b : Int64} {lv : am_L} {st : List Value} : am_W G (am_M G d) 24 K 70 lv (.long b :: .long a :: st) h nc ns = (am_W G (am_M G d) 24 K 71 lv (.int (lg_cmp a b) :: st) h nc ns) := am_u e_24_70
theorem e_24_71 : pg_code 24 71 = some (.ifCond .ne 26, 3, 97, 0) := by decide +kernel
theorem u_24_71 {a : Int32} {lv : am_L} {st : List Value} : am_W G (am_M G d) 24 K 71 lv (.int a :: st) h nc ns = (am_br (¬ a = 0) (am_W G (am_M G d) 24 K 97 lv st h nc ns) (am_W G (am_M G d) 24 K 74 lv st h nc ns)) := am_u e_24_71
theorem e_24_74 : pg_code 24 74 = some (.aload_n 0, 1, 0, 0) := by decide +kernel
theorem u_24_74 {a : Nat} {lv : am_L} {st : List Value} : am_W G (am_M G d) 24 K 74 (some (.ref a) :: lv) st h nc ns = (am_W G (am_M G d) 24 K 75 (some (.ref a) :: lv) (.ref a :: st) h nc ns) := am_u e_24_74
theorem e_24_75 : pg_code 24 75 = some (.aload_n 0, 1, 0, 0) := by decide +kernel
theorem u_24_75 {a : Nat} {lv : am_L} {st : List Value} : am_W G (am_M G d) 24 K 75 (some (.ref a) :: lv) st h nc ns = (am_W G (am_M G d) 24 K 76 (some (.ref a) :: lv) (.ref a :: st) h nc ns) := am_u e_24_75
theorem e_24_76 : pg_code 24 76 = some (.getfield 42, 3, 5, 0) := by decide +kernel
theorem u_24_76 {a : Nat} {lv : am_L} {st : List Value} : am_W G (am_M G d) 24 K 76 lv (.ref a :: st) h nc ns = (f_gf G d 24 K 79 lv st h nc ns (h a) 5 0) := am_u e_24_76
theorem e_24_79 : pg_code 24 79 = some (.getfield 67, 3, 2, 2) := by decide +kernel
theorem u_24_79 {a : Nat} {lv : am_L} {st : List Value} : am_W G (am_M G d) 24 K 79 lv (.ref a :: st) h nc ns = (f_gf G d 24 K 82 lv st h nc ns (h a) 2 2) := am_u e_24_79
theorem e_24_82 : pg_code 24 82 = some (.iload_n 1, 1, 0, 0) := by decide +kernel
theorem u_24_82 {a : Int32} {z0 : Option Value} {lv : am_L} {st : List Value} : am_W G (am_M G d) 24 K 82 (z0 :: some (.int a) :: lv) st h nc ns = (am_W G (am_M G d) 24 K 83 (z0 :: some (.int a) :: lv) (.int a :: st) h nc ns) := am_u e_24_82
theorem e_24_83 : pg_code 24 83 = some (.iaload, 1, 0, 0) := by decide +kernel
theorem u_24_83 {a : Nat} {j : Int32} {lv : am_L} {st : List Value} : am_W G (am_M G d) 24 K 83 lv (.int j :: .ref a :: st) h nc ns = (f_ia G d 24 K 84 lv st h nc ns (h a) .int j) := am_u e_24_83
theorem e_24_84 : pg_code 24 84 = some (.invokevirtual 74, 3, 26, 2) := by decide +kernel
theorem u_24_84 {a : Nat} {v0 : Value} {lv : am_L} {st : List Value} : am_W G (am_M G d) 24 K 84 lv (v0 :: .ref a :: st) h nc ns = ((am_words st ≤ 8 ∧ nc + 0 ≤ 0 ∧ ns + 0 ≤ 0 ∧ f_rc (h a) 5) ∧ am_M G d 26 [.ref a, v0] h (am_back 24 K (am_W G (am_M G d) 24 K) 26 84 lv st nc ns)) := (am_u e_24_84).trans (f_iv_eq (a := a) (G := G) (d := d) (k := 24) (K := K) (pc := 84) (lv := lv) (st := st) (h := h) (nc := nc) (ns := ns) (x := 26) (X := am_W G (am_M G d) 24 K) [v0] (by decide) rfl)
theorem e_24_87 : pg_code 24 87 = some (.aload_n 0, 1, 0, 0) := by decide +kernel
theorem u_24_87 {a : Nat} {lv : am_L} {st : List Value} : am_W G (am_M G d) 24 K 87 (some (.ref a) :: lv) st h nc ns = (am_W G (am_M G d) 24 K 88 (some (.ref a) :: lv) (.ref a :: st) h nc ns) := am_u e_24_87
theorem e_24_88 : pg_code 24 88 = some (.getfield 39, 3, 5, 9) := by decide +kernel
theorem u_24_88 {a : Nat} {lv : am_L} {st : List Value} : am_W G (am_M G d) 24 K 88 lv (.ref a :: st) h nc ns = (f_gf G d 24 K 91 lv st h nc ns (h a) 5 9) := am_u e_24_88
theorem e_24_91 : pg_code 24 91 = some (.iload_n 1, 1, 0, 0) := by decide +kernel
theorem u_24_91 {a : Int32} {z0 : Option Value} {lv : am_L} {st : List Value} : am_W G (am_M G d) 24 K 91 (z0 :: some (.int a) :: lv) st h nc ns = (am_W G (am_M G d) 24 K 92 (z0 :: some (.int a) :: lv) (.int a :: st) h nc ns) := am_u e_24_91
theorem e_24_92 : pg_code 24 92 = some (.laload, 1, 0, 0) := by decide +kernel
theorem u_24_92 {a : Nat} {j : Int32} {lv : am_L} {st : List Value} : am_W G (am_M G d) 24 K 92 lv (.int j :: .ref a :: st) h nc ns = (f_la G d 24 K 93 lv st h nc ns (h a) j) := am_u e_24_92
theorem e_24_93 : pg_code 24 93 = some (.lcmp, 1, 0, 0) := by decide +kernel
theorem u_24_93 {a b : Int64} {lv : am_L} {st : List Value} : am_W G (am_M G d) 24 K 93 lv (.long b :: .long a :: st) h nc ns = (am_W G (am_M G d) 24 K 94 lv (.int (lg_cmp a b) :: st) h nc ns) := am_u e_24_93
theorem e_24_94 : pg_code 24 94 = some (.ifCond .eq 7, 3, 101, 0) := by decide +kernel
theorem u_24_94 {a : Int32} {lv : am_L} {st : List Value} : am_W G (am_M G d) 24 K 94 lv (.int a :: st) h nc ns = (am_br (a = 0) (am_W G (am_M G d) 24 K 101 lv st h nc ns) (am_W G (am_M G d) 24 K 97 lv st h nc ns)) := am_u e_24_94
theorem e_24_97 : pg_code 24 97 = some (.iconst 1, 1, 0, 0) := by decide +kernel
theorem u_24_97 {lv : am_L} {st : List Value} : am_W G (am_M G d) 24 K 97 lv st h nc ns = (am_W G (am_M G d) 24 K 98 lv (.int 1 :: st) h nc ns) := am_u e_24_97
theorem e_24_98 : pg_code 24 98 = some (.goto 4, 3, 102, 0) := by decide +kernel
theorem u_24_98 {lv : am_L} {st : List Value} : am_W G (am_M G d) 24 K 98 lv st h nc ns = (am_W G (am_M G d) 24 K 102 lv st h nc ns) := am_u e_24_98
theorem e_24_101 : pg_code 24 101 = some (.iconst 0, 1, 0, 0) := by decide +kernel
theorem u_24_101 {lv : am_L} {st : List Value} : am_W G (am_M G d) 24 K 101 lv st h nc ns = (am_W G (am_M G d) 24 K 102 lv (.int 0 :: st) h nc ns) := am_u e_24_101
theorem e_24_102 : pg_code 24 102 = some (.ireturn, 1, 0, 0) := by decide +kernel
theorem u_24_102 {a : Int32} {lv : am_L} : am_W G (am_M G d) 24 K 102 lv [.int a] h nc ns = (narrow .boolean (.int a) = .int a ∧ K (.inl (some (.int a))) h) := (am_u e_24_102).trans (f_z_eq rfl)
theorem e_25_0 : pg_code 25 0 = some (.aload_n 0, 1, 0, 0) := by decide +kernel
theorem u_25_0 {a : Nat} {lv : am_L} {st : List Value} : am_W G (am_M G d) 25 K 0 (some (.ref a) :: lv) st h nc ns = (am_W G (am_M G d) 25 K 1 (some (.ref a) :: lv) (.ref a :: st) h nc ns) := am_u e_25_0
theorem e_25_1 : pg_code 25 1 = some (.getfield 9, 3, 2, 0) := by decide +kernel
theorem u_25_1 {a : Nat} {lv : am_L} {st : List Value} : am_W G (am_M G d) 25 K 1 lv (.ref a :: st) h nc ns = (f_gf G d 25 K 4 lv st h nc ns (h a) 2 0) := am_u e_25_1
theorem e_25_4 : pg_code 25 4 = some (.iload_n 1, 1, 0, 0) := by decide +kernel
theorem u_25_4 {a : Int32} {z0 : Option Value} {lv : am_L} {st : List Value} : am_W G (am_M G d) 25 K 4 (z0 :: some (.int a) :: lv) st h nc ns = (am_W G (am_M G d) 25 K 5 (z0 :: some (.int a) :: lv) (.int a :: st) h nc ns) := am_u e_25_4
theorem e_25_5 : pg_code 25 5 = some (.iaload, 1, 0, 0) := by decide +kernel
theorem u_25_5 {a : Nat} {j : Int32} {lv : am_L} {st : List Value} : am_W G (am_M G d) 25 K 5 lv (.int j :: .ref a :: st) h nc ns = (f_ia G d 25 K 6 lv st h nc ns (h a) .int j) := am_u e_25_5
theorem e_25_6 : pg_code 25 6 = some (.aload_n 2, 1, 0, 0) := by decide +kernel
theorem u_25_6 {a : Nat} {z0 : Option Value} {z1 : Option Value} {lv : am_L} {st : List Value} : am_W G (am_M G d) 25 K 6 (z0 :: z1 :: some (.ref a) :: lv) st h nc ns = (am_W G (am_M G d) 25 K 7 (z0 :: z1 :: some (.ref a) :: lv) (.ref a :: st) h nc ns) := am_u e_25_6
theorem e_25_7 : pg_code 25 7 = some (.getfield 9, 3, 2, 0) := by decide +kernel
theorem u_25_7 {a : Nat} {lv : am_L} {st : List Value} : am_W G (am_M G d) 25 K 7 lv (.ref a :: st) h nc ns = (f_gf G d 25 K 10 lv st h nc ns (h a) 2 0) := am_u e_25_7
theorem e_25_10 : pg_code 25 10 = some (.iload_n 1, 1, 0, 0) := by decide +kernel
theorem u_25_10 {a : Int32} {z0 : Option Value} {lv : am_L} {st : List Value} : am_W G (am_M G d) 25 K 10 (z0 :: some (.int a) :: lv) st h nc ns = (am_W G (am_M G d) 25 K 11 (z0 :: some (.int a) :: lv) (.int a :: st) h nc ns) := am_u e_25_10
theorem e_25_11 : pg_code 25 11 = some (.iaload, 1, 0, 0) := by decide +kernel
theorem u_25_11 {a : Nat} {j : Int32} {lv : am_L} {st : List Value} : am_W G (am_M G d) 25 K 11 lv (.int j :: .ref a :: st) h nc ns = (f_ia G d 25 K 12 lv st h nc ns (h a) .int j) := am_u e_25_11
theorem e_25_12 : pg_code 25 12 = some (.if_icmp .ne 37, 3, 49, 0) := by decide +kernel
theorem u_25_12 {a b : Int32} {lv : am_L} {st : List Value} : am_W G (am_M G d) 25 K 12 lv (.int b :: .int a :: st) h nc ns = (am_br (¬ a = b) (am_W G (am_M G d) 25 K 49 lv st h nc ns) (am_W G (am_M G d) 25 K 15 lv st h nc ns)) := am_u e_25_12
theorem e_25_15 : pg_code 25 15 = some (.aload_n 0, 1, 0, 0) := by decide +kernel
theorem u_25_15 {a : Nat} {lv : am_L} {st : List Value} : am_W G (am_M G d) 25 K 15 (some (.ref a) :: lv) st h nc ns = (am_W G (am_M G d) 25 K 16 (some (.ref a) :: lv) (.ref a :: st) h nc ns) := am_u e_25_15
theorem e_25_16 : pg_code 25 16 = some (.getfield 15, 3, 2, 1) := by decide +kernel
theorem u_25_16 {a : Nat} {lv : am_L} {st : List Value} : am_W G (am_M G d) 25 K 16 lv (.ref a :: st) h nc ns = (f_gf G d 25 K 19 lv st h nc ns (h a) 2 1) := am_u e_25_16
theorem e_25_19 : pg_code 25 19 = some (.iload_n 1, 1, 0, 0) := by decide +kernel
theorem u_25_19 {a : Int32} {z0 : Option Value} {lv : am_L} {st : List Value} : am_W G (am_M G d) 25 K 19 (z0 :: some (.int a) :: lv) st h nc ns = (am_W G (am_M G d) 25 K 20 (z0 :: some (.int a) :: lv) (.int a :: st) h nc ns) := am_u e_25_19
theorem e_25_20 : pg_code 25 20 = some (.iaload, 1, 0, 0) := by decide +kernel
theorem u_25_20 {a : Nat} {j : Int32} {lv : am_L} {st : List Value} : am_W G (am_M G d) 25 K 20 lv (.int j :: .ref a :: st) h nc ns = (f_ia G d 25 K 21 lv st h nc ns (h a) .int j) := am_u e_25_20
theorem e_25_21 : pg_code 25 21 = some (.aload_n 2, 1, 0, 0) := by decide +kernel
theorem u_25_21 {a : Nat} {z0 : Option Value} {z1 : Option Value} {lv : am_L} {st : List Value} : am_W G (am_M G d) 25 K 21 (z0 :: z1 :: some (.ref a) :: lv) st h nc ns = (am_W G (am_M G d) 25 K 22 (z0 :: z1 :: some (.ref a) :: lv) (.ref a :: st) h nc ns) := am_u e_25_21
theorem e_25_22 : pg_code 25 22 = some (.getfield 15, 3, 2, 1) := by decide +kernel
theorem u_25_22 {a : Nat} {lv : am_L} {st : List Value} : am_W G (am_M G d) 25 K 22 lv (.ref a :: st) h nc ns = (f_gf G d 25 K 25 lv st h nc ns (h a) 2 1) := am_u e_25_22
theorem e_25_25 : pg_code 25 25 = some (.iload_n 1, 1, 0, 0) := by decide +kernel
theorem u_25_25 {a : Int32} {z0 : Option Value} {lv : am_L} {st : List Value} : am_W G (am_M G d) 25 K 25 (z0 :: some (.int a) :: lv) st h nc ns = (am_W G (am_M G d) 25 K 26 (z0 :: some (.int a) :: lv) (.int a :: st) h nc ns) := am_u e_25_25
theorem e_25_26 : pg_code 25 26 = some (.iaload, 1, 0, 0) := by decide +kernel
theorem u_25_26 {a : Nat} {j : Int32} {lv : am_L} {st : List Value} : am_W G (am_M G d) 25 K 26 lv (.int j :: .ref a :: st) h nc ns = (f_ia G d 25 K 27 lv st h nc ns (h a) .int j) := am_u e_25_26
theorem e_25_27 : pg_code 25 27 = some (.if_icmp .ne 22, 3, 49, 0) := by decide +kernel
theorem u_25_27 {a b : Int32} {lv : am_L} {st : List Value} : am_W G (am_M G d) 25 K 27 lv (.int b :: .int a :: st) h nc ns = (am_br (¬ a = b) (am_W G (am_M G d) 25 K 49 lv st h nc ns) (am_W G (am_M G d) 25 K 30 lv st h nc ns)) := am_u e_25_27
theorem e_25_30 : pg_code 25 30 = some (.aload_n 0, 1, 0, 0) := by decide +kernel
theorem u_25_30 {a : Nat} {lv : am_L} {st : List Value} : am_W G (am_M G d) 25 K 30 (some (.ref a) :: lv) st h nc ns = (am_W G (am_M G d) 25 K 31 (some (.ref a) :: lv) (.ref a :: st) h nc ns) := am_u e_25_30
theorem e_25_31 : pg_code 25 31 = some (.getfield 18, 3, 2, 2) := by decide +kernel
theorem u_25_31 {a : Nat} {lv : am_L} {st : List Value} : am_W G (am_M G d) 25 K 31 lv (.ref a :: st) h nc ns = (f_gf G d 25 K 34 lv st h nc ns (h a) 2 2) := am_u e_25_31
theorem e_25_34 : pg_code 25 34 = some (.iload_n 1, 1, 0, 0) := by decide +kernel
theorem u_25_34 {a : Int32} {z0 : Option Value} {lv : am_L} {st : List Value} : am_W G (am_M G d) 25 K 34 (z0 :: some (.int a) :: lv) st h nc ns = (am_W G (am_M G d) 25 K 35 (z0 :: some (.int a) :: lv) (.int a :: st) h nc ns) := am_u e_25_34
theorem e_25_35 : pg_code 25 35 = some (.iaload, 1, 0, 0) := by decide +kernel
theorem u_25_35 {a : Nat} {j : Int32} {lv : am_L} {st : List Value} : am_W G (am_M G d) 25 K 35 lv (.int j :: .ref a :: st) h nc ns = (f_ia G d 25 K 36 lv st h nc ns (h a) .int j) := am_u e_25_35
theorem e_25_36 : pg_code 25 36 = some (.aload_n 2, 1, 0, 0) := by decide +kernel
theorem u_25_36 {a : Nat} {z0 : Option Value} {z1 : Option Value} {lv : am_L} {st : List Value} : am_W G (am_M G d) 25 K 36 (z0 :: z1 :: some (.ref a) :: lv) st h nc ns = (am_W G (am_M G d) 25 K 37 (z0 :: z1 :: some (.ref a) :: lv) (.ref a :: st) h nc ns) := am_u e_25_36
theorem e_25_37 : pg_code 25 37 = some (.getfield 18, 3, 2, 2) := by decide +kernel
theorem u_25_37 {a : Nat} {lv : am_L} {st : List Value} : am_W G (am_M G d) 25 K 37 lv (.ref a :: st) h nc ns = (f_gf G d 25 K 40 lv st h nc ns (h a) 2 2) := am_u e_25_37
theorem e_25_40 : pg_code 25 40 = some (.iload_n 1, 1, 0, 0) := by decide +kernel
theorem u_25_40 {a : Int32} {z0 : Option Value} {lv : am_L} {st : List Value} : am_W G (am_M G d) 25 K 40 (z0 :: some (.int a) :: lv) st h nc ns = (am_W G (am_M G d) 25 K 41 (z0 :: some (.int a) :: lv) (.int a :: st) h nc ns) := am_u e_25_40
theorem e_25_41 : pg_code 25 41 = some (.iaload, 1, 0, 0) := by decide +kernel
theorem u_25_41 {a : Nat} {j : Int32} {lv : am_L} {st : List Value} : am_W G (am_M G d) 25 K 41 lv (.int j :: .ref a :: st) h nc ns = (f_ia G d 25 K 42 lv st h nc ns (h a) .int j) := am_u e_25_41
theorem e_25_42 : pg_code 25 42 = some (.if_icmp .ne 7, 3, 49, 0) := by decide +kernel
theorem u_25_42 {a b : Int32} {lv : am_L} {st : List Value} : am_W G (am_M G d) 25 K 42 lv (.int b :: .int a :: st) h nc ns = (am_br (¬ a = b) (am_W G (am_M G d) 25 K 49 lv st h nc ns) (am_W G (am_M G d) 25 K 45 lv st h nc ns)) := am_u e_25_42
theorem e_25_45 : pg_code 25 45 = some (.iconst 1, 1, 0, 0) := by decide +kernel
theorem u_25_45 {lv : am_L} {st : List Value} : am_W G (am_M G d) 25 K 45 lv st h nc ns = (am_W G (am_M G d) 25 K 46 lv (.int 1 :: st) h nc ns) := am_u e_25_45
theorem e_25_46 : pg_code 25 46 = some (.goto 4, 3, 50, 0) := by decide +kernel
theorem u_25_46 {lv : am_L} {st : List Value} : am_W G (am_M G d) 25 K 46 lv st h nc ns = (am_W G (am_M G d) 25 K 50 lv st h nc ns) := am_u e_25_46
theorem e_25_49 : pg_code 25 49 = some (.iconst 0, 1, 0, 0) := by decide +kernel
theorem u_25_49 {lv : am_L} {st : List Value} : am_W G (am_M G d) 25 K 49 lv st h nc ns = (am_W G (am_M G d) 25 K 50 lv (.int 0 :: st) h nc ns) := am_u e_25_49
theorem e_25_50 : pg_code 25 50 = some (.ireturn, 1, 0, 0) := by decide +kernel
theorem u_25_50 {a : Int32} {lv : am_L} : am_W G (am_M G d) 25 K 50 lv [.int a] h nc ns = (narrow .boolean (.int a) = .int a ∧ K (.inl (some (.int a))) h) := (am_u e_25_50).trans (f_z_eq rfl)
theorem e_26_0 : pg_code 26 0 = some (.iload_n 1, 1, 0, 0) := by decide +kernel
theorem u_26_0 {a : Int32} {z0 : Option Value} {lv : am_L} {st : List Value} : am_W G (am_M G d) 26 K 0 (z0 :: some (.int a) :: lv) st h nc ns = (am_W G (am_M G d) 26 K 1 (z0 :: some (.int a) :: lv) (.int a :: st) h nc ns) := am_u e_26_0
theorem e_26_1 : pg_code 26 1 = some (.ifCond .ge 14, 3, 15, 0) := by decide +kernel
theorem u_26_1 {a : Int32} {lv : am_L} {st : List Value} : am_W G (am_M G d) 26 K 1 lv (.int a :: st) h nc ns = (am_br (0 ≤ a) (am_W G (am_M G d) 26 K 15 lv st h nc ns) (am_W G (am_M G d) 26 K 4 lv st h nc ns)) := am_u e_26_1
theorem e_26_4 : pg_code 26 4 = some (.aload_n 0, 1, 0, 0) := by decide +kernel
theorem u_26_4 {a : Nat} {lv : am_L} {st : List Value} : am_W G (am_M G d) 26 K 4 (some (.ref a) :: lv) st h nc ns = (am_W G (am_M G d) 26 K 5 (some (.ref a) :: lv) (.ref a :: st) h nc ns) := am_u e_26_4
theorem e_26_5 : pg_code 26 5 = some (.getfield 9, 3, 5, 1) := by decide +kernel
theorem u_26_5 {a : Nat} {lv : am_L} {st : List Value} : am_W G (am_M G d) 26 K 5 lv (.ref a :: st) h nc ns = (f_gf G d 26 K 8 lv st h nc ns (h a) 5 1) := am_u e_26_5
theorem e_26_8 : pg_code 26 8 = some (.iconst (-1), 1, 0, 0) := by decide +kernel
theorem u_26_8 {lv : am_L} {st : List Value} : am_W G (am_M G d) 26 K 8 lv st h nc ns = (am_W G (am_M G d) 26 K 9 lv (.int (-1) :: st) h nc ns) := am_u e_26_8
theorem e_26_9 : pg_code 26 9 = some (.iload_n 1, 1, 0, 0) := by decide +kernel
theorem u_26_9 {a : Int32} {z0 : Option Value} {lv : am_L} {st : List Value} : am_W G (am_M G d) 26 K 9 (z0 :: some (.int a) :: lv) st h nc ns = (am_W G (am_M G d) 26 K 10 (z0 :: some (.int a) :: lv) (.int a :: st) h nc ns) := am_u e_26_9
theorem e_26_10 : pg_code 26 10 = some (.isub, 1, 0, 0) := by decide +kernel
theorem u_26_10 {a b : Int32} {lv : am_L} {st : List Value} : am_W G (am_M G d) 26 K 10 lv (.int b :: .int a :: st) h nc ns = (am_W G (am_M G d) 26 K 11 lv (.int (a - b) :: st) h nc ns) := am_u e_26_10
theorem e_26_11 : pg_code 26 11 = some (.laload, 1, 0, 0) := by decide +kernel
theorem u_26_11 {a : Nat} {j : Int32} {lv : am_L} {st : List Value} : am_W G (am_M G d) 26 K 11 lv (.int j :: .ref a :: st) h nc ns = (f_la G d 26 K 12 lv st h nc ns (h a) j) := am_u e_26_11
theorem e_26_12 : pg_code 26 12 = some (.goto 9, 3, 21, 0) := by decide +kernel
theorem u_26_12 {lv : am_L} {st : List Value} : am_W G (am_M G d) 26 K 12 lv st h nc ns = (am_W G (am_M G d) 26 K 21 lv st h nc ns) := am_u e_26_12
theorem e_26_15 : pg_code 26 15 = some (.aload_n 0, 1, 0, 0) := by decide +kernel
theorem u_26_15 {a : Nat} {lv : am_L} {st : List Value} : am_W G (am_M G d) 26 K 15 (some (.ref a) :: lv) st h nc ns = (am_W G (am_M G d) 26 K 16 (some (.ref a) :: lv) (.ref a :: st) h nc ns) := am_u e_26_15
theorem e_26_16 : pg_code 26 16 = some (.getfield 23, 3, 5, 5) := by decide +kernel
theorem u_26_16 {a : Nat} {lv : am_L} {st : List Value} : am_W G (am_M G d) 26 K 16 lv (.ref a :: st) h nc ns = (f_gf G d 26 K 19 lv st h nc ns (h a) 5 5) := am_u e_26_16
theorem e_26_19 : pg_code 26 19 = some (.iload_n 1, 1, 0, 0) := by decide +kernel
theorem u_26_19 {a : Int32} {z0 : Option Value} {lv : am_L} {st : List Value} : am_W G (am_M G d) 26 K 19 (z0 :: some (.int a) :: lv) st h nc ns = (am_W G (am_M G d) 26 K 20 (z0 :: some (.int a) :: lv) (.int a :: st) h nc ns) := am_u e_26_19
theorem e_26_20 : pg_code 26 20 = some (.laload, 1, 0, 0) := by decide +kernel
theorem u_26_20 {a : Nat} {j : Int32} {lv : am_L} {st : List Value} : am_W G (am_M G d) 26 K 20 lv (.int j :: .ref a :: st) h nc ns = (f_la G d 26 K 21 lv st h nc ns (h a) j) := am_u e_26_20
theorem e_26_21 : pg_code 26 21 = some (.lreturn, 1, 0, 0) := by decide +kernel
theorem u_26_21 {a : Int64} {lv : am_L} : am_W G (am_M G d) 26 K 21 lv [.long a] h nc ns = (K (.inl (some (.long a))) h) := (am_u e_26_21).trans (f_t ⟨rfl, rfl⟩)
theorem e_27_0 : pg_code 27 0 = some (.aload_n 0, 1, 0, 0) := by decide +kernel
theorem u_27_0 {a : Nat} {lv : am_L} {st : List Value} : am_W G (am_M G d) 27 K 0 (some (.ref a) :: lv) st h nc ns = (am_W G (am_M G d) 27 K 1 (some (.ref a) :: lv) (.ref a :: st) h nc ns) := am_u e_27_0
theorem e_27_1 : pg_code 27 1 = some (.getfield 42, 3, 5, 0) := by decide +kernel
theorem u_27_1 {a : Nat} {lv : am_L} {st : List Value} : am_W G (am_M G d) 27 K 1 lv (.ref a :: st) h nc ns = (f_gf G d 27 K 4 lv st h nc ns (h a) 5 0) := am_u e_27_1
theorem e_27_4 : pg_code 27 4 = some (.getfield 78, 3, 2, 0) := by decide +kernel
theorem u_27_4 {a : Nat} {lv : am_L} {st : List Value} : am_W G (am_M G d) 27 K 4 lv (.ref a :: st) h nc ns = (f_gf G d 27 K 7 lv st h nc ns (h a) 2 0) := am_u e_27_4
theorem e_27_7 : pg_code 27 7 = some (.iload_n 1, 1, 0, 0) := by decide +kernel
theorem u_27_7 {a : Int32} {z0 : Option Value} {lv : am_L} {st : List Value} : am_W G (am_M G d) 27 K 7 (z0 :: some (.int a) :: lv) st h nc ns = (am_W G (am_M G d) 27 K 8 (z0 :: some (.int a) :: lv) (.int a :: st) h nc ns) := am_u e_27_7
theorem e_27_8 : pg_code 27 8 = some (.iaload, 1, 0, 0) := by decide +kernel
theorem u_27_8 {a : Nat} {j : Int32} {lv : am_L} {st : List Value} : am_W G (am_M G d) 27 K 8 lv (.int j :: .ref a :: st) h nc ns = (f_ia G d 27 K 9 lv st h nc ns (h a) .int j) := am_u e_27_8
theorem e_27_9 : pg_code 27 9 = some (.istore_n 2, 1, 0, 0) := by decide +kernel
theorem u_27_9 {a : Int32} {lv : am_L} {st : List Value} : am_W G (am_M G d) 27 K 9 lv (.int a :: st) h nc ns = (am_W G (am_M G d) 27 K 10 (am_st1 lv 2 (.int a)) st h nc ns) := (am_u e_27_9).trans (f_t (by decide +kernel))
theorem e_27_10 : pg_code 27 10 = some (.aload_n 0, 1, 0, 0) := by decide +kernel
theorem u_27_10 {a : Nat} {lv : am_L} {st : List Value} : am_W G (am_M G d) 27 K 10 (some (.ref a) :: lv) st h nc ns = (am_W G (am_M G d) 27 K 11 (some (.ref a) :: lv) (.ref a :: st) h nc ns) := am_u e_27_10
theorem e_27_11 : pg_code 27 11 = some (.aload_n 0, 1, 0, 0) := by decide +kernel
theorem u_27_11 {a : Nat} {lv : am_L} {st : List Value} : am_W G (am_M G d) 27 K 11 (some (.ref a) :: lv) st h nc ns = (am_W G (am_M G d) 27 K 12 (some (.ref a) :: lv) (.ref a :: st) h nc ns) := am_u e_27_11
theorem e_27_12 : pg_code 27 12 = some (.getfield 42, 3, 5, 0) := by decide +kernel
theorem u_27_12 {a : Nat} {lv : am_L} {st : List Value} : am_W G (am_M G d) 27 K 12 lv (.ref a :: st) h nc ns = (f_gf G d 27 K 15 lv st h nc ns (h a) 5 0) := am_u e_27_12
theorem e_27_15 : pg_code 27 15 = some (.getfield 60, 3, 2, 1) := by decide +kernel
theorem u_27_15 {a : Nat} {lv : am_L} {st : List Value} : am_W G (am_M G d) 27 K 15 lv (.ref a :: st) h nc ns = (f_gf G d 27 K 18 lv st h nc ns (h a) 2 1) := am_u e_27_15
theorem e_27_18 : pg_code 27 18 = some (.iload_n 1, 1, 0, 0) := by decide +kernel
theorem u_27_18 {a : Int32} {z0 : Option Value} {lv : am_L} {st : List Value} : am_W G (am_M G d) 27 K 18 (z0 :: some (.int a) :: lv) st h nc ns = (am_W G (am_M G d) 27 K 19 (z0 :: some (.int a) :: lv) (.int a :: st) h nc ns) := am_u e_27_18
theorem e_27_19 : pg_code 27 19 = some (.iaload, 1, 0, 0) := by decide +kernel
theorem u_27_19 {a : Nat} {j : Int32} {lv : am_L} {st : List Value} : am_W G (am_M G d) 27 K 19 lv (.int j :: .ref a :: st) h nc ns = (f_ia G d 27 K 20 lv st h nc ns (h a) .int j) := am_u e_27_19
theorem e_27_20 : pg_code 27 20 = some (.invokevirtual 74, 3, 26, 2) := by decide +kernel
theorem u_27_20 {a : Nat} {v0 : Value} {lv : am_L} {st : List Value} : am_W G (am_M G d) 27 K 20 lv (v0 :: .ref a :: st) h nc ns = ((am_words st ≤ 8 ∧ nc + 0 ≤ 0 ∧ ns + 0 ≤ 0 ∧ f_rc (h a) 5) ∧ am_M G d 26 [.ref a, v0] h (am_back 27 K (am_W G (am_M G d) 27 K) 26 20 lv st nc ns)) := (am_u e_27_20).trans (f_iv_eq (a := a) (G := G) (d := d) (k := 27) (K := K) (pc := 20) (lv := lv) (st := st) (h := h) (nc := nc) (ns := ns) (x := 26) (X := am_W G (am_M G d) 27 K) [v0] (by decide) rfl)
theorem e_27_23 : pg_code 27 23 = some (.lstore_n 3, 1, 0, 0) := by decide +kernel
theorem u_27_23 {a : Int64} {lv : am_L} {st : List Value} : am_W G (am_M G d) 27 K 23 lv (.long a :: st) h nc ns = (am_W G (am_M G d) 27 K 24 (am_st2 lv 3 (.long a)) st h nc ns) := (am_u e_27_23).trans (f_t (by decide +kernel))
theorem e_27_24 : pg_code 27 24 = some (.aload_n 0, 1, 0, 0) := by decide +kernel
theorem u_27_24 {a : Nat} {lv : am_L} {st : List Value} : am_W G (am_M G d) 27 K 24 (some (.ref a) :: lv) st h nc ns = (am_W G (am_M G d) 27 K 25 (some (.ref a) :: lv) (.ref a :: st) h nc ns) := am_u e_27_24
theorem e_27_25 : pg_code 27 25 = some (.aload_n 0, 1, 0, 0) := by decide +kernel
theorem u_27_25 {a : Nat} {lv : am_L} {st : List Value} : am_W G (am_M G d) 27 K 25 (some (.ref a) :: lv) st h nc ns = (am_W G (am_M G d) 27 K 26 (some (.ref a) :: lv) (.ref a :: st) h nc ns) := am_u e_27_25
theorem e_27_26 : pg_code 27 26 = some (.getfield 42, 3, 5, 0) := by decide +kernel
theorem u_27_26 {a : Nat} {lv : am_L} {st : List Value} : am_W G (am_M G d) 27 K 26 lv (.ref a :: st) h nc ns = (f_gf G d 27 K 29 lv st h nc ns (h a) 5 0) := am_u e_27_26
theorem e_27_29 : pg_code 27 29 = some (.getfield 67, 3, 2, 2) := by decide +kernel
theorem u_27_29 {a : Nat} {lv : am_L} {st : List Value} : am_W G (am_M G d) 27 K 29 lv (.ref a :: st) h nc ns = (f_gf G d 27 K 32 lv st h nc ns (h a) 2 2) := am_u e_27_29
theorem e_27_32 : pg_code 27 32 = some (.iload_n 1, 1, 0, 0) := by decide +kernel
theorem u_27_32 {a : Int32} {z0 : Option Value} {lv : am_L} {st : List Value} : am_W G (am_M G d) 27 K 32 (z0 :: some (.int a) :: lv) st h nc ns = (am_W G (am_M G d) 27 K 33 (z0 :: some (.int a) :: lv) (.int a :: st) h nc ns) := am_u e_27_32
theorem e_27_33 : pg_code 27 33 = some (.iaload, 1, 0, 0) := by decide +kernel
theorem u_27_33 {a : Nat} {j : Int32} {lv : am_L} {st : List Value} : am_W G (am_M G d) 27 K 33 lv (.int j :: .ref a :: st) h nc ns = (f_ia G d 27 K 34 lv st h nc ns (h a) .int j) := am_u e_27_33
theorem e_27_34 : pg_code 27 34 = some (.invokevirtual 74, 3, 26, 2) := by decide +kernel
theorem u_27_34 {a : Nat} {v0 : Value} {lv : am_L} {st : List Value} : am_W G (am_M G d) 27 K 34 lv (v0 :: .ref a :: st) h nc ns = ((am_words st ≤ 8 ∧ nc + 0 ≤ 0 ∧ ns + 0 ≤ 0 ∧ f_rc (h a) 5) ∧ am_M G d 26 [.ref a, v0] h (am_back 27 K (am_W G (am_M G d) 27 K) 26 34 lv st nc ns)) := (am_u e_27_34).trans (f_iv_eq (a := a) (G := G) (d := d) (k := 27) (K := K) (pc := 34) (lv := lv) (st := st) (h := h) (nc := nc) (ns := ns) (x := 26) (X := am_W G (am_M G d) 27 K) [v0] (by decide) rfl)
theorem e_27_37 : pg_code 27 37 = some (.lstore 5, 2, 0, 0) := by decide +kernel
theorem u_27_37 {a : Int64} {lv : am_L} {st : List Value} : am_W G (am_M G d) 27 K 37 lv (.long a :: st) h nc ns = (am_W G (am_M G d) 27 K 39 (am_st2 lv 5 (.long a)) st h nc ns) := (am_u e_27_37).trans (f_t (by decide +kernel))
theorem e_27_39 : pg_code 27 39 = some (.aload_n 0, 1, 0, 0) := by decide +kernel
theorem u_27_39 {a : Nat} {lv : am_L} {st : List Value} : am_W G (am_M G d) 27 K 39 (some (.ref a) :: lv) st h nc ns = (am_W G (am_M G d) 27 K 40 (some (.ref a) :: lv) (.ref a :: st) h nc ns) := am_u e_27_39
theorem e_27_40 : pg_code 27 40 = some (.getfield 29, 3, 5, 6) := by decide +kernel
theorem u_27_40 {a : Nat} {lv : am_L} {st : List Value} : am_W G (am_M G d) 27 K 40 lv (.ref a :: st) h nc ns = (f_gf G d 27 K 43 lv st h nc ns (h a) 5 6) := am_u e_27_40
theorem e_27_43 : pg_code 27 43 = some (.iload_n 1, 1, 0, 0) := by decide +kernel
theorem u_27_43 {a : Int32} {z0 : Option Value} {lv : am_L} {st : List Value} : am_W G (am_M G d) 27 K 43 (z0 :: some (.int a) :: lv) st h nc ns = (am_W G (am_M G d) 27 K 44 (z0 :: some (.int a) :: lv) (.int a :: st) h nc ns) := am_u e_27_43
theorem e_27_44 : pg_code 27 44 = some (.aload_n 0, 1, 0, 0) := by decide +kernel
theorem u_27_44 {a : Nat} {lv : am_L} {st : List Value} : am_W G (am_M G d) 27 K 44 (some (.ref a) :: lv) st h nc ns = (am_W G (am_M G d) 27 K 45 (some (.ref a) :: lv) (.ref a :: st) h nc ns) := am_u e_27_44
theorem e_27_45 : pg_code 27 45 = some (.getfield 42, 3, 5, 0) := by decide +kernel
theorem u_27_45 {a : Nat} {lv : am_L} {st : List Value} : am_W G (am_M G d) 27 K 45 lv (.ref a :: st) h nc ns = (f_gf G d 27 K 48 lv st h nc ns (h a) 5 0) := am_u e_27_45
theorem e_27_48 : pg_code 27 48 = some (.invokevirtual 81, 3, 28, 3) := by decide +kernel
theorem u_27_48 {a : Nat} {v0 v1 : Value} {lv : am_L} {st : List Value} : am_W G (am_M G d) 27 K 48 lv (v1 :: v0 :: .ref a :: st) h nc ns = ((am_words st ≤ 8 ∧ nc + 0 ≤ 0 ∧ ns + 0 ≤ 0 ∧ f_rc (h a) 2) ∧ am_M G d 28 [.ref a, v0, v1] h (am_back 27 K (am_W G (am_M G d) 27 K) 28 48 lv st nc ns)) := (am_u e_27_48).trans (f_iv_eq (a := a) (G := G) (d := d) (k := 27) (K := K) (pc := 48) (lv := lv) (st := st) (h := h) (nc := nc) (ns := ns) (x := 28) (X := am_W G (am_M G d) 27 K) [v0, v1] (by decide) rfl)
theorem e_27_51 : pg_code 27 51 = some (.aload_n 0, 1, 0, 0) := by decide +kernel
theorem u_27_51 {a : Nat} {lv : am_L} {st : List Value} : am_W G (am_M G d) 27 K 51 (some (.ref a) :: lv) st h nc ns = (am_W G (am_M G d) 27 K 52 (some (.ref a) :: lv) (.ref a :: st) h nc ns) := am_u e_27_51
theorem e_27_52 : pg_code 27 52 = some (.getfield 33, 3, 5, 7) := by decide +kernel
theorem u_27_52 {a : Nat} {lv : am_L} {st : List Value} : am_W G (am_M G d) 27 K 52 lv (.ref a :: st) h nc ns = (f_gf G d 27 K 55 lv st h nc ns (h a) 5 7) := am_u e_27_52
theorem e_27_55 : pg_code 27 55 = some (.iload_n 1, 1, 0, 0) := by decide +kernel
theorem u_27_55 {a : Int32} {z0 : Option Value} {lv : am_L} {st : List Value} : am_W G (am_M G d) 27 K 55 (z0 :: some (.int a) :: lv) st h nc ns = (am_W G (am_M G d) 27 K 56 (z0 :: some (.int a) :: lv) (.int a :: st) h nc ns) := am_u e_27_55
theorem e_27_56 : pg_code 27 56 = some (.aload_n 0, 1, 0, 0) := by decide +kernel
theorem u_27_56 {a : Nat} {lv : am_L} {st : List Value} : am_W G (am_M G d) 27 K 56 (some (.ref a) :: lv) st h nc ns = (am_W G (am_M G d) 27 K 57 (some (.ref a) :: lv) (.ref a :: st) h nc ns) := am_u e_27_56
theorem e_27_57 : pg_code 27 57 = some (.getfield 15, 3, 5, 3) := by decide +kernel
theorem u_27_57 {a : Nat} {lv : am_L} {st : List Value} : am_W G (am_M G d) 27 K 57 lv (.ref a :: st) h nc ns = (f_gf G d 27 K 60 lv st h nc ns (h a) 5 3) := am_u e_27_57
theorem e_27_60 : pg_code 27 60 = some (.iload_n 1, 1, 0, 0) := by decide +kernel
theorem u_27_60 {a : Int32} {z0 : Option Value} {lv : am_L} {st : List Value} : am_W G (am_M G d) 27 K 60 (z0 :: some (.int a) :: lv) st h nc ns = (am_W G (am_M G d) 27 K 61 (z0 :: some (.int a) :: lv) (.int a :: st) h nc ns) := am_u e_27_60
theorem e_27_61 : pg_code 27 61 = some (.baload, 1, 0, 0) := by decide +kernel
theorem u_27_61 {a : Nat} {j : Int32} {lv : am_L} {st : List Value} : am_W G (am_M G d) 27 K 61 lv (.int j :: .ref a :: st) h nc ns = (f_ia G d 27 K 62 lv st h nc ns (h a) .boolean j) := am_u e_27_61
theorem e_27_62 : pg_code 27 62 = some (.bastore, 1, 0, 0) := by decide +kernel
theorem u_27_62 {a : Nat} {j b : Int32} {lv : am_L} {st : List Value} : am_W G (am_M G d) 27 K 62 lv (.int b :: .int j :: .ref a :: st) h nc ns = (f_is G d 27 K 63 lv st h nc ns (h a) .boolean a j (vp_nar .boolean b)) := am_u e_27_62
theorem e_27_63 : pg_code 27 63 = some (.aload_n 0, 1, 0, 0) := by decide +kernel
theorem u_27_63 {a : Nat} {lv : am_L} {st : List Value} : am_W G (am_M G d) 27 K 63 (some (.ref a) :: lv) st h nc ns = (am_W G (am_M G d) 27 K 64 (some (.ref a) :: lv) (.ref a :: st) h nc ns) := am_u e_27_63
theorem e_27_64 : pg_code 27 64 = some (.getfield 36, 3, 5, 8) := by decide +kernel
theorem u_27_64 {a : Nat} {lv : am_L} {st : List Value} : am_W G (am_M G d) 27 K 64 lv (.ref a :: st) h nc ns = (f_gf G d 27 K 67 lv st h nc ns (h a) 5 8) := am_u e_27_64
theorem e_27_67 : pg_code 27 67 = some (.iload_n 1, 1, 0, 0) := by decide +kernel
theorem u_27_67 {a : Int32} {z0 : Option Value} {lv : am_L} {st : List Value} : am_W G (am_M G d) 27 K 67 (z0 :: some (.int a) :: lv) st h nc ns = (am_W G (am_M G d) 27 K 68 (z0 :: some (.int a) :: lv) (.int a :: st) h nc ns) := am_u e_27_67
theorem e_27_68 : pg_code 27 68 = some (.lload_n 3, 1, 0, 0) := by decide +kernel
theorem u_27_68 {a : Int64} {z0 : Option Value} {z1 : Option Value} {z2 : Option Value} {lv : am_L} {st : List Value} : am_W G (am_M G d) 27 K 68 (z0 :: z1 :: z2 :: some (.long a) :: lv) st h nc ns = (am_W G (am_M G d) 27 K 69 (z0 :: z1 :: z2 :: some (.long a) :: lv) (.long a :: st) h nc ns) := am_u e_27_68
theorem e_27_69 : pg_code 27 69 = some (.lastore, 1, 0, 0) := by decide +kernel
theorem u_27_69 {a : Nat} {j : Int32} {b : Int64} {lv : am_L} {st : List Value} : am_W G (am_M G d) 27 K 69 lv (.long b :: .int j :: .ref a :: st) h nc ns = (f_ls G d 27 K 70 lv st h nc ns (h a) a j b) := am_u e_27_69
theorem e_27_70 : pg_code 27 70 = some (.aload_n 0, 1, 0, 0) := by decide +kernel
theorem u_27_70 {a : Nat} {lv : am_L} {st : List Value} : am_W G (am_M G d) 27 K 70 (some (.ref a) :: lv) st h nc ns = (am_W G (am_M G d) 27 K 71 (some (.ref a) :: lv) (.ref a :: st) h nc ns) := am_u e_27_70
theorem e_27_71 : pg_code 27 71 = some (.getfield 39, 3, 5, 9) := by decide +kernel
theorem u_27_71 {a : Nat} {lv : am_L} {st : List Value} : am_W G (am_M G d) 27 K 71 lv (.ref a :: st) h nc ns = (f_gf G d 27 K 74 lv st h nc ns (h a) 5 9) := am_u e_27_71
theorem e_27_74 : pg_code 27 74 = some (.iload_n 1, 1, 0, 0) := by decide +kernel
theorem u_27_74 {a : Int32} {z0 : Option Value} {lv : am_L} {st : List Value} : am_W G (am_M G d) 27 K 74 (z0 :: some (.int a) :: lv) st h nc ns = (am_W G (am_M G d) 27 K 75 (z0 :: some (.int a) :: lv) (.int a :: st) h nc ns) := am_u e_27_74
theorem e_27_75 : pg_code 27 75 = some (.lload 5, 2, 0, 0) := by decide +kernel
theorem u_27_75 {a : Int64} {z0 : Option Value} {z1 : Option Value} {z2 : Option Value} {z3 : Option Value} {z4 : Option Value} {lv : am_L} {st : List Value} : am_W G (am_M G d) 27 K 75 (z0 :: z1 :: z2 :: z3 :: z4 :: some (.long a) :: lv) st h nc ns = (am_W G (am_M G d) 27 K 77 (z0 :: z1 :: z2 :: z3 :: z4 :: some (.long a) :: lv) (.long a :: st) h nc ns) := am_u e_27_75
theorem e_27_77 : pg_code 27 77 = some (.lastore, 1, 0, 0) := by decide +kernel
theorem u_27_77 {a : Nat} {j : Int32} {b : Int64} {lv : am_L} {st : List Value} : am_W G (am_M G d) 27 K 77 lv (.long b :: .int j :: .ref a :: st) h nc ns = (f_ls G d 27 K 78 lv st h nc ns (h a) a j b) := am_u e_27_77
theorem e_27_78 : pg_code 27 78 = some (.aload_n 0, 1, 0, 0) := by decide +kernel
theorem u_27_78 {a : Nat} {lv : am_L} {st : List Value} : am_W G (am_M G d) 27 K 78 (some (.ref a) :: lv) st h nc ns = (am_W G (am_M G d) 27 K 79 (some (.ref a) :: lv) (.ref a :: st) h nc ns) := am_u e_27_78
theorem e_27_79 : pg_code 27 79 = some (.getfield 15, 3, 5, 3) := by decide +kernel
theorem u_27_79 {a : Nat} {lv : am_L} {st : List Value} : am_W G (am_M G d) 27 K 79 lv (.ref a :: st) h nc ns = (f_gf G d 27 K 82 lv st h nc ns (h a) 5 3) := am_u e_27_79
theorem e_27_82 : pg_code 27 82 = some (.iload_n 1, 1, 0, 0) := by decide +kernel
theorem u_27_82 {a : Int32} {z0 : Option Value} {lv : am_L} {st : List Value} : am_W G (am_M G d) 27 K 82 (z0 :: some (.int a) :: lv) st h nc ns = (am_W G (am_M G d) 27 K 83 (z0 :: some (.int a) :: lv) (.int a :: st) h nc ns) := am_u e_27_82
theorem e_27_83 : pg_code 27 83 = some (.baload, 1, 0, 0) := by decide +kernel
theorem u_27_83 {a : Nat} {j : Int32} {lv : am_L} {st : List Value} : am_W G (am_M G d) 27 K 83 lv (.int j :: .ref a :: st) h nc ns = (f_ia G d 27 K 84 lv st h nc ns (h a) .boolean j) := am_u e_27_83
theorem e_27_84 : pg_code 27 84 = some (.ifCond .ne 15, 3, 99, 0) := by decide +kernel
theorem u_27_84 {a : Int32} {lv : am_L} {st : List Value} : am_W G (am_M G d) 27 K 84 lv (.int a :: st) h nc ns = (am_br (¬ a = 0) (am_W G (am_M G d) 27 K 99 lv st h nc ns) (am_W G (am_M G d) 27 K 87 lv st h nc ns)) := am_u e_27_84
theorem e_27_87 : pg_code 27 87 = some (.iload_n 2, 1, 0, 0) := by decide +kernel
theorem u_27_87 {a : Int32} {z0 : Option Value} {z1 : Option Value} {lv : am_L} {st : List Value} : am_W G (am_M G d) 27 K 87 (z0 :: z1 :: some (.int a) :: lv) st h nc ns = (am_W G (am_M G d) 27 K 88 (z0 :: z1 :: some (.int a) :: lv) (.int a :: st) h nc ns) := am_u e_27_87
theorem e_27_88 : pg_code 27 88 = some (.iconst 3, 1, 0, 0) := by decide +kernel
theorem u_27_88 {lv : am_L} {st : List Value} : am_W G (am_M G d) 27 K 88 lv st h nc ns = (am_W G (am_M G d) 27 K 89 lv (.int 3 :: st) h nc ns) := am_u e_27_88
theorem e_27_89 : pg_code 27 89 = some (.if_icmp .ne 20, 3, 109, 0) := by decide +kernel
theorem u_27_89 {a b : Int32} {lv : am_L} {st : List Value} : am_W G (am_M G d) 27 K 89 lv (.int b :: .int a :: st) h nc ns = (am_br (¬ a = b) (am_W G (am_M G d) 27 K 109 lv st h nc ns) (am_W G (am_M G d) 27 K 92 lv st h nc ns)) := am_u e_27_89
theorem e_27_92 : pg_code 27 92 = some (.lload 5, 2, 0, 0) := by decide +kernel
theorem u_27_92 {a : Int64} {z0 : Option Value} {z1 : Option Value} {z2 : Option Value} {z3 : Option Value} {z4 : Option Value} {lv : am_L} {st : List Value} : am_W G (am_M G d) 27 K 92 (z0 :: z1 :: z2 :: z3 :: z4 :: some (.long a) :: lv) st h nc ns = (am_W G (am_M G d) 27 K 94 (z0 :: z1 :: z2 :: z3 :: z4 :: some (.long a) :: lv) (.long a :: st) h nc ns) := am_u e_27_92
theorem e_27_94 : pg_code 27 94 = some (.lconst 0, 1, 0, 0) := by decide +kernel
theorem u_27_94 {lv : am_L} {st : List Value} : am_W G (am_M G d) 27 K 94 lv st h nc ns = (am_W G (am_M G d) 27 K 95 lv (.long 0 :: st) h nc ns) := am_u e_27_94
theorem e_27_95 : pg_code 27 95 = some (.lcmp, 1, 0, 0) := by decide +kernel
theorem u_27_95 {a b : Int64} {lv : am_L} {st : List Value} : am_W G (am_M G d) 27 K 95 lv (.long b :: .long a :: st) h nc ns = (am_W G (am_M G d) 27 K 96 lv (.int (lg_cmp a b) :: st) h nc ns) := am_u e_27_95
theorem e_27_96 : pg_code 27 96 = some (.ifCond .ne 13, 3, 109, 0) := by decide +kernel
theorem u_27_96 {a : Int32} {lv : am_L} {st : List Value} : am_W G (am_M G d) 27 K 96 lv (.int a :: st) h nc ns = (am_br (¬ a = 0) (am_W G (am_M G d) 27 K 109 lv st h nc ns) (am_W G (am_M G d) 27 K 99 lv st h nc ns)) := am_u e_27_96
theorem e_27_99 : pg_code 27 99 = some (.aload_n 0, 1, 0, 0) := by decide +kernel
theorem u_27_99 {a : Nat} {lv : am_L} {st : List Value} : am_W G (am_M G d) 27 K 99 (some (.ref a) :: lv) st h nc ns = (am_W G (am_M G d) 27 K 100 (some (.ref a) :: lv) (.ref a :: st) h nc ns) := am_u e_27_99
theorem e_27_100 : pg_code 27 100 = some (.getfield 19, 3, 5, 4) := by decide +kernel
theorem u_27_100 {a : Nat} {lv : am_L} {st : List Value} : am_W G (am_M G d) 27 K 100 lv (.ref a :: st) h nc ns = (f_gf G d 27 K 103 lv st h nc ns (h a) 5 4) := am_u e_27_100
theorem e_27_103 : pg_code 27 103 = some (.iload_n 1, 1, 0, 0) := by decide +kernel
theorem u_27_103 {a : Int32} {z0 : Option Value} {lv : am_L} {st : List Value} : am_W G (am_M G d) 27 K 103 (z0 :: some (.int a) :: lv) st h nc ns = (am_W G (am_M G d) 27 K 104 (z0 :: some (.int a) :: lv) (.int a :: st) h nc ns) := am_u e_27_103
theorem e_27_104 : pg_code 27 104 = some (.iconst 1, 1, 0, 0) := by decide +kernel
theorem u_27_104 {lv : am_L} {st : List Value} : am_W G (am_M G d) 27 K 104 lv st h nc ns = (am_W G (am_M G d) 27 K 105 lv (.int 1 :: st) h nc ns) := am_u e_27_104
theorem e_27_105 : pg_code 27 105 = some (.iastore, 1, 0, 0) := by decide +kernel
theorem u_27_105 {a : Nat} {j b : Int32} {lv : am_L} {st : List Value} : am_W G (am_M G d) 27 K 105 lv (.int b :: .int j :: .ref a :: st) h nc ns = (f_is G d 27 K 106 lv st h nc ns (h a) .int a j b) := am_u e_27_105
theorem e_27_106 : pg_code 27 106 = some (.goto 23, 3, 129, 0) := by decide +kernel
theorem u_27_106 {lv : am_L} {st : List Value} : am_W G (am_M G d) 27 K 106 lv st h nc ns = (am_W G (am_M G d) 27 K 129 lv st h nc ns) := am_u e_27_106
theorem e_27_109 : pg_code 27 109 = some (.aload_n 0, 1, 0, 0) := by decide +kernel
theorem u_27_109 {a : Nat} {lv : am_L} {st : List Value} : am_W G (am_M G d) 27 K 109 (some (.ref a) :: lv) st h nc ns = (am_W G (am_M G d) 27 K 110 (some (.ref a) :: lv) (.ref a :: st) h nc ns) := am_u e_27_109
theorem e_27_110 : pg_code 27 110 = some (.getfield 19, 3, 5, 4) := by decide +kernel
theorem u_27_110 {a : Nat} {lv : am_L} {st : List Value} : am_W G (am_M G d) 27 K 110 lv (.ref a :: st) h nc ns = (f_gf G d 27 K 113 lv st h nc ns (h a) 5 4) := am_u e_27_110
theorem e_27_113 : pg_code 27 113 = some (.iload_n 1, 1, 0, 0) := by decide +kernel
theorem u_27_113 {a : Int32} {z0 : Option Value} {lv : am_L} {st : List Value} : am_W G (am_M G d) 27 K 113 (z0 :: some (.int a) :: lv) st h nc ns = (am_W G (am_M G d) 27 K 114 (z0 :: some (.int a) :: lv) (.int a :: st) h nc ns) := am_u e_27_113
theorem e_27_114 : pg_code 27 114 = some (.iconst 0, 1, 0, 0) := by decide +kernel
theorem u_27_114 {lv : am_L} {st : List Value} : am_W G (am_M G d) 27 K 114 lv st h nc ns = (am_W G (am_M G d) 27 K 115 lv (.int 0 :: st) h nc ns) := am_u e_27_114
theorem e_27_115 : pg_code 27 115 = some (.iastore, 1, 0, 0) := by decide +kernel
theorem u_27_115 {a : Nat} {j b : Int32} {lv : am_L} {st : List Value} : am_W G (am_M G d) 27 K 115 lv (.int b :: .int j :: .ref a :: st) h nc ns = (f_is G d 27 K 116 lv st h nc ns (h a) .int a j b) := am_u e_27_115
theorem e_27_116 : pg_code 27 116 = some (.aload_n 0, 1, 0, 0) := by decide +kernel
theorem u_27_116 {a : Nat} {lv : am_L} {st : List Value} : am_W G (am_M G d) 27 K 116 (some (.ref a) :: lv) st h nc ns = (am_W G (am_M G d) 27 K 117 (some (.ref a) :: lv) (.ref a :: st) h nc ns) := am_u e_27_116
theorem e_27_117 : pg_code 27 117 = some (.getfield 23, 3, 5, 5) := by decide +kernel
theorem u_27_117 {a : Nat} {lv : am_L} {st : List Value} : am_W G (am_M G d) 27 K 117 lv (.ref a :: st) h nc ns = (f_gf G d 27 K 120 lv st h nc ns (h a) 5 5) := am_u e_27_117
theorem e_27_120 : pg_code 27 120 = some (.iload_n 1, 1, 0, 0) := by decide +kernel
theorem u_27_120 {a : Int32} {z0 : Option Value} {lv : am_L} {st : List Value} : am_W G (am_M G d) 27 K 120 (z0 :: some (.int a) :: lv) st h nc ns = (am_W G (am_M G d) 27 K 121 (z0 :: some (.int a) :: lv) (.int a :: st) h nc ns) := am_u e_27_120
theorem e_27_121 : pg_code 27 121 = some (.iload_n 2, 1, 0, 0) := by decide +kernel
theorem u_27_121 {a : Int32} {z0 : Option Value} {z1 : Option Value} {lv : am_L} {st : List Value} : am_W G (am_M G d) 27 K 121 (z0 :: z1 :: some (.int a) :: lv) st h nc ns = (am_W G (am_M G d) 27 K 122 (z0 :: z1 :: some (.int a) :: lv) (.int a :: st) h nc ns) := am_u e_27_121
theorem e_27_122 : pg_code 27 122 = some (.lload_n 3, 1, 0, 0) := by decide +kernel
theorem u_27_122 {a : Int64} {z0 : Option Value} {z1 : Option Value} {z2 : Option Value} {lv : am_L} {st : List Value} : am_W G (am_M G d) 27 K 122 (z0 :: z1 :: z2 :: some (.long a) :: lv) st h nc ns = (am_W G (am_M G d) 27 K 123 (z0 :: z1 :: z2 :: some (.long a) :: lv) (.long a :: st) h nc ns) := am_u e_27_122
theorem e_27_123 : pg_code 27 123 = some (.lload 5, 2, 0, 0) := by decide +kernel
theorem u_27_123 {a : Int64} {z0 : Option Value} {z1 : Option Value} {z2 : Option Value} {z3 : Option Value} {z4 : Option Value} {lv : am_L} {st : List Value} : am_W G (am_M G d) 27 K 123 (z0 :: z1 :: z2 :: z3 :: z4 :: some (.long a) :: lv) st h nc ns = (am_W G (am_M G d) 27 K 125 (z0 :: z1 :: z2 :: z3 :: z4 :: some (.long a) :: lv) (.long a :: st) h nc ns) := am_u e_27_123
theorem e_27_125 : pg_code 27 125 = some (.invokestatic 85, 3, 30, 3) := by decide +kernel
theorem u_27_125 {v0 v1 v2 : Value} {lv : am_L} {st : List Value} : am_W G (am_M G d) 27 K 125 lv (v2 :: v1 :: v0 :: st) h nc ns = ((am_words st ≤ 8 ∧ nc + 0 ≤ 0 ∧ ns + 0 ≤ 0) ∧ am_M G d 30 [v0, v1, v2] h (am_back 27 K (am_W G (am_M G d) 27 K) 30 125 lv st nc ns)) := (am_u e_27_125).trans (f_st_eq (G := G) (d := d) (k := 27) (K := K) (pc := 125) (lv := lv) (st := st) (h := h) (nc := nc) (ns := ns) (x := 30) (X := am_W G (am_M G d) 27 K) [v0, v1, v2] (by decide) rfl)
theorem e_27_128 : pg_code 27 128 = some (.lastore, 1, 0, 0) := by decide +kernel
theorem u_27_128 {a : Nat} {j : Int32} {b : Int64} {lv : am_L} {st : List Value} : am_W G (am_M G d) 27 K 128 lv (.long b :: .int j :: .ref a :: st) h nc ns = (f_ls G d 27 K 129 lv st h nc ns (h a) a j b) := am_u e_27_128
theorem e_27_129 : pg_code 27 129 = some (.return_, 1, 0, 0) := by decide +kernel
theorem u_27_129 {lv : am_L} : am_W G (am_M G d) 27 K 129 lv [] h nc ns = (K (.inl none) h) := (am_u e_27_129).trans (f_t ⟨rfl, rfl⟩)
theorem e_28_0 : pg_code 28 0 = some (.aload_n 0, 1, 0, 0) := by decide +kernel
theorem u_28_0 {a : Nat} {lv : am_L} {st : List Value} : am_W G (am_M G d) 28 K 0 (some (.ref a) :: lv) st h nc ns = (am_W G (am_M G d) 28 K 1 (some (.ref a) :: lv) (.ref a :: st) h nc ns) := am_u e_28_0
theorem e_28_1 : pg_code 28 1 = some (.iload_n 1, 1, 0, 0) := by decide +kernel
theorem u_28_1 {a : Int32} {z0 : Option Value} {lv : am_L} {st : List Value} : am_W G (am_M G d) 28 K 1 (z0 :: some (.int a) :: lv) st h nc ns = (am_W G (am_M G d) 28 K 2 (z0 :: some (.int a) :: lv) (.int a :: st) h nc ns) := am_u e_28_1
theorem e_28_2 : pg_code 28 2 = some (.aload_n 2, 1, 0, 0) := by decide +kernel
theorem u_28_2 {a : Nat} {z0 : Option Value} {z1 : Option Value} {lv : am_L} {st : List Value} : am_W G (am_M G d) 28 K 2 (z0 :: z1 :: some (.ref a) :: lv) st h nc ns = (am_W G (am_M G d) 28 K 3 (z0 :: z1 :: some (.ref a) :: lv) (.ref a :: st) h nc ns) := am_u e_28_2
theorem e_28_3 : pg_code 28 3 = some (.getfield 9, 3, 2, 0) := by decide +kernel
theorem u_28_3 {a : Nat} {lv : am_L} {st : List Value} : am_W G (am_M G d) 28 K 3 lv (.ref a :: st) h nc ns = (f_gf G d 28 K 6 lv st h nc ns (h a) 2 0) := am_u e_28_3
theorem e_28_6 : pg_code 28 6 = some (.iload_n 1, 1, 0, 0) := by decide +kernel
theorem u_28_6 {a : Int32} {z0 : Option Value} {lv : am_L} {st : List Value} : am_W G (am_M G d) 28 K 6 (z0 :: some (.int a) :: lv) st h nc ns = (am_W G (am_M G d) 28 K 7 (z0 :: some (.int a) :: lv) (.int a :: st) h nc ns) := am_u e_28_6
theorem e_28_7 : pg_code 28 7 = some (.iaload, 1, 0, 0) := by decide +kernel
theorem u_28_7 {a : Nat} {j : Int32} {lv : am_L} {st : List Value} : am_W G (am_M G d) 28 K 7 lv (.int j :: .ref a :: st) h nc ns = (f_ia G d 28 K 8 lv st h nc ns (h a) .int j) := am_u e_28_7
theorem e_28_8 : pg_code 28 8 = some (.aload_n 2, 1, 0, 0) := by decide +kernel
theorem u_28_8 {a : Nat} {z0 : Option Value} {z1 : Option Value} {lv : am_L} {st : List Value} : am_W G (am_M G d) 28 K 8 (z0 :: z1 :: some (.ref a) :: lv) st h nc ns = (am_W G (am_M G d) 28 K 9 (z0 :: z1 :: some (.ref a) :: lv) (.ref a :: st) h nc ns) := am_u e_28_8
theorem e_28_9 : pg_code 28 9 = some (.getfield 15, 3, 2, 1) := by decide +kernel
theorem u_28_9 {a : Nat} {lv : am_L} {st : List Value} : am_W G (am_M G d) 28 K 9 lv (.ref a :: st) h nc ns = (f_gf G d 28 K 12 lv st h nc ns (h a) 2 1) := am_u e_28_9
theorem e_28_12 : pg_code 28 12 = some (.iload_n 1, 1, 0, 0) := by decide +kernel
theorem u_28_12 {a : Int32} {z0 : Option Value} {lv : am_L} {st : List Value} : am_W G (am_M G d) 28 K 12 (z0 :: some (.int a) :: lv) st h nc ns = (am_W G (am_M G d) 28 K 13 (z0 :: some (.int a) :: lv) (.int a :: st) h nc ns) := am_u e_28_12
theorem e_28_13 : pg_code 28 13 = some (.iaload, 1, 0, 0) := by decide +kernel
theorem u_28_13 {a : Nat} {j : Int32} {lv : am_L} {st : List Value} : am_W G (am_M G d) 28 K 13 lv (.int j :: .ref a :: st) h nc ns = (f_ia G d 28 K 14 lv st h nc ns (h a) .int j) := am_u e_28_13
theorem e_28_14 : pg_code 28 14 = some (.aload_n 2, 1, 0, 0) := by decide +kernel
theorem u_28_14 {a : Nat} {z0 : Option Value} {z1 : Option Value} {lv : am_L} {st : List Value} : am_W G (am_M G d) 28 K 14 (z0 :: z1 :: some (.ref a) :: lv) st h nc ns = (am_W G (am_M G d) 28 K 15 (z0 :: z1 :: some (.ref a) :: lv) (.ref a :: st) h nc ns) := am_u e_28_14
theorem e_28_15 : pg_code 28 15 = some (.getfield 18, 3, 2, 2) := by decide +kernel
theorem u_28_15 {a : Nat} {lv : am_L} {st : List Value} : am_W G (am_M G d) 28 K 15 lv (.ref a :: st) h nc ns = (f_gf G d 28 K 18 lv st h nc ns (h a) 2 2) := am_u e_28_15
theorem e_28_18 : pg_code 28 18 = some (.iload_n 1, 1, 0, 0) := by decide +kernel
theorem u_28_18 {a : Int32} {z0 : Option Value} {lv : am_L} {st : List Value} : am_W G (am_M G d) 28 K 18 (z0 :: some (.int a) :: lv) st h nc ns = (am_W G (am_M G d) 28 K 19 (z0 :: some (.int a) :: lv) (.int a :: st) h nc ns) := am_u e_28_18
theorem e_28_19 : pg_code 28 19 = some (.iaload, 1, 0, 0) := by decide +kernel
theorem u_28_19 {a : Nat} {j : Int32} {lv : am_L} {st : List Value} : am_W G (am_M G d) 28 K 19 lv (.int j :: .ref a :: st) h nc ns = (f_ia G d 28 K 20 lv st h nc ns (h a) .int j) := am_u e_28_19
theorem e_28_20 : pg_code 28 20 = some (.invokevirtual 21, 3, 29, 5) := by decide +kernel
theorem u_28_20 {a : Nat} {v0 v1 v2 v3 : Value} {lv : am_L} {st : List Value} : am_W G (am_M G d) 28 K 20 lv (v3 :: v2 :: v1 :: v0 :: .ref a :: st) h nc ns = ((am_words st ≤ 8 ∧ nc + 0 ≤ 0 ∧ ns + 0 ≤ 0 ∧ f_rc (h a) 2) ∧ am_M G d 29 [.ref a, v0, v1, v2, v3] h (am_back 28 K (am_W G (am_M G d) 28 K) 29 20 lv st nc ns)) := (am_u e_28_20).trans (f_iv_eq (a := a) (G := G) (d := d) (k := 28) (K := K) (pc := 20) (lv := lv) (st := st) (h := h) (nc := nc) (ns := ns) (x := 29) (X := am_W G (am_M G d) 28 K) [v0, v1, v2, v3] (by decide) rfl)
theorem e_28_23 : pg_code 28 23 = some (.pop, 1, 0, 0) := by decide +kernel
theorem u_28_23 {a : Int32} {lv : am_L} {st : List Value} : am_W G (am_M G d) 28 K 23 lv (.int a :: st) h nc ns = (am_W G (am_M G d) 28 K 24 lv st h nc ns) := (am_u e_28_23).trans (f_t rfl)
theorem e_28_24 : pg_code 28 24 = some (.return_, 1, 0, 0) := by decide +kernel
theorem u_28_24 {lv : am_L} : am_W G (am_M G d) 28 K 24 lv [] h nc ns = (K (.inl none) h) := (am_u e_28_24).trans (f_t ⟨rfl, rfl⟩)
theorem e_29_0 : pg_code 29 0 = some (.aload_n 0, 1, 0, 0) := by decide +kernel
theorem u_29_0 {a : Nat} {lv : am_L} {st : List Value} : am_W G (am_M G d) 29 K 0 (some (.ref a) :: lv) st h nc ns = (am_W G (am_M G d) 29 K 1 (some (.ref a) :: lv) (.ref a :: st) h nc ns) := am_u e_29_0
theorem e_29_1 : pg_code 29 1 = some (.getfield 9, 3, 2, 0) := by decide +kernel
theorem u_29_1 {a : Nat} {lv : am_L} {st : List Value} : am_W G (am_M G d) 29 K 1 lv (.ref a :: st) h nc ns = (f_gf G d 29 K 4 lv st h nc ns (h a) 2 0) := am_u e_29_1
theorem e_29_4 : pg_code 29 4 = some (.iload_n 1, 1, 0, 0) := by decide +kernel
theorem u_29_4 {a : Int32} {z0 : Option Value} {lv : am_L} {st : List Value} : am_W G (am_M G d) 29 K 4 (z0 :: some (.int a) :: lv) st h nc ns = (am_W G (am_M G d) 29 K 5 (z0 :: some (.int a) :: lv) (.int a :: st) h nc ns) := am_u e_29_4
theorem e_29_5 : pg_code 29 5 = some (.iaload, 1, 0, 0) := by decide +kernel
theorem u_29_5 {a : Nat} {j : Int32} {lv : am_L} {st : List Value} : am_W G (am_M G d) 29 K 5 lv (.int j :: .ref a :: st) h nc ns = (f_ia G d 29 K 6 lv st h nc ns (h a) .int j) := am_u e_29_5
theorem e_29_6 : pg_code 29 6 = some (.iload_n 2, 1, 0, 0) := by decide +kernel
theorem u_29_6 {a : Int32} {z0 : Option Value} {z1 : Option Value} {lv : am_L} {st : List Value} : am_W G (am_M G d) 29 K 6 (z0 :: z1 :: some (.int a) :: lv) st h nc ns = (am_W G (am_M G d) 29 K 7 (z0 :: z1 :: some (.int a) :: lv) (.int a :: st) h nc ns) := am_u e_29_6
theorem e_29_7 : pg_code 29 7 = some (.if_icmp .ne 24, 3, 31, 0) := by decide +kernel
theorem u_29_7 {a b : Int32} {lv : am_L} {st : List Value} : am_W G (am_M G d) 29 K 7 lv (.int b :: .int a :: st) h nc ns = (am_br (¬ a = b) (am_W G (am_M G d) 29 K 31 lv st h nc ns) (am_W G (am_M G d) 29 K 10 lv st h nc ns)) := am_u e_29_7
theorem e_29_10 : pg_code 29 10 = some (.aload_n 0, 1, 0, 0) := by decide +kernel
theorem u_29_10 {a : Nat} {lv : am_L} {st : List Value} : am_W G (am_M G d) 29 K 10 (some (.ref a) :: lv) st h nc ns = (am_W G (am_M G d) 29 K 11 (some (.ref a) :: lv) (.ref a :: st) h nc ns) := am_u e_29_10
theorem e_29_11 : pg_code 29 11 = some (.getfield 15, 3, 2, 1) := by decide +kernel
theorem u_29_11 {a : Nat} {lv : am_L} {st : List Value} : am_W G (am_M G d) 29 K 11 lv (.ref a :: st) h nc ns = (f_gf G d 29 K 14 lv st h nc ns (h a) 2 1) := am_u e_29_11
theorem e_29_14 : pg_code 29 14 = some (.iload_n 1, 1, 0, 0) := by decide +kernel
theorem u_29_14 {a : Int32} {z0 : Option Value} {lv : am_L} {st : List Value} : am_W G (am_M G d) 29 K 14 (z0 :: some (.int a) :: lv) st h nc ns = (am_W G (am_M G d) 29 K 15 (z0 :: some (.int a) :: lv) (.int a :: st) h nc ns) := am_u e_29_14
theorem e_29_15 : pg_code 29 15 = some (.iaload, 1, 0, 0) := by decide +kernel
theorem u_29_15 {a : Nat} {j : Int32} {lv : am_L} {st : List Value} : am_W G (am_M G d) 29 K 15 lv (.int j :: .ref a :: st) h nc ns = (f_ia G d 29 K 16 lv st h nc ns (h a) .int j) := am_u e_29_15
theorem e_29_16 : pg_code 29 16 = some (.iload_n 3, 1, 0, 0) := by decide +kernel
theorem u_29_16 {a : Int32} {z0 : Option Value} {z1 : Option Value} {z2 : Option Value} {lv : am_L} {st : List Value} : am_W G (am_M G d) 29 K 16 (z0 :: z1 :: z2 :: some (.int a) :: lv) st h nc ns = (am_W G (am_M G d) 29 K 17 (z0 :: z1 :: z2 :: some (.int a) :: lv) (.int a :: st) h nc ns) := am_u e_29_16
theorem e_29_17 : pg_code 29 17 = some (.if_icmp .ne 14, 3, 31, 0) := by decide +kernel
theorem u_29_17 {a b : Int32} {lv : am_L} {st : List Value} : am_W G (am_M G d) 29 K 17 lv (.int b :: .int a :: st) h nc ns = (am_br (¬ a = b) (am_W G (am_M G d) 29 K 31 lv st h nc ns) (am_W G (am_M G d) 29 K 20 lv st h nc ns)) := am_u e_29_17
theorem e_29_20 : pg_code 29 20 = some (.aload_n 0, 1, 0, 0) := by decide +kernel
theorem u_29_20 {a : Nat} {lv : am_L} {st : List Value} : am_W G (am_M G d) 29 K 20 (some (.ref a) :: lv) st h nc ns = (am_W G (am_M G d) 29 K 21 (some (.ref a) :: lv) (.ref a :: st) h nc ns) := am_u e_29_20
theorem e_29_21 : pg_code 29 21 = some (.getfield 18, 3, 2, 2) := by decide +kernel
theorem u_29_21 {a : Nat} {lv : am_L} {st : List Value} : am_W G (am_M G d) 29 K 21 lv (.ref a :: st) h nc ns = (f_gf G d 29 K 24 lv st h nc ns (h a) 2 2) := am_u e_29_21
theorem e_29_24 : pg_code 29 24 = some (.iload_n 1, 1, 0, 0) := by decide +kernel
theorem u_29_24 {a : Int32} {z0 : Option Value} {lv : am_L} {st : List Value} : am_W G (am_M G d) 29 K 24 (z0 :: some (.int a) :: lv) st h nc ns = (am_W G (am_M G d) 29 K 25 (z0 :: some (.int a) :: lv) (.int a :: st) h nc ns) := am_u e_29_24
theorem e_29_25 : pg_code 29 25 = some (.iaload, 1, 0, 0) := by decide +kernel
theorem u_29_25 {a : Nat} {j : Int32} {lv : am_L} {st : List Value} : am_W G (am_M G d) 29 K 25 lv (.int j :: .ref a :: st) h nc ns = (f_ia G d 29 K 26 lv st h nc ns (h a) .int j) := am_u e_29_25
theorem e_29_26 : pg_code 29 26 = some (.iload 4, 2, 0, 0) := by decide +kernel
theorem u_29_26 {a : Int32} {z0 : Option Value} {z1 : Option Value} {z2 : Option Value} {z3 : Option Value} {lv : am_L} {st : List Value} : am_W G (am_M G d) 29 K 26 (z0 :: z1 :: z2 :: z3 :: some (.int a) :: lv) st h nc ns = (am_W G (am_M G d) 29 K 28 (z0 :: z1 :: z2 :: z3 :: some (.int a) :: lv) (.int a :: st) h nc ns) := am_u e_29_26
theorem e_29_28 : pg_code 29 28 = some (.if_icmp .eq 7, 3, 35, 0) := by decide +kernel
theorem u_29_28 {a b : Int32} {lv : am_L} {st : List Value} : am_W G (am_M G d) 29 K 28 lv (.int b :: .int a :: st) h nc ns = (am_br (a = b) (am_W G (am_M G d) 29 K 35 lv st h nc ns) (am_W G (am_M G d) 29 K 31 lv st h nc ns)) := am_u e_29_28
theorem e_29_31 : pg_code 29 31 = some (.iconst 1, 1, 0, 0) := by decide +kernel
theorem u_29_31 {lv : am_L} {st : List Value} : am_W G (am_M G d) 29 K 31 lv st h nc ns = (am_W G (am_M G d) 29 K 32 lv (.int 1 :: st) h nc ns) := am_u e_29_31
theorem e_29_32 : pg_code 29 32 = some (.goto 4, 3, 36, 0) := by decide +kernel
theorem u_29_32 {lv : am_L} {st : List Value} : am_W G (am_M G d) 29 K 32 lv st h nc ns = (am_W G (am_M G d) 29 K 36 lv st h nc ns) := am_u e_29_32
theorem e_29_35 : pg_code 29 35 = some (.iconst 0, 1, 0, 0) := by decide +kernel
theorem u_29_35 {lv : am_L} {st : List Value} : am_W G (am_M G d) 29 K 35 lv st h nc ns = (am_W G (am_M G d) 29 K 36 lv (.int 0 :: st) h nc ns) := am_u e_29_35
theorem e_29_36 : pg_code 29 36 = some (.istore 5, 2, 0, 0) := by decide +kernel
theorem u_29_36 {a : Int32} {lv : am_L} {st : List Value} : am_W G (am_M G d) 29 K 36 lv (.int a :: st) h nc ns = (am_W G (am_M G d) 29 K 38 (am_st1 lv 5 (.int a)) st h nc ns) := (am_u e_29_36).trans (f_t (by decide +kernel))
theorem e_29_38 : pg_code 29 38 = some (.aload_n 0, 1, 0, 0) := by decide +kernel
theorem u_29_38 {a : Nat} {lv : am_L} {st : List Value} : am_W G (am_M G d) 29 K 38 (some (.ref a) :: lv) st h nc ns = (am_W G (am_M G d) 29 K 39 (some (.ref a) :: lv) (.ref a :: st) h nc ns) := am_u e_29_38
theorem e_29_39 : pg_code 29 39 = some (.getfield 9, 3, 2, 0) := by decide +kernel
theorem u_29_39 {a : Nat} {lv : am_L} {st : List Value} : am_W G (am_M G d) 29 K 39 lv (.ref a :: st) h nc ns = (f_gf G d 29 K 42 lv st h nc ns (h a) 2 0) := am_u e_29_39
theorem e_29_42 : pg_code 29 42 = some (.iload_n 1, 1, 0, 0) := by decide +kernel
theorem u_29_42 {a : Int32} {z0 : Option Value} {lv : am_L} {st : List Value} : am_W G (am_M G d) 29 K 42 (z0 :: some (.int a) :: lv) st h nc ns = (am_W G (am_M G d) 29 K 43 (z0 :: some (.int a) :: lv) (.int a :: st) h nc ns) := am_u e_29_42
theorem e_29_43 : pg_code 29 43 = some (.iload_n 2, 1, 0, 0) := by decide +kernel
theorem u_29_43 {a : Int32} {z0 : Option Value} {z1 : Option Value} {lv : am_L} {st : List Value} : am_W G (am_M G d) 29 K 43 (z0 :: z1 :: some (.int a) :: lv) st h nc ns = (am_W G (am_M G d) 29 K 44 (z0 :: z1 :: some (.int a) :: lv) (.int a :: st) h nc ns) := am_u e_29_43
theorem e_29_44 : pg_code 29 44 = some (.iastore, 1, 0, 0) := by decide +kernel
theorem u_29_44 {a : Nat} {j b : Int32} {lv : am_L} {st : List Value} : am_W G (am_M G d) 29 K 44 lv (.int b :: .int j :: .ref a :: st) h nc ns = (f_is G d 29 K 45 lv st h nc ns (h a) .int a j b) := am_u e_29_44
theorem e_29_45 : pg_code 29 45 = some (.aload_n 0, 1, 0, 0) := by decide +kernel
theorem u_29_45 {a : Nat} {lv : am_L} {st : List Value} : am_W G (am_M G d) 29 K 45 (some (.ref a) :: lv) st h nc ns = (am_W G (am_M G d) 29 K 46 (some (.ref a) :: lv) (.ref a :: st) h nc ns) := am_u e_29_45
theorem e_29_46 : pg_code 29 46 = some (.getfield 15, 3, 2, 1) := by decide +kernel
theorem u_29_46 {a : Nat} {lv : am_L} {st : List Value} : am_W G (am_M G d) 29 K 46 lv (.ref a :: st) h nc ns = (f_gf G d 29 K 49 lv st h nc ns (h a) 2 1) := am_u e_29_46
theorem e_29_49 : pg_code 29 49 = some (.iload_n 1, 1, 0, 0) := by decide +kernel
theorem u_29_49 {a : Int32} {z0 : Option Value} {lv : am_L} {st : List Value} : am_W G (am_M G d) 29 K 49 (z0 :: some (.int a) :: lv) st h nc ns = (am_W G (am_M G d) 29 K 50 (z0 :: some (.int a) :: lv) (.int a :: st) h nc ns) := am_u e_29_49
theorem e_29_50 : pg_code 29 50 = some (.iload_n 3, 1, 0, 0) := by decide +kernel
theorem u_29_50 {a : Int32} {z0 : Option Value} {z1 : Option Value} {z2 : Option Value} {lv : am_L} {st : List Value} : am_W G (am_M G d) 29 K 50 (z0 :: z1 :: z2 :: some (.int a) :: lv) st h nc ns = (am_W G (am_M G d) 29 K 51 (z0 :: z1 :: z2 :: some (.int a) :: lv) (.int a :: st) h nc ns) := am_u e_29_50
theorem e_29_51 : pg_code 29 51 = some (.iastore, 1, 0, 0) := by decide +kernel
theorem u_29_51 {a : Nat} {j b : Int32} {lv : am_L} {st : List Value} : am_W G (am_M G d) 29 K 51 lv (.int b :: .int j :: .ref a :: st) h nc ns = (f_is G d 29 K 52 lv st h nc ns (h a) .int a j b) := am_u e_29_51
theorem e_29_52 : pg_code 29 52 = some (.aload_n 0, 1, 0, 0) := by decide +kernel
theorem u_29_52 {a : Nat} {lv : am_L} {st : List Value} : am_W G (am_M G d) 29 K 52 (some (.ref a) :: lv) st h nc ns = (am_W G (am_M G d) 29 K 53 (some (.ref a) :: lv) (.ref a :: st) h nc ns) := am_u e_29_52
theorem e_29_53 : pg_code 29 53 = some (.getfield 18, 3, 2, 2) := by decide +kernel
theorem u_29_53 {a : Nat} {lv : am_L} {st : List Value} : am_W G (am_M G d) 29 K 53 lv (.ref a :: st) h nc ns = (f_gf G d 29 K 56 lv st h nc ns (h a) 2 2) := am_u e_29_53
theorem e_29_56 : pg_code 29 56 = some (.iload_n 1, 1, 0, 0) := by decide +kernel
theorem u_29_56 {a : Int32} {z0 : Option Value} {lv : am_L} {st : List Value} : am_W G (am_M G d) 29 K 56 (z0 :: some (.int a) :: lv) st h nc ns = (am_W G (am_M G d) 29 K 57 (z0 :: some (.int a) :: lv) (.int a :: st) h nc ns) := am_u e_29_56
theorem e_29_57 : pg_code 29 57 = some (.iload 4, 2, 0, 0) := by decide +kernel
theorem u_29_57 {a : Int32} {z0 : Option Value} {z1 : Option Value} {z2 : Option Value} {z3 : Option Value} {lv : am_L} {st : List Value} : am_W G (am_M G d) 29 K 57 (z0 :: z1 :: z2 :: z3 :: some (.int a) :: lv) st h nc ns = (am_W G (am_M G d) 29 K 59 (z0 :: z1 :: z2 :: z3 :: some (.int a) :: lv) (.int a :: st) h nc ns) := am_u e_29_57
theorem e_29_59 : pg_code 29 59 = some (.iastore, 1, 0, 0) := by decide +kernel
theorem u_29_59 {a : Nat} {j b : Int32} {lv : am_L} {st : List Value} : am_W G (am_M G d) 29 K 59 lv (.int b :: .int j :: .ref a :: st) h nc ns = (f_is G d 29 K 60 lv st h nc ns (h a) .int a j b) := am_u e_29_59
theorem e_29_60 : pg_code 29 60 = some (.iload 5, 2, 0, 0) := by decide +kernel
theorem u_29_60 {a : Int32} {z0 : Option Value} {z1 : Option Value} {z2 : Option Value} {z3 : Option Value} {z4 : Option Value} {lv : am_L} {st : List Value} : am_W G (am_M G d) 29 K 60 (z0 :: z1 :: z2 :: z3 :: z4 :: some (.int a) :: lv) st h nc ns = (am_W G (am_M G d) 29 K 62 (z0 :: z1 :: z2 :: z3 :: z4 :: some (.int a) :: lv) (.int a :: st) h nc ns) := am_u e_29_60
theorem e_29_62 : pg_code 29 62 = some (.ireturn, 1, 0, 0) := by decide +kernel
theorem u_29_62 {a : Int32} {lv : am_L} : am_W G (am_M G d) 29 K 62 lv [.int a] h nc ns = (narrow .boolean (.int a) = .int a ∧ K (.inl (some (.int a))) h) := (am_u e_29_62).trans (f_z_eq rfl)
theorem e_30_0 : pg_code 30 0 = some (.iload_n 0, 1, 0, 0) := by decide +kernel
theorem u_30_0 {a : Int32} {lv : am_L} {st : List Value} : am_W G (am_M G d) 30 K 0 (some (.int a) :: lv) st h nc ns = (am_W G (am_M G d) 30 K 1 (some (.int a) :: lv) (.int a :: st) h nc ns) := am_u e_30_0
theorem e_30_1 : pg_code 30 1 = some (.tableswitch 67 0 4 #[35, 39, 43, 47, 61], 35, 0, 0) := by decide +kernel
theorem u_30_1 {a : Int32} {lv : am_L} {st : List Value} : am_W G (am_M G d) 30 K 1 lv (.int a :: st) h nc ns = (am_W G (am_M G d) 30 K (am_tsw 67 0 4 #[35, 39, 43, 47, 61] 1 a) lv st h nc ns) := am_u e_30_1
theorem e_30_36 : pg_code 30 36 = some (.lload_n 1, 1, 0, 0) := by decide +kernel
theorem u_30_36 {a : Int64} {z0 : Option Value} {lv : am_L} {st : List Value} : am_W G (am_M G d) 30 K 36 (z0 :: some (.long a) :: lv) st h nc ns = (am_W G (am_M G d) 30 K 37 (z0 :: some (.long a) :: lv) (.long a :: st) h nc ns) := am_u e_30_36
theorem e_30_37 : pg_code 30 37 = some (.lload_n 3, 1, 0, 0) := by decide +kernel
theorem u_30_37 {a : Int64} {z0 : Option Value} {z1 : Option Value} {z2 : Option Value} {lv : am_L} {st : List Value} : am_W G (am_M G d) 30 K 37 (z0 :: z1 :: z2 :: some (.long a) :: lv) st h nc ns = (am_W G (am_M G d) 30 K 38 (z0 :: z1 :: z2 :: some (.long a) :: lv) (.long a :: st) h nc ns) := am_u e_30_37
theorem e_30_38 : pg_code 30 38 = some (.ladd, 1, 0, 0) := by decide +kernel
theorem u_30_38 {a b : Int64} {lv : am_L} {st : List Value} : am_W G (am_M G d) 30 K 38 lv (.long b :: .long a :: st) h nc ns = (am_W G (am_M G d) 30 K 39 lv (.long (a + b) :: st) h nc ns) := am_u e_30_38
theorem e_30_39 : pg_code 30 39 = some (.lreturn, 1, 0, 0) := by decide +kernel
theorem u_30_39 {a : Int64} {lv : am_L} : am_W G (am_M G d) 30 K 39 lv [.long a] h nc ns = (K (.inl (some (.long a))) h) := (am_u e_30_39).trans (f_t ⟨rfl, rfl⟩)
theorem e_30_40 : pg_code 30 40 = some (.lload_n 1, 1, 0, 0) := by decide +kernel
theorem u_30_40 {a : Int64} {z0 : Option Value} {lv : am_L} {st : List Value} : am_W G (am_M G d) 30 K 40 (z0 :: some (.long a) :: lv) st h nc ns = (am_W G (am_M G d) 30 K 41 (z0 :: some (.long a) :: lv) (.long a :: st) h nc ns) := am_u e_30_40
theorem e_30_41 : pg_code 30 41 = some (.lload_n 3, 1, 0, 0) := by decide +kernel
theorem u_30_41 {a : Int64} {z0 : Option Value} {z1 : Option Value} {z2 : Option Value} {lv : am_L} {st : List Value} : am_W G (am_M G d) 30 K 41 (z0 :: z1 :: z2 :: some (.long a) :: lv) st h nc ns = (am_W G (am_M G d) 30 K 42 (z0 :: z1 :: z2 :: some (.long a) :: lv) (.long a :: st) h nc ns) := am_u e_30_41
theorem e_30_42 : pg_code 30 42 = some (.lsub, 1, 0, 0) := by decide +kernel
theorem u_30_42 {a b : Int64} {lv : am_L} {st : List Value} : am_W G (am_M G d) 30 K 42 lv (.long b :: .long a :: st) h nc ns = (am_W G (am_M G d) 30 K 43 lv (.long (a - b) :: st) h nc ns) := am_u e_30_42
theorem e_30_43 : pg_code 30 43 = some (.lreturn, 1, 0, 0) := by decide +kernel
theorem u_30_43 {a : Int64} {lv : am_L} : am_W G (am_M G d) 30 K 43 lv [.long a] h nc ns = (K (.inl (some (.long a))) h) := (am_u e_30_43).trans (f_t ⟨rfl, rfl⟩)
theorem e_30_44 : pg_code 30 44 = some (.lload_n 1, 1, 0, 0) := by decide +kernel
theorem u_30_44 {a : Int64} {z0 : Option Value} {lv : am_L} {st : List Value} : am_W G (am_M G d) 30 K 44 (z0 :: some (.long a) :: lv) st h nc ns = (am_W G (am_M G d) 30 K 45 (z0 :: some (.long a) :: lv) (.long a :: st) h nc ns) := am_u e_30_44
theorem e_30_45 : pg_code 30 45 = some (.lload_n 3, 1, 0, 0) := by decide +kernel
theorem u_30_45 {a : Int64} {z0 : Option Value} {z1 : Option Value} {z2 : Option Value} {lv : am_L} {st : List Value} : am_W G (am_M G d) 30 K 45 (z0 :: z1 :: z2 :: some (.long a) :: lv) st h nc ns = (am_W G (am_M G d) 30 K 46 (z0 :: z1 :: z2 :: some (.long a) :: lv) (.long a :: st) h nc ns) := am_u e_30_45
theorem e_30_46 : pg_code 30 46 = some (.lmul, 1, 0, 0) := by decide +kernel
theorem u_30_46 {a b : Int64} {lv : am_L} {st : List Value} : am_W G (am_M G d) 30 K 46 lv (.long b :: .long a :: st) h nc ns = (am_W G (am_M G d) 30 K 47 lv (.long (a * b) :: st) h nc ns) := am_u e_30_46
theorem e_30_47 : pg_code 30 47 = some (.lreturn, 1, 0, 0) := by decide +kernel
theorem u_30_47 {a : Int64} {lv : am_L} : am_W G (am_M G d) 30 K 47 lv [.long a] h nc ns = (K (.inl (some (.long a))) h) := (am_u e_30_47).trans (f_t ⟨rfl, rfl⟩)
theorem e_30_48 : pg_code 30 48 = some (.lload_n 3, 1, 0, 0) := by decide +kernel
theorem u_30_48 {a : Int64} {z0 : Option Value} {z1 : Option Value} {z2 : Option Value} {lv : am_L} {st : List Value} : am_W G (am_M G d) 30 K 48 (z0 :: z1 :: z2 :: some (.long a) :: lv) st h nc ns = (am_W G (am_M G d) 30 K 49 (z0 :: z1 :: z2 :: some (.long a) :: lv) (.long a :: st) h nc ns) := am_u e_30_48
theorem e_30_49 : pg_code 30 49 = some (.lconst 0, 1, 0, 0) := by decide +kernel
theorem u_30_49 {lv : am_L} {st : List Value} : am_W G (am_M G d) 30 K 49 lv st h nc ns = (am_W G (am_M G d) 30 K 50 lv (.long 0 :: st) h nc ns) := am_u e_30_49
theorem e_30_50 : pg_code 30 50 = some (.lcmp, 1, 0, 0) := by decide +kernel
theorem u_30_50 {a b : Int64} {lv : am_L} {st : List Value} : am_W G (am_M G d) 30 K 50 lv (.long b :: .long a :: st) h nc ns = (am_W G (am_M G d) 30 K 51 lv (.int (lg_cmp a b) :: st) h nc ns) := am_u e_30_50
theorem e_30_51 : pg_code 30 51 = some (.ifCond .ne 7, 3, 58, 0) := by decide +kernel
theorem u_30_51 {a : Int32} {lv : am_L} {st : List Value} : am_W G (am_M G d) 30 K 51 lv (.int a :: st) h nc ns = (am_br (¬ a = 0) (am_W G (am_M G d) 30 K 58 lv st h nc ns) (am_W G (am_M G d) 30 K 54 lv st h nc ns)) := am_u e_30_51
theorem e_30_54 : pg_code 30 54 = some (.lconst 0, 1, 0, 0) := by decide +kernel
theorem u_30_54 {lv : am_L} {st : List Value} : am_W G (am_M G d) 30 K 54 lv st h nc ns = (am_W G (am_M G d) 30 K 55 lv (.long 0 :: st) h nc ns) := am_u e_30_54
theorem e_30_55 : pg_code 30 55 = some (.goto 6, 3, 61, 0) := by decide +kernel
theorem u_30_55 {lv : am_L} {st : List Value} : am_W G (am_M G d) 30 K 55 lv st h nc ns = (am_W G (am_M G d) 30 K 61 lv st h nc ns) := am_u e_30_55
theorem e_30_58 : pg_code 30 58 = some (.lload_n 1, 1, 0, 0) := by decide +kernel
theorem u_30_58 {a : Int64} {z0 : Option Value} {lv : am_L} {st : List Value} : am_W G (am_M G d) 30 K 58 (z0 :: some (.long a) :: lv) st h nc ns = (am_W G (am_M G d) 30 K 59 (z0 :: some (.long a) :: lv) (.long a :: st) h nc ns) := am_u e_30_58
theorem e_30_59 : pg_code 30 59 = some (.lload_n 3, 1, 0, 0) := by decide +kernel
theorem u_30_59 {a : Int64} {z0 : Option Value} {z1 : Option Value} {z2 : Option Value} {lv : am_L} {st : List Value} : am_W G (am_M G d) 30 K 59 (z0 :: z1 :: z2 :: some (.long a) :: lv) st h nc ns = (am_W G (am_M G d) 30 K 60 (z0 :: z1 :: z2 :: some (.long a) :: lv) (.long a :: st) h nc ns) := am_u e_30_59
theorem e_30_60 : pg_code 30 60 = some (.ldiv, 1, 0, 0) := by decide +kernel
theorem u_30_60 {a b : Int64} {lv : am_L} {st : List Value} : am_W G (am_M G d) 30 K 60 lv (.long b :: .long a :: st) h nc ns = (¬ b = 0 ∧ am_W G (am_M G d) 30 K 61 lv (.long (a / b) :: st) h nc ns) := am_u e_30_60
theorem e_30_61 : pg_code 30 61 = some (.lreturn, 1, 0, 0) := by decide +kernel
theorem u_30_61 {a : Int64} {lv : am_L} : am_W G (am_M G d) 30 K 61 lv [.long a] h nc ns = (K (.inl (some (.long a))) h) := (am_u e_30_61).trans (f_t ⟨rfl, rfl⟩)
theorem e_30_62 : pg_code 30 62 = some (.lload_n 1, 1, 0, 0) := by decide +kernel
theorem u_30_62 {a : Int64} {z0 : Option Value} {lv : am_L} {st : List Value} : am_W G (am_M G d) 30 K 62 (z0 :: some (.long a) :: lv) st h nc ns = (am_W G (am_M G d) 30 K 63 (z0 :: some (.long a) :: lv) (.long a :: st) h nc ns) := am_u e_30_62
theorem e_30_63 : pg_code 30 63 = some (.lload_n 3, 1, 0, 0) := by decide +kernel
theorem u_30_63 {a : Int64} {z0 : Option Value} {z1 : Option Value} {z2 : Option Value} {lv : am_L} {st : List Value} : am_W G (am_M G d) 30 K 63 (z0 :: z1 :: z2 :: some (.long a) :: lv) st h nc ns = (am_W G (am_M G d) 30 K 64 (z0 :: z1 :: z2 :: some (.long a) :: lv) (.long a :: st) h nc ns) := am_u e_30_63
theorem e_30_64 : pg_code 30 64 = some (.invokestatic 89, 3, 904, 2) := by decide +kernel
theorem u_30_64 {a b : Int64} {lv : am_L} {st : List Value} : am_W G (am_M G d) 30 K 64 lv (.long b :: .long a :: st) h nc ns = (am_words st ≤ 8 ∧ am_W G (am_M G d) 30 K 67 lv (.long (if b < a then a else b) :: st) h nc ns) := am_u e_30_64
theorem e_30_67 : pg_code 30 67 = some (.lreturn, 1, 0, 0) := by decide +kernel
theorem u_30_67 {a : Int64} {lv : am_L} : am_W G (am_M G d) 30 K 67 lv [.long a] h nc ns = (K (.inl (some (.long a))) h) := (am_u e_30_67).trans (f_t ⟨rfl, rfl⟩)
theorem e_30_68 : pg_code 30 68 = some (.lload_n 1, 1, 0, 0) := by decide +kernel
theorem u_30_68 {a : Int64} {z0 : Option Value} {lv : am_L} {st : List Value} : am_W G (am_M G d) 30 K 68 (z0 :: some (.long a) :: lv) st h nc ns = (am_W G (am_M G d) 30 K 69 (z0 :: some (.long a) :: lv) (.long a :: st) h nc ns) := am_u e_30_68
theorem e_30_69 : pg_code 30 69 = some (.lconst 0, 1, 0, 0) := by decide +kernel
theorem u_30_69 {lv : am_L} {st : List Value} : am_W G (am_M G d) 30 K 69 lv st h nc ns = (am_W G (am_M G d) 30 K 70 lv (.long 0 :: st) h nc ns) := am_u e_30_69
theorem e_30_70 : pg_code 30 70 = some (.lcmp, 1, 0, 0) := by decide +kernel
theorem u_30_70 {a b : Int64} {lv : am_L} {st : List Value} : am_W G (am_M G d) 30 K 70 lv (.long b :: .long a :: st) h nc ns = (am_W G (am_M G d) 30 K 71 lv (.int (lg_cmp a b) :: st) h nc ns) := am_u e_30_70
theorem e_30_71 : pg_code 30 71 = some (.ifCond .eq 7, 3, 78, 0) := by decide +kernel
theorem u_30_71 {a : Int32} {lv : am_L} {st : List Value} : am_W G (am_M G d) 30 K 71 lv (.int a :: st) h nc ns = (am_br (a = 0) (am_W G (am_M G d) 30 K 78 lv st h nc ns) (am_W G (am_M G d) 30 K 74 lv st h nc ns)) := am_u e_30_71
theorem e_30_74 : pg_code 30 74 = some (.lload_n 1, 1, 0, 0) := by decide +kernel
theorem u_30_74 {a : Int64} {z0 : Option Value} {lv : am_L} {st : List Value} : am_W G (am_M G d) 30 K 74 (z0 :: some (.long a) :: lv) st h nc ns = (am_W G (am_M G d) 30 K 75 (z0 :: some (.long a) :: lv) (.long a :: st) h nc ns) := am_u e_30_74
theorem e_30_75 : pg_code 30 75 = some (.goto 4, 3, 79, 0) := by decide +kernel
theorem u_30_75 {lv : am_L} {st : List Value} : am_W G (am_M G d) 30 K 75 lv st h nc ns = (am_W G (am_M G d) 30 K 79 lv st h nc ns) := am_u e_30_75
theorem e_30_78 : pg_code 30 78 = some (.lload_n 3, 1, 0, 0) := by decide +kernel
theorem u_30_78 {a : Int64} {z0 : Option Value} {z1 : Option Value} {z2 : Option Value} {lv : am_L} {st : List Value} : am_W G (am_M G d) 30 K 78 (z0 :: z1 :: z2 :: some (.long a) :: lv) st h nc ns = (am_W G (am_M G d) 30 K 79 (z0 :: z1 :: z2 :: some (.long a) :: lv) (.long a :: st) h nc ns) := am_u e_30_78
theorem e_30_79 : pg_code 30 79 = some (.lreturn, 1, 0, 0) := by decide +kernel
theorem u_30_79 {a : Int64} {lv : am_L} : am_W G (am_M G d) 30 K 79 lv [.long a] h nc ns = (K (.inl (some (.long a))) h) := (am_u e_30_79).trans (f_t ⟨rfl, rfl⟩)
theorem e_31_0 : pg_code 31 0 = some (.aload_n 0, 1, 0, 0) := by decide +kernel
theorem u_31_0 {a : Nat} {lv : am_L} {st : List Value} : am_W G (am_M G d) 31 K 0 (some (.ref a) :: lv) st h nc ns = (am_W G (am_M G d) 31 K 1 (some (.ref a) :: lv) (.ref a :: st) h nc ns) := am_u e_31_0
theorem e_31_1 : pg_code 31 1 = some (.getfield 24, 3, 0, 1) := by decide +kernel
theorem u_31_1 {a : Nat} {lv : am_L} {st : List Value} : am_W G (am_M G d) 31 K 1 lv (.ref a :: st) h nc ns = (f_gf G d 31 K 4 lv st h nc ns (h a) 0 1) := am_u e_31_1
theorem e_31_4 : pg_code 31 4 = some (.getfield 191, 3, 3, 2) := by decide +kernel
theorem u_31_4 {a : Nat} {lv : am_L} {st : List Value} : am_W G (am_M G d) 31 K 4 lv (.ref a :: st) h nc ns = (f_gf G d 31 K 7 lv st h nc ns (h a) 3 2) := am_u e_31_4
theorem e_31_7 : pg_code 31 7 = some (.ifCond .ne 5, 3, 12, 0) := by decide +kernel
theorem u_31_7 {a : Int32} {lv : am_L} {st : List Value} : am_W G (am_M G d) 31 K 7 lv (.int a :: st) h nc ns = (am_br (¬ a = 0) (am_W G (am_M G d) 31 K 12 lv st h nc ns) (am_W G (am_M G d) 31 K 10 lv st h nc ns)) := am_u e_31_7
theorem e_31_10 : pg_code 31 10 = some (.iconst 0, 1, 0, 0) := by decide +kernel
theorem u_31_10 {lv : am_L} {st : List Value} : am_W G (am_M G d) 31 K 10 lv st h nc ns = (am_W G (am_M G d) 31 K 11 lv (.int 0 :: st) h nc ns) := am_u e_31_10
theorem e_31_11 : pg_code 31 11 = some (.ireturn, 1, 0, 0) := by decide +kernel
theorem u_31_11 {a : Int32} {lv : am_L} : am_W G (am_M G d) 31 K 11 lv [.int a] h nc ns = (narrow .boolean (.int a) = .int a ∧ K (.inl (some (.int a))) h) := (am_u e_31_11).trans (f_z_eq rfl)
theorem e_31_12 : pg_code 31 12 = some (.aload_n 0, 1, 0, 0) := by decide +kernel
theorem u_31_12 {a : Nat} {lv : am_L} {st : List Value} : am_W G (am_M G d) 31 K 12 (some (.ref a) :: lv) st h nc ns = (am_W G (am_M G d) 31 K 13 (some (.ref a) :: lv) (.ref a :: st) h nc ns) := am_u e_31_12
theorem e_31_13 : pg_code 31 13 = some (.getfield 24, 3, 0, 1) := by decide +kernel
theorem u_31_13 {a : Nat} {lv : am_L} {st : List Value} : am_W G (am_M G d) 31 K 13 lv (.ref a :: st) h nc ns = (f_gf G d 31 K 16 lv st h nc ns (h a) 0 1) := am_u e_31_13
theorem e_31_16 : pg_code 31 16 = some (.aload_n 0, 1, 0, 0) := by decide +kernel
theorem u_31_16 {a : Nat} {lv : am_L} {st : List Value} : am_W G (am_M G d) 31 K 16 (some (.ref a) :: lv) st h nc ns = (am_W G (am_M G d) 31 K 17 (some (.ref a) :: lv) (.ref a :: st) h nc ns) := am_u e_31_16
theorem e_31_17 : pg_code 31 17 = some (.getfield 15, 3, 0, 0) := by decide +kernel
theorem u_31_17 {a : Nat} {lv : am_L} {st : List Value} : am_W G (am_M G d) 31 K 17 lv (.ref a :: st) h nc ns = (f_gf G d 31 K 20 lv st h nc ns (h a) 0 0) := am_u e_31_17
theorem e_31_20 : pg_code 31 20 = some (.invokevirtual 192, 3, 32, 2) := by decide +kernel
theorem u_31_20 {a : Nat} {v0 : Value} {lv : am_L} {st : List Value} : am_W G (am_M G d) 31 K 20 lv (v0 :: .ref a :: st) h nc ns = ((am_words st ≤ 8 ∧ nc + 0 ≤ 0 ∧ ns + 0 ≤ 0 ∧ f_rc (h a) 3) ∧ am_M G d 32 [.ref a, v0] h (am_back 31 K (am_W G (am_M G d) 31 K) 32 20 lv st nc ns)) := (am_u e_31_20).trans (f_iv_eq (a := a) (G := G) (d := d) (k := 31) (K := K) (pc := 20) (lv := lv) (st := st) (h := h) (nc := nc) (ns := ns) (x := 32) (X := am_W G (am_M G d) 31 K) [v0] (by decide) rfl)
theorem e_31_23 : pg_code 31 23 = some (.aload_n 0, 1, 0, 0) := by decide +kernel
theorem u_31_23 {a : Nat} {lv : am_L} {st : List Value} : am_W G (am_M G d) 31 K 23 (some (.ref a) :: lv) st h nc ns = (am_W G (am_M G d) 31 K 24 (some (.ref a) :: lv) (.ref a :: st) h nc ns) := am_u e_31_23
theorem e_31_24 : pg_code 31 24 = some (.getfield 31, 3, 0, 2) := by decide +kernel
theorem u_31_24 {a : Nat} {lv : am_L} {st : List Value} : am_W G (am_M G d) 31 K 24 lv (.ref a :: st) h nc ns = (f_gf G d 31 K 27 lv st h nc ns (h a) 0 2) := am_u e_31_24
theorem e_31_27 : pg_code 31 27 = some (.invokevirtual 82, 3, 33, 1) := by decide +kernel
theorem u_31_27 {a : Nat} {lv : am_L} {st : List Value} : am_W G (am_M G d) 31 K 27 lv (.ref a :: st) h nc ns = ((am_words st ≤ 8 ∧ nc + 0 ≤ 0 ∧ ns + 0 ≤ 0 ∧ f_rc (h a) 4) ∧ am_M G d 33 [.ref a] h (am_back 31 K (am_W G (am_M G d) 31 K) 33 27 lv st nc ns)) := (am_u e_31_27).trans (f_iv_eq (a := a) (G := G) (d := d) (k := 31) (K := K) (pc := 27) (lv := lv) (st := st) (h := h) (nc := nc) (ns := ns) (x := 33) (X := am_W G (am_M G d) 31 K) [] (by decide) rfl)
theorem e_31_30 : pg_code 31 30 = some (.aload_n 0, 1, 0, 0) := by decide +kernel
theorem u_31_30 {a : Nat} {lv : am_L} {st : List Value} : am_W G (am_M G d) 31 K 30 (some (.ref a) :: lv) st h nc ns = (am_W G (am_M G d) 31 K 31 (some (.ref a) :: lv) (.ref a :: st) h nc ns) := am_u e_31_30
theorem e_31_31 : pg_code 31 31 = some (.iconst 0, 1, 0, 0) := by decide +kernel
theorem u_31_31 {lv : am_L} {st : List Value} : am_W G (am_M G d) 31 K 31 lv st h nc ns = (am_W G (am_M G d) 31 K 32 lv (.int 0 :: st) h nc ns) := am_u e_31_31
theorem e_31_32 : pg_code 31 32 = some (.putfield 123, 3, 0, 6) := by decide +kernel
theorem u_31_32 {a : Nat} {b : Int32} {lv : am_L} {st : List Value} : am_W G (am_M G d) 31 K 32 lv (.int b :: .ref a :: st) h nc ns = (f_pf G d 31 K 35 lv st h nc ns (h a) 0 6 a (.int b)) := (am_u e_31_32).trans (f_pf_eq ⟨rfl, rfl⟩)
theorem e_31_35 : pg_code 31 35 = some (.iconst 1, 1, 0, 0) := by decide +kernel
theorem u_31_35 {lv : am_L} {st : List Value} : am_W G (am_M G d) 31 K 35 lv st h nc ns = (am_W G (am_M G d) 31 K 36 lv (.int 1 :: st) h nc ns) := am_u e_31_35
theorem e_31_36 : pg_code 31 36 = some (.ireturn, 1, 0, 0) := by decide +kernel
theorem u_31_36 {a : Int32} {lv : am_L} : am_W G (am_M G d) 31 K 36 lv [.int a] h nc ns = (narrow .boolean (.int a) = .int a ∧ K (.inl (some (.int a))) h) := (am_u e_31_36).trans (f_z_eq rfl)
theorem e_32_0 : pg_code 32 0 = some (.aload_n 0, 1, 0, 0) := by decide +kernel
theorem u_32_0 {a : Nat} {lv : am_L} {st : List Value} : am_W G (am_M G d) 32 K 0 (some (.ref a) :: lv) st h nc ns = (am_W G (am_M G d) 32 K 1 (some (.ref a) :: lv) (.ref a :: st) h nc ns) := am_u e_32_0
theorem e_32_1 : pg_code 32 1 = some (.aload_n 0, 1, 0, 0) := by decide +kernel
theorem u_32_1 {a : Nat} {lv : am_L} {st : List Value} : am_W G (am_M G d) 32 K 1 (some (.ref a) :: lv) st h nc ns = (am_W G (am_M G d) 32 K 2 (some (.ref a) :: lv) (.ref a :: st) h nc ns) := am_u e_32_1
theorem e_32_2 : pg_code 32 2 = some (.getfield 23, 3, 3, 1) := by decide +kernel
theorem u_32_2 {a : Nat} {lv : am_L} {st : List Value} : am_W G (am_M G d) 32 K 2 lv (.ref a :: st) h nc ns = (f_gf G d 32 K 5 lv st h nc ns (h a) 3 1) := am_u e_32_2
theorem e_32_5 : pg_code 32 5 = some (.bipush 16, 2, 0, 0) := by decide +kernel
theorem u_32_5 {lv : am_L} {st : List Value} : am_W G (am_M G d) 32 K 5 lv st h nc ns = (am_W G (am_M G d) 32 K 7 lv (.int 16 :: st) h nc ns) := am_u e_32_5
theorem e_32_7 : pg_code 32 7 = some (.iadd, 1, 0, 0) := by decide +kernel
theorem u_32_7 {a b : Int32} {lv : am_L} {st : List Value} : am_W G (am_M G d) 32 K 7 lv (.int b :: .int a :: st) h nc ns = (am_W G (am_M G d) 32 K 8 lv (.int (a + b) :: st) h nc ns) := am_u e_32_7
theorem e_32_8 : pg_code 32 8 = some (.iconst 1, 1, 0, 0) := by decide +kernel
theorem u_32_8 {lv : am_L} {st : List Value} : am_W G (am_M G d) 32 K 8 lv st h nc ns = (am_W G (am_M G d) 32 K 9 lv (.int 1 :: st) h nc ns) := am_u e_32_8
theorem e_32_9 : pg_code 32 9 = some (.isub, 1, 0, 0) := by decide +kernel
theorem u_32_9 {a b : Int32} {lv : am_L} {st : List Value} : am_W G (am_M G d) 32 K 9 lv (.int b :: .int a :: st) h nc ns = (am_W G (am_M G d) 32 K 10 lv (.int (a - b) :: st) h nc ns) := am_u e_32_9
theorem e_32_10 : pg_code 32 10 = some (.bipush 16, 2, 0, 0) := by decide +kernel
theorem u_32_10 {lv : am_L} {st : List Value} : am_W G (am_M G d) 32 K 10 lv st h nc ns = (am_W G (am_M G d) 32 K 12 lv (.int 16 :: st) h nc ns) := am_u e_32_10
theorem e_32_12 : pg_code 32 12 = some (.irem, 1, 0, 0) := by decide +kernel
theorem u_32_12 {a b : Int32} {lv : am_L} {st : List Value} : am_W G (am_M G d) 32 K 12 lv (.int b :: .int a :: st) h nc ns = (¬ b = 0 ∧ am_W G (am_M G d) 32 K 13 lv (.int (a - a / b * b) :: st) h nc ns) := am_u e_32_12
theorem e_32_13 : pg_code 32 13 = some (.putfield 23, 3, 3, 1) := by decide +kernel
theorem u_32_13 {a : Nat} {b : Int32} {lv : am_L} {st : List Value} : am_W G (am_M G d) 32 K 13 lv (.int b :: .ref a :: st) h nc ns = (f_pf G d 32 K 16 lv st h nc ns (h a) 3 1 a (.int b)) := (am_u e_32_13).trans (f_pf_eq ⟨rfl, rfl⟩)
theorem e_32_16 : pg_code 32 16 = some (.aload_n 0, 1, 0, 0) := by decide +kernel
theorem u_32_16 {a : Nat} {lv : am_L} {st : List Value} : am_W G (am_M G d) 32 K 16 (some (.ref a) :: lv) st h nc ns = (am_W G (am_M G d) 32 K 17 (some (.ref a) :: lv) (.ref a :: st) h nc ns) := am_u e_32_16
theorem e_32_17 : pg_code 32 17 = some (.dup, 1, 0, 0) := by decide +kernel
theorem u_32_17 {a : Nat} {lv : am_L} {st : List Value} : am_W G (am_M G d) 32 K 17 lv (.ref a :: st) h nc ns = (am_W G (am_M G d) 32 K 18 lv (.ref a :: .ref a :: st) h nc ns) := (am_u e_32_17).trans (f_t rfl)
theorem e_32_18 : pg_code 32 18 = some (.getfield 31, 3, 3, 2) := by decide +kernel
theorem u_32_18 {a : Nat} {lv : am_L} {st : List Value} : am_W G (am_M G d) 32 K 18 lv (.ref a :: st) h nc ns = (f_gf G d 32 K 21 lv st h nc ns (h a) 3 2) := am_u e_32_18
theorem e_32_21 : pg_code 32 21 = some (.iconst 1, 1, 0, 0) := by decide +kernel
theorem u_32_21 {lv : am_L} {st : List Value} : am_W G (am_M G d) 32 K 21 lv st h nc ns = (am_W G (am_M G d) 32 K 22 lv (.int 1 :: st) h nc ns) := am_u e_32_21
theorem e_32_22 : pg_code 32 22 = some (.isub, 1, 0, 0) := by decide +kernel
theorem u_32_22 {a b : Int32} {lv : am_L} {st : List Value} : am_W G (am_M G d) 32 K 22 lv (.int b :: .int a :: st) h nc ns = (am_W G (am_M G d) 32 K 23 lv (.int (a - b) :: st) h nc ns) := am_u e_32_22
theorem e_32_23 : pg_code 32 23 = some (.putfield 31, 3, 3, 2) := by decide +kernel
theorem u_32_23 {a : Nat} {b : Int32} {lv : am_L} {st : List Value} : am_W G (am_M G d) 32 K 23 lv (.int b :: .ref a :: st) h nc ns = (f_pf G d 32 K 26 lv st h nc ns (h a) 3 2 a (.int b)) := (am_u e_32_23).trans (f_pf_eq ⟨rfl, rfl⟩)
theorem e_32_26 : pg_code 32 26 = some (.aload_n 1, 1, 0, 0) := by decide +kernel
theorem u_32_26 {a : Nat} {z0 : Option Value} {lv : am_L} {st : List Value} : am_W G (am_M G d) 32 K 26 (z0 :: some (.ref a) :: lv) st h nc ns = (am_W G (am_M G d) 32 K 27 (z0 :: some (.ref a) :: lv) (.ref a :: st) h nc ns) := am_u e_32_26
theorem e_32_27 : pg_code 32 27 = some (.aload_n 0, 1, 0, 0) := by decide +kernel
theorem u_32_27 {a : Nat} {lv : am_L} {st : List Value} : am_W G (am_M G d) 32 K 27 (some (.ref a) :: lv) st h nc ns = (am_W G (am_M G d) 32 K 28 (some (.ref a) :: lv) (.ref a :: st) h nc ns) := am_u e_32_27
theorem e_32_28 : pg_code 32 28 = some (.getfield 11, 3, 3, 0) := by decide +kernel
theorem u_32_28 {a : Nat} {lv : am_L} {st : List Value} : am_W G (am_M G d) 32 K 28 lv (.ref a :: st) h nc ns = (f_gf G d 32 K 31 lv st h nc ns (h a) 3 0) := am_u e_32_28
theorem e_32_31 : pg_code 32 31 = some (.aload_n 0, 1, 0, 0) := by decide +kernel
theorem u_32_31 {a : Nat} {lv : am_L} {st : List Value} : am_W G (am_M G d) 32 K 31 (some (.ref a) :: lv) st h nc ns = (am_W G (am_M G d) 32 K 32 (some (.ref a) :: lv) (.ref a :: st) h nc ns) := am_u e_32_31
theorem e_32_32 : pg_code 32 32 = some (.getfield 23, 3, 3, 1) := by decide +kernel
theorem u_32_32 {a : Nat} {lv : am_L} {st : List Value} : am_W G (am_M G d) 32 K 32 lv (.ref a :: st) h nc ns = (f_gf G d 32 K 35 lv st h nc ns (h a) 3 1) := am_u e_32_32
theorem e_32_35 : pg_code 32 35 = some (.aaload, 1, 0, 0) := by decide +kernel
theorem u_32_35 {a : Nat} {j : Int32} {lv : am_L} {st : List Value} : am_W G (am_M G d) 32 K 35 lv (.int j :: .ref a :: st) h nc ns = (f_aa G d 32 K 36 lv st h nc ns (h a) j) := am_u e_32_35
theorem e_32_36 : pg_code 32 36 = some (.invokevirtual 27, 3, 9, 2) := by decide +kernel
theorem u_32_36 {a : Nat} {v0 : Value} {lv : am_L} {st : List Value} : am_W G (am_M G d) 32 K 36 lv (v0 :: .ref a :: st) h nc ns = ((am_words st ≤ 8 ∧ nc + 0 ≤ 0 ∧ ns + 0 ≤ 0 ∧ f_rc (h a) 5) ∧ am_M G d 9 [.ref a, v0] h (am_back 32 K (am_W G (am_M G d) 32 K) 9 36 lv st nc ns)) := (am_u e_32_36).trans (f_iv_eq (a := a) (G := G) (d := d) (k := 32) (K := K) (pc := 36) (lv := lv) (st := st) (h := h) (nc := nc) (ns := ns) (x := 9) (X := am_W G (am_M G d) 32 K) [v0] (by decide) rfl)
theorem e_32_39 : pg_code 32 39 = some (.return_, 1, 0, 0) := by decide +kernel
theorem u_32_39 {lv : am_L} : am_W G (am_M G d) 32 K 39 lv [] h nc ns = (K (.inl none) h) := (am_u e_32_39).trans (f_t ⟨rfl, rfl⟩)
theorem e_33_0 : pg_code 33 0 = some (.aload_n 0, 1, 0, 0) := by decide +kernel
theorem u_33_0 {a : Nat} {lv : am_L} {st : List Value} : am_W G (am_M G d) 33 K 0 (some (.ref a) :: lv) st h nc ns = (am_W G (am_M G d) 33 K 1 (some (.ref a) :: lv) (.ref a :: st) h nc ns) := am_u e_33_0
theorem e_33_1 : pg_code 33 1 = some (.iconst 0, 1, 0, 0) := by decide +kernel
theorem u_33_1 {lv : am_L} {st : List Value} : am_W G (am_M G d) 33 K 1 lv st h nc ns = (am_W G (am_M G d) 33 K 2 lv (.int 0 :: st) h nc ns) := am_u e_33_1
theorem e_33_2 : pg_code 33 2 = some (.putfield 38, 3, 4, 8) := by decide +kernel
theorem u_33_2 {a : Nat} {b : Int32} (hb : b = 0 ∨ b = 1) {lv : am_L} {st : List Value} : am_W G (am_M G d) 33 K 2 lv (.int b :: .ref a :: st) h nc ns = (f_pf G d 33 K 5 lv st h nc ns (h a) 4 8 a (.int b)) := (am_u e_33_2).trans (f_pfz_eq rfl hb)
theorem e_33_5 : pg_code 33 5 = some (.return_, 1, 0, 0) := by decide +kernel
theorem u_33_5 {lv : am_L} : am_W G (am_M G d) 33 K 5 lv [] h nc ns = (K (.inl none) h) := (am_u e_33_5).trans (f_t ⟨rfl, rfl⟩)
theorem e_34_0 : pg_code 34 0 = some (.aload_n 0, 1, 0, 0) := by decide +kernel
theorem u_34_0 {a : Nat} {lv : am_L} {st : List Value} : am_W G (am_M G d) 34 K 0 (some (.ref a) :: lv) st h nc ns = (am_W G (am_M G d) 34 K 1 (some (.ref a) :: lv) (.ref a :: st) h nc ns) := am_u e_34_0
theorem e_34_1 : pg_code 34 1 = some (.getfield 31, 3, 0, 2) := by decide +kernel
theorem u_34_1 {a : Nat} {lv : am_L} {st : List Value} : am_W G (am_M G d) 34 K 1 lv (.ref a :: st) h nc ns = (f_gf G d 34 K 4 lv st h nc ns (h a) 0 2) := am_u e_34_1
theorem e_34_4 : pg_code 34 4 = some (.invokevirtual 113, 3, 11, 1) := by decide +kernel
theorem u_34_4 {a : Nat} {lv : am_L} {st : List Value} : am_W G (am_M G d) 34 K 4 lv (.ref a :: st) h nc ns = ((am_words st ≤ 8 ∧ nc + 0 ≤ 0 ∧ ns + 0 ≤ 0 ∧ f_rc (h a) 4) ∧ am_M G d 11 [.ref a] h (am_back 34 K (am_W G (am_M G d) 34 K) 11 4 lv st nc ns)) := (am_u e_34_4).trans (f_iv_eq (a := a) (G := G) (d := d) (k := 34) (K := K) (pc := 4) (lv := lv) (st := st) (h := h) (nc := nc) (ns := ns) (x := 11) (X := am_W G (am_M G d) 34 K) [] (by decide) rfl)
theorem e_34_7 : pg_code 34 7 = some (.aload_n 0, 1, 0, 0) := by decide +kernel
theorem u_34_7 {a : Nat} {lv : am_L} {st : List Value} : am_W G (am_M G d) 34 K 7 (some (.ref a) :: lv) st h nc ns = (am_W G (am_M G d) 34 K 8 (some (.ref a) :: lv) (.ref a :: st) h nc ns) := am_u e_34_7
theorem e_34_8 : pg_code 34 8 = some (.getfield 31, 3, 0, 2) := by decide +kernel
theorem u_34_8 {a : Nat} {lv : am_L} {st : List Value} : am_W G (am_M G d) 34 K 8 lv (.ref a :: st) h nc ns = (f_gf G d 34 K 11 lv st h nc ns (h a) 0 2) := am_u e_34_8
theorem e_34_11 : pg_code 34 11 = some (.getfield 207, 3, 4, 7) := by decide +kernel
theorem u_34_11 {a : Nat} {lv : am_L} {st : List Value} : am_W G (am_M G d) 34 K 11 lv (.ref a :: st) h nc ns = (f_gf G d 34 K 14 lv st h nc ns (h a) 4 7) := am_u e_34_11
theorem e_34_14 : pg_code 34 14 = some (.ireturn, 1, 0, 0) := by decide +kernel
theorem u_34_14 {a : Int32} {lv : am_L} : am_W G (am_M G d) 34 K 14 lv [.int a] h nc ns = (K (.inl (some (.int a))) h) := (am_u e_34_14).trans (f_t ⟨rfl, .int, rfl, rfl⟩)
theorem e_35_0 : pg_code 35 0 = some (.iload_n 1, 1, 0, 0) := by decide +kernel
theorem u_35_0 {a : Int32} {z0 : Option Value} {lv : am_L} {st : List Value} : am_W G (am_M G d) 35 K 0 (z0 :: some (.int a) :: lv) st h nc ns = (am_W G (am_M G d) 35 K 1 (z0 :: some (.int a) :: lv) (.int a :: st) h nc ns) := am_u e_35_0
theorem e_35_1 : pg_code 35 1 = some (.tableswitch 133 0 9 #[55, 63, 74, 79, 87, 92, 97, 106, 115, 124], 55, 0, 0) := by decide +kernel
theorem u_35_1 {a : Int32} {lv : am_L} {st : List Value} : am_W G (am_M G d) 35 K 1 lv (.int a :: st) h nc ns = (am_W G (am_M G d) 35 K (am_tsw 133 0 9 #[55, 63, 74, 79, 87, 92, 97, 106, 115, 124] 1 a) lv st h nc ns) := am_u e_35_1
theorem e_35_56 : pg_code 35 56 = some (.aload_n 0, 1, 0, 0) := by decide +kernel
theorem u_35_56 {a : Nat} {lv : am_L} {st : List Value} : am_W G (am_M G d) 35 K 56 (some (.ref a) :: lv) st h nc ns = (am_W G (am_M G d) 35 K 57 (some (.ref a) :: lv) (.ref a :: st) h nc ns) := am_u e_35_56
theorem e_35_57 : pg_code 35 57 = some (.getfield 15, 3, 0, 0) := by decide +kernel
theorem u_35_57 {a : Nat} {lv : am_L} {st : List Value} : am_W G (am_M G d) 35 K 57 lv (.ref a :: st) h nc ns = (f_gf G d 35 K 60 lv st h nc ns (h a) 0 0) := am_u e_35_57
theorem e_35_60 : pg_code 35 60 = some (.getfield 46, 3, 5, 2) := by decide +kernel
theorem u_35_60 {a : Nat} {lv : am_L} {st : List Value} : am_W G (am_M G d) 35 K 60 lv (.ref a :: st) h nc ns = (f_gf G d 35 K 63 lv st h nc ns (h a) 5 2) := am_u e_35_60
theorem e_35_63 : pg_code 35 63 = some (.ireturn, 1, 0, 0) := by decide +kernel
theorem u_35_63 {a : Int32} {lv : am_L} : am_W G (am_M G d) 35 K 63 lv [.int a] h nc ns = (K (.inl (some (.int a))) h) := (am_u e_35_63).trans (f_t ⟨rfl, .int, rfl, rfl⟩)
theorem e_35_64 : pg_code 35 64 = some (.aload_n 0, 1, 0, 0) := by decide +kernel
theorem u_35_64 {a : Nat} {lv : am_L} {st : List Value} : am_W G (am_M G d) 35 K 64 (some (.ref a) :: lv) st h nc ns = (am_W G (am_M G d) 35 K 65 (some (.ref a) :: lv) (.ref a :: st) h nc ns) := am_u e_35_64
theorem e_35_65 : pg_code 35 65 = some (.getfield 15, 3, 0, 0) := by decide +kernel
theorem u_35_65 {a : Nat} {lv : am_L} {st : List Value} : am_W G (am_M G d) 35 K 65 lv (.ref a :: st) h nc ns = (f_gf G d 35 K 68 lv st h nc ns (h a) 0 0) := am_u e_35_65
theorem e_35_68 : pg_code 35 68 = some (.getfield 64, 3, 5, 0) := by decide +kernel
theorem u_35_68 {a : Nat} {lv : am_L} {st : List Value} : am_W G (am_M G d) 35 K 68 lv (.ref a :: st) h nc ns = (f_gf G d 35 K 71 lv st h nc ns (h a) 5 0) := am_u e_35_68
theorem e_35_71 : pg_code 35 71 = some (.getfield 68, 3, 2, 3) := by decide +kernel
theorem u_35_71 {a : Nat} {lv : am_L} {st : List Value} : am_W G (am_M G d) 35 K 71 lv (.ref a :: st) h nc ns = (f_gf G d 35 K 74 lv st h nc ns (h a) 2 3) := am_u e_35_71
theorem e_35_74 : pg_code 35 74 = some (.ireturn, 1, 0, 0) := by decide +kernel
theorem u_35_74 {a : Int32} {lv : am_L} : am_W G (am_M G d) 35 K 74 lv [.int a] h nc ns = (K (.inl (some (.int a))) h) := (am_u e_35_74).trans (f_t ⟨rfl, .int, rfl, rfl⟩)
theorem e_35_75 : pg_code 35 75 = some (.aload_n 0, 1, 0, 0) := by decide +kernel
theorem u_35_75 {a : Nat} {lv : am_L} {st : List Value} : am_W G (am_M G d) 35 K 75 (some (.ref a) :: lv) st h nc ns = (am_W G (am_M G d) 35 K 76 (some (.ref a) :: lv) (.ref a :: st) h nc ns) := am_u e_35_75
theorem e_35_76 : pg_code 35 76 = some (.getfield 162, 3, 0, 4) := by decide +kernel
theorem u_35_76 {a : Nat} {lv : am_L} {st : List Value} : am_W G (am_M G d) 35 K 76 lv (.ref a :: st) h nc ns = (f_gf G d 35 K 79 lv st h nc ns (h a) 0 4) := am_u e_35_76
theorem e_35_79 : pg_code 35 79 = some (.ireturn, 1, 0, 0) := by decide +kernel
theorem u_35_79 {a : Int32} {lv : am_L} : am_W G (am_M G d) 35 K 79 lv [.int a] h nc ns = (K (.inl (some (.int a))) h) := (am_u e_35_79).trans (f_t ⟨rfl, .int, rfl, rfl⟩)
theorem e_35_80 : pg_code 35 80 = some (.aload_n 0, 1, 0, 0) := by decide +kernel
theorem u_35_80 {a : Nat} {lv : am_L} {st : List Value} : am_W G (am_M G d) 35 K 80 (some (.ref a) :: lv) st h nc ns = (am_W G (am_M G d) 35 K 81 (some (.ref a) :: lv) (.ref a :: st) h nc ns) := am_u e_35_80
theorem e_35_81 : pg_code 35 81 = some (.getfield 24, 3, 0, 1) := by decide +kernel
theorem u_35_81 {a : Nat} {lv : am_L} {st : List Value} : am_W G (am_M G d) 35 K 81 lv (.ref a :: st) h nc ns = (f_gf G d 35 K 84 lv st h nc ns (h a) 0 1) := am_u e_35_81
theorem e_35_84 : pg_code 35 84 = some (.getfield 191, 3, 3, 2) := by decide +kernel
theorem u_35_84 {a : Nat} {lv : am_L} {st : List Value} : am_W G (am_M G d) 35 K 84 lv (.ref a :: st) h nc ns = (f_gf G d 35 K 87 lv st h nc ns (h a) 3 2) := am_u e_35_84
theorem e_35_87 : pg_code 35 87 = some (.ireturn, 1, 0, 0) := by decide +kernel
theorem u_35_87 {a : Int32} {lv : am_L} : am_W G (am_M G d) 35 K 87 lv [.int a] h nc ns = (K (.inl (some (.int a))) h) := (am_u e_35_87).trans (f_t ⟨rfl, .int, rfl, rfl⟩)
theorem e_35_88 : pg_code 35 88 = some (.aload_n 0, 1, 0, 0) := by decide +kernel
theorem u_35_88 {a : Nat} {lv : am_L} {st : List Value} : am_W G (am_M G d) 35 K 88 (some (.ref a) :: lv) st h nc ns = (am_W G (am_M G d) 35 K 89 (some (.ref a) :: lv) (.ref a :: st) h nc ns) := am_u e_35_88
theorem e_35_89 : pg_code 35 89 = some (.getfield 123, 3, 0, 6) := by decide +kernel
theorem u_35_89 {a : Nat} {lv : am_L} {st : List Value} : am_W G (am_M G d) 35 K 89 lv (.ref a :: st) h nc ns = (f_gf G d 35 K 92 lv st h nc ns (h a) 0 6) := am_u e_35_89
theorem e_35_92 : pg_code 35 92 = some (.ireturn, 1, 0, 0) := by decide +kernel
theorem u_35_92 {a : Int32} {lv : am_L} : am_W G (am_M G d) 35 K 92 lv [.int a] h nc ns = (K (.inl (some (.int a))) h) := (am_u e_35_92).trans (f_t ⟨rfl, .int, rfl, rfl⟩)
theorem e_35_93 : pg_code 35 93 = some (.aload_n 0, 1, 0, 0) := by decide +kernel
theorem u_35_93 {a : Nat} {lv : am_L} {st : List Value} : am_W G (am_M G d) 35 K 93 (some (.ref a) :: lv) st h nc ns = (am_W G (am_M G d) 35 K 94 (some (.ref a) :: lv) (.ref a :: st) h nc ns) := am_u e_35_93
theorem e_35_94 : pg_code 35 94 = some (.getfield 135, 3, 0, 7) := by decide +kernel
theorem u_35_94 {a : Nat} {lv : am_L} {st : List Value} : am_W G (am_M G d) 35 K 94 lv (.ref a :: st) h nc ns = (f_gf G d 35 K 97 lv st h nc ns (h a) 0 7) := am_u e_35_94
theorem e_35_97 : pg_code 35 97 = some (.ireturn, 1, 0, 0) := by decide +kernel
theorem u_35_97 {a : Int32} {lv : am_L} : am_W G (am_M G d) 35 K 97 lv [.int a] h nc ns = (K (.inl (some (.int a))) h) := (am_u e_35_97).trans (f_t ⟨rfl, .int, rfl, rfl⟩)
theorem e_35_98 : pg_code 35 98 = some (.aload_n 0, 1, 0, 0) := by decide +kernel
theorem u_35_98 {a : Nat} {lv : am_L} {st : List Value} : am_W G (am_M G d) 35 K 98 (some (.ref a) :: lv) st h nc ns = (am_W G (am_M G d) 35 K 99 (some (.ref a) :: lv) (.ref a :: st) h nc ns) := am_u e_35_98
theorem e_35_99 : pg_code 35 99 = some (.getfield 15, 3, 0, 0) := by decide +kernel
theorem u_35_99 {a : Nat} {lv : am_L} {st : List Value} : am_W G (am_M G d) 35 K 99 lv (.ref a :: st) h nc ns = (f_gf G d 35 K 102 lv st h nc ns (h a) 0 0) := am_u e_35_99
theorem e_35_102 : pg_code 35 102 = some (.iconst 0, 1, 0, 0) := by decide +kernel
theorem u_35_102 {lv : am_L} {st : List Value} : am_W G (am_M G d) 35 K 102 lv st h nc ns = (am_W G (am_M G d) 35 K 103 lv (.int 0 :: st) h nc ns) := am_u e_35_102
theorem e_35_103 : pg_code 35 103 = some (.invokevirtual 215, 3, 36, 2) := by decide +kernel
theorem u_35_103 {a : Nat} {v0 : Value} {lv : am_L} {st : List Value} : am_W G (am_M G d) 35 K 103 lv (v0 :: .ref a :: st) h nc ns = ((am_words st ≤ 8 ∧ nc + 0 ≤ 0 ∧ ns + 0 ≤ 0 ∧ f_rc (h a) 5) ∧ am_M G d 36 [.ref a, v0] h (am_back 35 K (am_W G (am_M G d) 35 K) 36 103 lv st nc ns)) := (am_u e_35_103).trans (f_iv_eq (a := a) (G := G) (d := d) (k := 35) (K := K) (pc := 103) (lv := lv) (st := st) (h := h) (nc := nc) (ns := ns) (x := 36) (X := am_W G (am_M G d) 35 K) [v0] (by decide) rfl)
theorem e_35_106 : pg_code 35 106 = some (.ireturn, 1, 0, 0) := by decide +kernel
theorem u_35_106 {a : Int32} {lv : am_L} : am_W G (am_M G d) 35 K 106 lv [.int a] h nc ns = (K (.inl (some (.int a))) h) := (am_u e_35_106).trans (f_t ⟨rfl, .int, rfl, rfl⟩)
theorem e_35_107 : pg_code 35 107 = some (.aload_n 0, 1, 0, 0) := by decide +kernel
theorem u_35_107 {a : Nat} {lv : am_L} {st : List Value} : am_W G (am_M G d) 35 K 107 (some (.ref a) :: lv) st h nc ns = (am_W G (am_M G d) 35 K 108 (some (.ref a) :: lv) (.ref a :: st) h nc ns) := am_u e_35_107
theorem e_35_108 : pg_code 35 108 = some (.getfield 15, 3, 0, 0) := by decide +kernel
theorem u_35_108 {a : Nat} {lv : am_L} {st : List Value} : am_W G (am_M G d) 35 K 108 lv (.ref a :: st) h nc ns = (f_gf G d 35 K 111 lv st h nc ns (h a) 0 0) := am_u e_35_108
theorem e_35_111 : pg_code 35 111 = some (.iconst 1, 1, 0, 0) := by decide +kernel
theorem u_35_111 {lv : am_L} {st : List Value} : am_W G (am_M G d) 35 K 111 lv st h nc ns = (am_W G (am_M G d) 35 K 112 lv (.int 1 :: st) h nc ns) := am_u e_35_111
theorem e_35_112 : pg_code 35 112 = some (.invokevirtual 215, 3, 36, 2) := by decide +kernel
theorem u_35_112 {a : Nat} {v0 : Value} {lv : am_L} {st : List Value} : am_W G (am_M G d) 35 K 112 lv (v0 :: .ref a :: st) h nc ns = ((am_words st ≤ 8 ∧ nc + 0 ≤ 0 ∧ ns + 0 ≤ 0 ∧ f_rc (h a) 5) ∧ am_M G d 36 [.ref a, v0] h (am_back 35 K (am_W G (am_M G d) 35 K) 36 112 lv st nc ns)) := (am_u e_35_112).trans (f_iv_eq (a := a) (G := G) (d := d) (k := 35) (K := K) (pc := 112) (lv := lv) (st := st) (h := h) (nc := nc) (ns := ns) (x := 36) (X := am_W G (am_M G d) 35 K) [v0] (by decide) rfl)
theorem e_35_115 : pg_code 35 115 = some (.ireturn, 1, 0, 0) := by decide +kernel
theorem u_35_115 {a : Int32} {lv : am_L} : am_W G (am_M G d) 35 K 115 lv [.int a] h nc ns = (K (.inl (some (.int a))) h) := (am_u e_35_115).trans (f_t ⟨rfl, .int, rfl, rfl⟩)
theorem e_35_116 : pg_code 35 116 = some (.aload_n 0, 1, 0, 0) := by decide +kernel
theorem u_35_116 {a : Nat} {lv : am_L} {st : List Value} : am_W G (am_M G d) 35 K 116 (some (.ref a) :: lv) st h nc ns = (am_W G (am_M G d) 35 K 117 (some (.ref a) :: lv) (.ref a :: st) h nc ns) := am_u e_35_116
theorem e_35_117 : pg_code 35 117 = some (.getfield 15, 3, 0, 0) := by decide +kernel
theorem u_35_117 {a : Nat} {lv : am_L} {st : List Value} : am_W G (am_M G d) 35 K 117 lv (.ref a :: st) h nc ns = (f_gf G d 35 K 120 lv st h nc ns (h a) 0 0) := am_u e_35_117
theorem e_35_120 : pg_code 35 120 = some (.iconst 2, 1, 0, 0) := by decide +kernel
theorem u_35_120 {lv : am_L} {st : List Value} : am_W G (am_M G d) 35 K 120 lv st h nc ns = (am_W G (am_M G d) 35 K 121 lv (.int 2 :: st) h nc ns) := am_u e_35_120
theorem e_35_121 : pg_code 35 121 = some (.invokevirtual 215, 3, 36, 2) := by decide +kernel
theorem u_35_121 {a : Nat} {v0 : Value} {lv : am_L} {st : List Value} : am_W G (am_M G d) 35 K 121 lv (v0 :: .ref a :: st) h nc ns = ((am_words st ≤ 8 ∧ nc + 0 ≤ 0 ∧ ns + 0 ≤ 0 ∧ f_rc (h a) 5) ∧ am_M G d 36 [.ref a, v0] h (am_back 35 K (am_W G (am_M G d) 35 K) 36 121 lv st nc ns)) := (am_u e_35_121).trans (f_iv_eq (a := a) (G := G) (d := d) (k := 35) (K := K) (pc := 121) (lv := lv) (st := st) (h := h) (nc := nc) (ns := ns) (x := 36) (X := am_W G (am_M G d) 35 K) [v0] (by decide) rfl)
theorem e_35_124 : pg_code 35 124 = some (.ireturn, 1, 0, 0) := by decide +kernel
theorem u_35_124 {a : Int32} {lv : am_L} : am_W G (am_M G d) 35 K 124 lv [.int a] h nc ns = (K (.inl (some (.int a))) h) := (am_u e_35_124).trans (f_t ⟨rfl, .int, rfl, rfl⟩)
theorem e_35_125 : pg_code 35 125 = some (.aload_n 0, 1, 0, 0) := by decide +kernel
theorem u_35_125 {a : Nat} {lv : am_L} {st : List Value} : am_W G (am_M G d) 35 K 125 (some (.ref a) :: lv) st h nc ns = (am_W G (am_M G d) 35 K 126 (some (.ref a) :: lv) (.ref a :: st) h nc ns) := am_u e_35_125
theorem e_35_126 : pg_code 35 126 = some (.getfield 15, 3, 0, 0) := by decide +kernel
theorem u_35_126 {a : Nat} {lv : am_L} {st : List Value} : am_W G (am_M G d) 35 K 126 lv (.ref a :: st) h nc ns = (f_gf G d 35 K 129 lv st h nc ns (h a) 0 0) := am_u e_35_126
theorem e_35_129 : pg_code 35 129 = some (.iconst 3, 1, 0, 0) := by decide +kernel
theorem u_35_129 {lv : am_L} {st : List Value} : am_W G (am_M G d) 35 K 129 lv st h nc ns = (am_W G (am_M G d) 35 K 130 lv (.int 3 :: st) h nc ns) := am_u e_35_129
theorem e_35_130 : pg_code 35 130 = some (.invokevirtual 215, 3, 36, 2) := by decide +kernel
theorem u_35_130 {a : Nat} {v0 : Value} {lv : am_L} {st : List Value} : am_W G (am_M G d) 35 K 130 lv (v0 :: .ref a :: st) h nc ns = ((am_words st ≤ 8 ∧ nc + 0 ≤ 0 ∧ ns + 0 ≤ 0 ∧ f_rc (h a) 5) ∧ am_M G d 36 [.ref a, v0] h (am_back 35 K (am_W G (am_M G d) 35 K) 36 130 lv st nc ns)) := (am_u e_35_130).trans (f_iv_eq (a := a) (G := G) (d := d) (k := 35) (K := K) (pc := 130) (lv := lv) (st := st) (h := h) (nc := nc) (ns := ns) (x := 36) (X := am_W G (am_M G d) 35 K) [v0] (by decide) rfl)
theorem e_35_133 : pg_code 35 133 = some (.ireturn, 1, 0, 0) := by decide +kernel
theorem u_35_133 {a : Int32} {lv : am_L} : am_W G (am_M G d) 35 K 133 lv [.int a] h nc ns = (K (.inl (some (.int a))) h) := (am_u e_35_133).trans (f_t ⟨rfl, .int, rfl, rfl⟩)
theorem e_35_134 : pg_code 35 134 = some (.iconst (-1), 1, 0, 0) := by decide +kernel
theorem u_35_134 {lv : am_L} {st : List Value} : am_W G (am_M G d) 35 K 134 lv st h nc ns = (am_W G (am_M G d) 35 K 135 lv (.int (-1) :: st) h nc ns) := am_u e_35_134
theorem e_35_135 : pg_code 35 135 = some (.ireturn, 1, 0, 0) := by decide +kernel
theorem u_35_135 {a : Int32} {lv : am_L} : am_W G (am_M G d) 35 K 135 lv [.int a] h nc ns = (K (.inl (some (.int a))) h) := (am_u e_35_135).trans (f_t ⟨rfl, .int, rfl, rfl⟩)
theorem e_36_0 : pg_code 36 0 = some (.iconst 0, 1, 0, 0) := by decide +kernel
theorem u_36_0 {lv : am_L} {st : List Value} : am_W G (am_M G d) 36 K 0 lv st h nc ns = (am_W G (am_M G d) 36 K 1 lv (.int 0 :: st) h nc ns) := am_u e_36_0
theorem e_36_1 : pg_code 36 1 = some (.istore_n 2, 1, 0, 0) := by decide +kernel
theorem u_36_1 {a : Int32} {lv : am_L} {st : List Value} : am_W G (am_M G d) 36 K 1 lv (.int a :: st) h nc ns = (am_W G (am_M G d) 36 K 2 (am_st1 lv 2 (.int a)) st h nc ns) := (am_u e_36_1).trans (f_t (by decide +kernel))
theorem e_36_2 : pg_code 36 2 = some (.iconst 0, 1, 0, 0) := by decide +kernel
theorem u_36_2 {lv : am_L} {st : List Value} : am_W G (am_M G d) 36 K 2 lv st h nc ns = (am_W G (am_M G d) 36 K 3 lv (.int 0 :: st) h nc ns) := am_u e_36_2
theorem e_36_3 : pg_code 36 3 = some (.istore_n 3, 1, 0, 0) := by decide +kernel
theorem u_36_3 {a : Int32} {lv : am_L} {st : List Value} : am_W G (am_M G d) 36 K 3 lv (.int a :: st) h nc ns = (am_W G (am_M G d) 36 K 4 (am_st1 lv 3 (.int a)) st h nc ns) := (am_u e_36_3).trans (f_t (by decide +kernel))
theorem e_36_4 : pg_code 36 4 = some (.iload_n 3, 1, 0, 0) := by decide +kernel
theorem u_36_4 {a : Int32} {z0 : Option Value} {z1 : Option Value} {z2 : Option Value} {lv : am_L} {st : List Value} : am_W G (am_M G d) 36 K 4 (z0 :: z1 :: z2 :: some (.int a) :: lv) st h nc ns = (am_W G (am_M G d) 36 K 5 (z0 :: z1 :: z2 :: some (.int a) :: lv) (.int a :: st) h nc ns) := am_u e_36_4
theorem e_36_5 : pg_code 36 5 = some (.aload_n 0, 1, 0, 0) := by decide +kernel
theorem u_36_5 {a : Nat} {lv : am_L} {st : List Value} : am_W G (am_M G d) 36 K 5 (some (.ref a) :: lv) st h nc ns = (am_W G (am_M G d) 36 K 6 (some (.ref a) :: lv) (.ref a :: st) h nc ns) := am_u e_36_5
theorem e_36_6 : pg_code 36 6 = some (.getfield 42, 3, 5, 0) := by decide +kernel
theorem u_36_6 {a : Nat} {lv : am_L} {st : List Value} : am_W G (am_M G d) 36 K 6 lv (.ref a :: st) h nc ns = (f_gf G d 36 K 9 lv st h nc ns (h a) 5 0) := am_u e_36_6
theorem e_36_9 : pg_code 36 9 = some (.getfield 53, 3, 2, 3) := by decide +kernel
theorem u_36_9 {a : Nat} {lv : am_L} {st : List Value} : am_W G (am_M G d) 36 K 9 lv (.ref a :: st) h nc ns = (f_gf G d 36 K 12 lv st h nc ns (h a) 2 3) := am_u e_36_9
theorem e_36_12 : pg_code 36 12 = some (.if_icmp .ge 22, 3, 34, 0) := by decide +kernel
theorem u_36_12 {a b : Int32} {lv : am_L} {st : List Value} : am_W G (am_M G d) 36 K 12 lv (.int b :: .int a :: st) h nc ns = (am_br (b ≤ a) (am_W G (am_M G d) 36 K 34 lv st h nc ns) (am_W G (am_M G d) 36 K 15 lv st h nc ns)) := am_u e_36_12
theorem e_36_15 : pg_code 36 15 = some (.aload_n 0, 1, 0, 0) := by decide +kernel
theorem u_36_15 {a : Nat} {lv : am_L} {st : List Value} : am_W G (am_M G d) 36 K 15 (some (.ref a) :: lv) st h nc ns = (am_W G (am_M G d) 36 K 16 (some (.ref a) :: lv) (.ref a :: st) h nc ns) := am_u e_36_15
theorem e_36_16 : pg_code 36 16 = some (.getfield 19, 3, 5, 4) := by decide +kernel
theorem u_36_16 {a : Nat} {lv : am_L} {st : List Value} : am_W G (am_M G d) 36 K 16 lv (.ref a :: st) h nc ns = (f_gf G d 36 K 19 lv st h nc ns (h a) 5 4) := am_u e_36_16
theorem e_36_19 : pg_code 36 19 = some (.iload_n 3, 1, 0, 0) := by decide +kernel
theorem u_36_19 {a : Int32} {z0 : Option Value} {z1 : Option Value} {z2 : Option Value} {lv : am_L} {st : List Value} : am_W G (am_M G d) 36 K 19 (z0 :: z1 :: z2 :: some (.int a) :: lv) st h nc ns = (am_W G (am_M G d) 36 K 20 (z0 :: z1 :: z2 :: some (.int a) :: lv) (.int a :: st) h nc ns) := am_u e_36_19
theorem e_36_20 : pg_code 36 20 = some (.iaload, 1, 0, 0) := by decide +kernel
theorem u_36_20 {a : Nat} {j : Int32} {lv : am_L} {st : List Value} : am_W G (am_M G d) 36 K 20 lv (.int j :: .ref a :: st) h nc ns = (f_ia G d 36 K 21 lv st h nc ns (h a) .int j) := am_u e_36_20
theorem e_36_21 : pg_code 36 21 = some (.iload_n 1, 1, 0, 0) := by decide +kernel
theorem u_36_21 {a : Int32} {z0 : Option Value} {lv : am_L} {st : List Value} : am_W G (am_M G d) 36 K 21 (z0 :: some (.int a) :: lv) st h nc ns = (am_W G (am_M G d) 36 K 22 (z0 :: some (.int a) :: lv) (.int a :: st) h nc ns) := am_u e_36_21
theorem e_36_22 : pg_code 36 22 = some (.if_icmp .ne 6, 3, 28, 0) := by decide +kernel
theorem u_36_22 {a b : Int32} {lv : am_L} {st : List Value} : am_W G (am_M G d) 36 K 22 lv (.int b :: .int a :: st) h nc ns = (am_br (¬ a = b) (am_W G (am_M G d) 36 K 28 lv st h nc ns) (am_W G (am_M G d) 36 K 25 lv st h nc ns)) := am_u e_36_22
theorem e_36_25 : pg_code 36 25 = some (.iinc 2 1, 3, 0, 0) := by decide +kernel
theorem u_36_25 {a : Int32} {z0 : Option Value} {z1 : Option Value} {lv : am_L} {st : List Value} : am_W G (am_M G d) 36 K 25 (z0 :: z1 :: some (.int a) :: lv) st h nc ns = (am_W G (am_M G d) 36 K 28 (am_st1 (z0 :: z1 :: some (.int a) :: lv) 2 (.int (a + Int32.ofInt 1))) st h nc ns) := (am_u e_36_25).trans (f_t (by decide +kernel))
theorem e_36_28 : pg_code 36 28 = some (.iinc 3 1, 3, 0, 0) := by decide +kernel
theorem u_36_28 {a : Int32} {z0 : Option Value} {z1 : Option Value} {z2 : Option Value} {lv : am_L} {st : List Value} : am_W G (am_M G d) 36 K 28 (z0 :: z1 :: z2 :: some (.int a) :: lv) st h nc ns = (am_W G (am_M G d) 36 K 31 (am_st1 (z0 :: z1 :: z2 :: some (.int a) :: lv) 3 (.int (a + Int32.ofInt 1))) st h nc ns) := (am_u e_36_28).trans (f_t (by decide +kernel))
theorem e_36_31 : pg_code 36 31 = some (.goto (-27), 3, 4, 0) := by decide +kernel
theorem u_36_31 {lv : am_L} {st : List Value} : am_W G (am_M G d) 36 K 31 lv st h nc ns = (am_W G (am_M G d) 36 K 4 lv st h nc ns) := am_u e_36_31
theorem e_36_34 : pg_code 36 34 = some (.iload_n 2, 1, 0, 0) := by decide +kernel
theorem u_36_34 {a : Int32} {z0 : Option Value} {z1 : Option Value} {lv : am_L} {st : List Value} : am_W G (am_M G d) 36 K 34 (z0 :: z1 :: some (.int a) :: lv) st h nc ns = (am_W G (am_M G d) 36 K 35 (z0 :: z1 :: some (.int a) :: lv) (.int a :: st) h nc ns) := am_u e_36_34
theorem e_36_35 : pg_code 36 35 = some (.ireturn, 1, 0, 0) := by decide +kernel
theorem u_36_35 {a : Int32} {lv : am_L} : am_W G (am_M G d) 36 K 35 lv [.int a] h nc ns = (K (.inl (some (.int a))) h) := (am_u e_36_35).trans (f_t ⟨rfl, .int, rfl, rfl⟩)
theorem e_37_0 : pg_code 37 0 = some (.aload_n 3, 1, 0, 0) := by decide +kernel
theorem u_37_0 {a : Nat} {z0 : Option Value} {z1 : Option Value} {z2 : Option Value} {lv : am_L} {st : List Value} : am_W G (am_M G d) 37 K 0 (z0 :: z1 :: z2 :: some (.ref a) :: lv) st h nc ns = (am_W G (am_M G d) 37 K 1 (z0 :: z1 :: z2 :: some (.ref a) :: lv) (.ref a :: st) h nc ns) := am_u e_37_0
theorem e_37_1 : pg_code 37 1 = some (.iconst 0, 1, 0, 0) := by decide +kernel
theorem u_37_1 {lv : am_L} {st : List Value} : am_W G (am_M G d) 37 K 1 lv st h nc ns = (am_W G (am_M G d) 37 K 2 lv (.int 0 :: st) h nc ns) := am_u e_37_1
theorem e_37_2 : pg_code 37 2 = some (.aload_n 0, 1, 0, 0) := by decide +kernel
theorem u_37_2 {a : Nat} {lv : am_L} {st : List Value} : am_W G (am_M G d) 37 K 2 (some (.ref a) :: lv) st h nc ns = (am_W G (am_M G d) 37 K 3 (some (.ref a) :: lv) (.ref a :: st) h nc ns) := am_u e_37_2
theorem e_37_3 : pg_code 37 3 = some (.lload_n 1, 1, 0, 0) := by decide +kernel
theorem u_37_3 {a : Int64} {z0 : Option Value} {lv : am_L} {st : List Value} : am_W G (am_M G d) 37 K 3 (z0 :: some (.long a) :: lv) st h nc ns = (am_W G (am_M G d) 37 K 4 (z0 :: some (.long a) :: lv) (.long a :: st) h nc ns) := am_u e_37_3
theorem e_37_4 : pg_code 37 4 = some (.invokevirtual 7, 3, 38, 2) := by decide +kernel
theorem u_37_4 {a : Nat} {v0 : Value} {lv : am_L} {st : List Value} : am_W G (am_M G d) 37 K 4 lv (v0 :: .ref a :: st) h nc ns = ((am_words st ≤ 8 ∧ nc + 1 ≤ 1 ∧ ns + 6 ≤ 6 ∧ f_rc (h a) 0) ∧ am_M G d 38 [.ref a, v0] h (am_back 37 K (am_W G (am_M G d) 37 K) 38 4 lv st nc ns)) := (am_u e_37_4).trans (f_iv_eq (a := a) (G := G) (d := d) (k := 37) (K := K) (pc := 4) (lv := lv) (st := st) (h := h) (nc := nc) (ns := ns) (x := 38) (X := am_W G (am_M G d) 37 K) [v0] (by decide) rfl)
theorem e_37_7 : pg_code 37 7 = some (.i2l, 1, 0, 0) := by decide +kernel
theorem u_37_7 {a : Int32} {lv : am_L} {st : List Value} : am_W G (am_M G d) 37 K 7 lv (.int a :: st) h nc ns = (am_W G (am_M G d) 37 K 8 lv (.long a.toInt64 :: st) h nc ns) := am_u e_37_7
theorem e_37_8 : pg_code 37 8 = some (.lastore, 1, 0, 0) := by decide +kernel
theorem u_37_8 {a : Nat} {j : Int32} {b : Int64} {lv : am_L} {st : List Value} : am_W G (am_M G d) 37 K 8 lv (.long b :: .int j :: .ref a :: st) h nc ns = (f_ls G d 37 K 9 lv st h nc ns (h a) a j b) := am_u e_37_8
theorem e_37_9 : pg_code 37 9 = some (.goto 7, 3, 16, 0) := by decide +kernel
theorem u_37_9 {lv : am_L} {st : List Value} : am_W G (am_M G d) 37 K 9 lv st h nc ns = (am_W G (am_M G d) 37 K 16 lv st h nc ns) := am_u e_37_9
theorem e_37_12 : pg_code 37 12 = some (.astore 4, 2, 0, 0) := by decide +kernel
theorem u_37_12 {a : Nat} {lv : am_L} {st : List Value} : am_W G (am_M G d) 37 K 12 lv (.ref a :: st) h nc ns = (am_W G (am_M G d) 37 K 14 (am_st1 lv 4 (.ref a)) st h nc ns) := (am_u e_37_12).trans (f_t (by decide +kernel))
theorem e_37_14 : pg_code 37 14 = some (.iconst 1, 1, 0, 0) := by decide +kernel
theorem u_37_14 {lv : am_L} {st : List Value} : am_W G (am_M G d) 37 K 14 lv st h nc ns = (am_W G (am_M G d) 37 K 15 lv (.int 1 :: st) h nc ns) := am_u e_37_14
theorem e_37_15 : pg_code 37 15 = some (.ireturn, 1, 0, 0) := by decide +kernel
theorem u_37_15 {a : Int32} {lv : am_L} : am_W G (am_M G d) 37 K 15 lv [.int a] h nc ns = (K (.inl (some (.int a))) h) := (am_u e_37_15).trans (f_t ⟨rfl, .int, rfl, rfl⟩)
theorem e_37_16 : pg_code 37 16 = some (.iconst 0, 1, 0, 0) := by decide +kernel
theorem u_37_16 {lv : am_L} {st : List Value} : am_W G (am_M G d) 37 K 16 lv st h nc ns = (am_W G (am_M G d) 37 K 17 lv (.int 0 :: st) h nc ns) := am_u e_37_16
theorem e_37_17 : pg_code 37 17 = some (.ireturn, 1, 0, 0) := by decide +kernel
theorem u_37_17 {a : Int32} {lv : am_L} : am_W G (am_M G d) 37 K 17 lv [.int a] h nc ns = (K (.inl (some (.int a))) h) := (am_u e_37_17).trans (f_t ⟨rfl, .int, rfl, rfl⟩)
theorem e_38_0 : pg_code 38 0 = some (.aload_n 0, 1, 0, 0) := by decide +kernel
theorem u_38_0 {a : Nat} {lv : am_L} {st : List Value} : am_W G (am_M G d) 38 K 0 (some (.ref a) :: lv) st h nc ns = (am_W G (am_M G d) 38 K 1 (some (.ref a) :: lv) (.ref a :: st) h nc ns) := am_u e_38_0
theorem e_38_1 : pg_code 38 1 = some (.getfield 15, 3, 0, 0) := by decide +kernel
theorem u_38_1 {a : Nat} {lv : am_L} {st : List Value} : am_W G (am_M G d) 38 K 1 lv (.ref a :: st) h nc ns = (f_gf G d 38 K 4 lv st h nc ns (h a) 0 0) := am_u e_38_1
theorem e_38_4 : pg_code 38 4 = some (.getfield 46, 3, 5, 2) := by decide +kernel
theorem u_38_4 {a : Nat} {lv : am_L} {st : List Value} : am_W G (am_M G d) 38 K 4 lv (.ref a :: st) h nc ns = (f_gf G d 38 K 7 lv st h nc ns (h a) 5 2) := am_u e_38_4
theorem e_38_7 : pg_code 38 7 = some (.bipush 60, 2, 0, 0) := by decide +kernel
theorem u_38_7 {lv : am_L} {st : List Value} : am_W G (am_M G d) 38 K 7 lv st h nc ns = (am_W G (am_M G d) 38 K 9 lv (.int 60 :: st) h nc ns) := am_u e_38_7
theorem e_38_9 : pg_code 38 9 = some (.if_icmp .lt 13, 3, 22, 0) := by decide +kernel
theorem u_38_9 {a b : Int32} {lv : am_L} {st : List Value} : am_W G (am_M G d) 38 K 9 lv (.int b :: .int a :: st) h nc ns = (am_br (a < b) (am_W G (am_M G d) 38 K 22 lv st h nc ns) (am_W G (am_M G d) 38 K 12 lv st h nc ns)) := am_u e_38_9
theorem e_38_12 : pg_code 38 12 = some (.new 50, 3, 503, 0) := by decide +kernel
theorem u_38_12 {lv : am_L} {st : List Value} : am_W G (am_M G d) 38 K 12 lv st h nc ns = ((nc + 1 ≤ 1 ∧ ns + 6 ≤ 6 ∧ am_words st ≤ 8) ∧ K (.inr 503) h) := am_u e_38_12
theorem e_38_22 : pg_code 38 22 = some (.aload_n 0, 1, 0, 0) := by decide +kernel
theorem u_38_22 {a : Nat} {lv : am_L} {st : List Value} : am_W G (am_M G d) 38 K 22 (some (.ref a) :: lv) st h nc ns = (am_W G (am_M G d) 38 K 23 (some (.ref a) :: lv) (.ref a :: st) h nc ns) := am_u e_38_22
theorem e_38_23 : pg_code 38 23 = some (.getfield 24, 3, 0, 1) := by decide +kernel
theorem u_38_23 {a : Nat} {lv : am_L} {st : List Value} : am_W G (am_M G d) 38 K 23 lv (.ref a :: st) h nc ns = (f_gf G d 38 K 26 lv st h nc ns (h a) 0 1) := am_u e_38_23
theorem e_38_26 : pg_code 38 26 = some (.invokevirtual 57, 3, 39, 1) := by decide +kernel
theorem u_38_26 {a : Nat} {lv : am_L} {st : List Value} : am_W G (am_M G d) 38 K 26 lv (.ref a :: st) h nc ns = ((am_words st ≤ 8 ∧ nc + 0 ≤ 1 ∧ ns + 0 ≤ 6 ∧ f_rc (h a) 3) ∧ am_M G d 39 [.ref a] h (am_back 38 K (am_W G (am_M G d) 38 K) 39 26 lv st nc ns)) := (am_u e_38_26).trans (f_iv_eq (a := a) (G := G) (d := d) (k := 38) (K := K) (pc := 26) (lv := lv) (st := st) (h := h) (nc := nc) (ns := ns) (x := 39) (X := am_W G (am_M G d) 38 K) [] (by decide) rfl)
theorem e_38_29 : pg_code 38 29 = some (.aload_n 0, 1, 0, 0) := by decide +kernel
theorem u_38_29 {a : Nat} {lv : am_L} {st : List Value} : am_W G (am_M G d) 38 K 29 (some (.ref a) :: lv) st h nc ns = (am_W G (am_M G d) 38 K 30 (some (.ref a) :: lv) (.ref a :: st) h nc ns) := am_u e_38_29
theorem e_38_30 : pg_code 38 30 = some (.getfield 15, 3, 0, 0) := by decide +kernel
theorem u_38_30 {a : Nat} {lv : am_L} {st : List Value} : am_W G (am_M G d) 38 K 30 lv (.ref a :: st) h nc ns = (f_gf G d 38 K 33 lv st h nc ns (h a) 0 0) := am_u e_38_30
theorem e_38_33 : pg_code 38 33 = some (.lload_n 1, 1, 0, 0) := by decide +kernel
theorem u_38_33 {a : Int64} {z0 : Option Value} {lv : am_L} {st : List Value} : am_W G (am_M G d) 38 K 33 (z0 :: some (.long a) :: lv) st h nc ns = (am_W G (am_M G d) 38 K 34 (z0 :: some (.long a) :: lv) (.long a :: st) h nc ns) := am_u e_38_33
theorem e_38_34 : pg_code 38 34 = some (.invokevirtual 60, 3, 40, 2) := by decide +kernel
theorem u_38_34 {a : Nat} {v0 : Value} {lv : am_L} {st : List Value} : am_W G (am_M G d) 38 K 34 lv (v0 :: .ref a :: st) h nc ns = ((am_words st ≤ 8 ∧ nc + 0 ≤ 1 ∧ ns + 0 ≤ 6 ∧ f_rc (h a) 5) ∧ am_M G d 40 [.ref a, v0] h (am_back 38 K (am_W G (am_M G d) 38 K) 40 34 lv st nc ns)) := (am_u e_38_34).trans (f_iv_eq (a := a) (G := G) (d := d) (k := 38) (K := K) (pc := 34) (lv := lv) (st := st) (h := h) (nc := nc) (ns := ns) (x := 40) (X := am_W G (am_M G d) 38 K) [v0] (by decide) rfl)
theorem e_38_37 : pg_code 38 37 = some (.ireturn, 1, 0, 0) := by decide +kernel
theorem u_38_37 {a : Int32} {lv : am_L} : am_W G (am_M G d) 38 K 37 lv [.int a] h nc ns = (K (.inl (some (.int a))) h) := (am_u e_38_37).trans (f_t ⟨rfl, .int, rfl, rfl⟩)
theorem e_39_0 : pg_code 39 0 = some (.aload_n 0, 1, 0, 0) := by decide +kernel
theorem u_39_0 {a : Nat} {lv : am_L} {st : List Value} : am_W G (am_M G d) 39 K 0 (some (.ref a) :: lv) st h nc ns = (am_W G (am_M G d) 39 K 1 (some (.ref a) :: lv) (.ref a :: st) h nc ns) := am_u e_39_0
theorem e_39_1 : pg_code 39 1 = some (.iconst 0, 1, 0, 0) := by decide +kernel
theorem u_39_1 {lv : am_L} {st : List Value} : am_W G (am_M G d) 39 K 1 lv st h nc ns = (am_W G (am_M G d) 39 K 2 lv (.int 0 :: st) h nc ns) := am_u e_39_1
theorem e_39_2 : pg_code 39 2 = some (.putfield 31, 3, 3, 2) := by decide +kernel
theorem u_39_2 {a : Nat} {b : Int32} {lv : am_L} {st : List Value} : am_W G (am_M G d) 39 K 2 lv (.int b :: .ref a :: st) h nc ns = (f_pf G d 39 K 5 lv st h nc ns (h a) 3 2 a (.int b)) := (am_u e_39_2).trans (f_pf_eq ⟨rfl, rfl⟩)
theorem e_39_5 : pg_code 39 5 = some (.return_, 1, 0, 0) := by decide +kernel
theorem u_39_5 {lv : am_L} : am_W G (am_M G d) 39 K 5 lv [] h nc ns = (K (.inl none) h) := (am_u e_39_5).trans (f_t ⟨rfl, rfl⟩)
theorem e_40_0 : pg_code 40 0 = some (.aload_n 0, 1, 0, 0) := by decide +kernel
theorem u_40_0 {a : Nat} {lv : am_L} {st : List Value} : am_W G (am_M G d) 40 K 0 (some (.ref a) :: lv) st h nc ns = (am_W G (am_M G d) 40 K 1 (some (.ref a) :: lv) (.ref a :: st) h nc ns) := am_u e_40_0
theorem e_40_1 : pg_code 40 1 = some (.getfield 9, 3, 5, 1) := by decide +kernel
theorem u_40_1 {a : Nat} {lv : am_L} {st : List Value} : am_W G (am_M G d) 40 K 1 lv (.ref a :: st) h nc ns = (f_gf G d 40 K 4 lv st h nc ns (h a) 5 1) := am_u e_40_1
theorem e_40_4 : pg_code 40 4 = some (.aload_n 0, 1, 0, 0) := by decide +kernel
theorem u_40_4 {a : Nat} {lv : am_L} {st : List Value} : am_W G (am_M G d) 40 K 4 (some (.ref a) :: lv) st h nc ns = (am_W G (am_M G d) 40 K 5 (some (.ref a) :: lv) (.ref a :: st) h nc ns) := am_u e_40_4
theorem e_40_5 : pg_code 40 5 = some (.getfield 49, 3, 5, 2) := by decide +kernel
theorem u_40_5 {a : Nat} {lv : am_L} {st : List Value} : am_W G (am_M G d) 40 K 5 lv (.ref a :: st) h nc ns = (f_gf G d 40 K 8 lv st h nc ns (h a) 5 2) := am_u e_40_5
theorem e_40_8 : pg_code 40 8 = some (.lload_n 1, 1, 0, 0) := by decide +kernel
theorem u_40_8 {a : Int64} {z0 : Option Value} {lv : am_L} {st : List Value} : am_W G (am_M G d) 40 K 8 (z0 :: some (.long a) :: lv) st h nc ns = (am_W G (am_M G d) 40 K 9 (z0 :: some (.long a) :: lv) (.long a :: st) h nc ns) := am_u e_40_8
theorem e_40_9 : pg_code 40 9 = some (.lastore, 1, 0, 0) := by decide +kernel
theorem u_40_9 {a : Nat} {j : Int32} {b : Int64} {lv : am_L} {st : List Value} : am_W G (am_M G d) 40 K 9 lv (.long b :: .int j :: .ref a :: st) h nc ns = (f_ls G d 40 K 10 lv st h nc ns (h a) a j b) := am_u e_40_9
theorem e_40_10 : pg_code 40 10 = some (.aload_n 0, 1, 0, 0) := by decide +kernel
theorem u_40_10 {a : Nat} {lv : am_L} {st : List Value} : am_W G (am_M G d) 40 K 10 (some (.ref a) :: lv) st h nc ns = (am_W G (am_M G d) 40 K 11 (some (.ref a) :: lv) (.ref a :: st) h nc ns) := am_u e_40_10
theorem e_40_11 : pg_code 40 11 = some (.dup, 1, 0, 0) := by decide +kernel
theorem u_40_11 {a : Nat} {lv : am_L} {st : List Value} : am_W G (am_M G d) 40 K 11 lv (.ref a :: st) h nc ns = (am_W G (am_M G d) 40 K 12 lv (.ref a :: .ref a :: st) h nc ns) := (am_u e_40_11).trans (f_t rfl)
theorem e_40_12 : pg_code 40 12 = some (.getfield 49, 3, 5, 2) := by decide +kernel
theorem u_40_12 {a : Nat} {lv : am_L} {st : List Value} : am_W G (am_M G d) 40 K 12 lv (.ref a :: st) h nc ns = (f_gf G d 40 K 15 lv st h nc ns (h a) 5 2) := am_u e_40_12
theorem e_40_15 : pg_code 40 15 = some (.iconst 1, 1, 0, 0) := by decide +kernel
theorem u_40_15 {lv : am_L} {st : List Value} : am_W G (am_M G d) 40 K 15 lv st h nc ns = (am_W G (am_M G d) 40 K 16 lv (.int 1 :: st) h nc ns) := am_u e_40_15
theorem e_40_16 : pg_code 40 16 = some (.iadd, 1, 0, 0) := by decide +kernel
theorem u_40_16 {a b : Int32} {lv : am_L} {st : List Value} : am_W G (am_M G d) 40 K 16 lv (.int b :: .int a :: st) h nc ns = (am_W G (am_M G d) 40 K 17 lv (.int (a + b) :: st) h nc ns) := am_u e_40_16
theorem e_40_17 : pg_code 40 17 = some (.putfield 49, 3, 5, 2) := by decide +kernel
theorem u_40_17 {a : Nat} {b : Int32} {lv : am_L} {st : List Value} : am_W G (am_M G d) 40 K 17 lv (.int b :: .ref a :: st) h nc ns = (f_pf G d 40 K 20 lv st h nc ns (h a) 5 2 a (.int b)) := (am_u e_40_17).trans (f_pf_eq ⟨rfl, rfl⟩)
theorem e_40_20 : pg_code 40 20 = some (.aload_n 0, 1, 0, 0) := by decide +kernel
theorem u_40_20 {a : Nat} {lv : am_L} {st : List Value} : am_W G (am_M G d) 40 K 20 (some (.ref a) :: lv) st h nc ns = (am_W G (am_M G d) 40 K 21 (some (.ref a) :: lv) (.ref a :: st) h nc ns) := am_u e_40_20
theorem e_40_21 : pg_code 40 21 = some (.getfield 49, 3, 5, 2) := by decide +kernel
theorem u_40_21 {a : Nat} {lv : am_L} {st : List Value} : am_W G (am_M G d) 40 K 21 lv (.ref a :: st) h nc ns = (f_gf G d 40 K 24 lv st h nc ns (h a) 5 2) := am_u e_40_21
theorem e_40_24 : pg_code 40 24 = some (.iconst 1, 1, 0, 0) := by decide +kernel
theorem u_40_24 {lv : am_L} {st : List Value} : am_W G (am_M G d) 40 K 24 lv st h nc ns = (am_W G (am_M G d) 40 K 25 lv (.int 1 :: st) h nc ns) := am_u e_40_24
theorem e_40_25 : pg_code 40 25 = some (.isub, 1, 0, 0) := by decide +kernel
theorem u_40_25 {a b : Int32} {lv : am_L} {st : List Value} : am_W G (am_M G d) 40 K 25 lv (.int b :: .int a :: st) h nc ns = (am_W G (am_M G d) 40 K 26 lv (.int (a - b) :: st) h nc ns) := am_u e_40_25
theorem e_40_26 : pg_code 40 26 = some (.ireturn, 1, 0, 0) := by decide +kernel
theorem u_40_26 {a : Int32} {lv : am_L} : am_W G (am_M G d) 40 K 26 lv [.int a] h nc ns = (K (.inl (some (.int a))) h) := (am_u e_40_26).trans (f_t ⟨rfl, .int, rfl, rfl⟩)
theorem e_41_0 : pg_code 41 0 = some (.aload 4, 2, 0, 0) := by decide +kernel
theorem u_41_0 {a : Nat} {z0 : Option Value} {z1 : Option Value} {z2 : Option Value} {z3 : Option Value} {lv : am_L} {st : List Value} : am_W G (am_M G d) 41 K 0 (z0 :: z1 :: z2 :: z3 :: some (.ref a) :: lv) st h nc ns = (am_W G (am_M G d) 41 K 2 (z0 :: z1 :: z2 :: z3 :: some (.ref a) :: lv) (.ref a :: st) h nc ns) := am_u e_41_0
theorem e_41_2 : pg_code 41 2 = some (.iconst 0, 1, 0, 0) := by decide +kernel
theorem u_41_2 {lv : am_L} {st : List Value} : am_W G (am_M G d) 41 K 2 lv st h nc ns = (am_W G (am_M G d) 41 K 3 lv (.int 0 :: st) h nc ns) := am_u e_41_2
theorem e_41_3 : pg_code 41 3 = some (.aload_n 0, 1, 0, 0) := by decide +kernel
theorem u_41_3 {a : Nat} {lv : am_L} {st : List Value} : am_W G (am_M G d) 41 K 3 (some (.ref a) :: lv) st h nc ns = (am_W G (am_M G d) 41 K 4 (some (.ref a) :: lv) (.ref a :: st) h nc ns) := am_u e_41_3
theorem e_41_4 : pg_code 41 4 = some (.iload_n 1, 1, 0, 0) := by decide +kernel
theorem u_41_4 {a : Int32} {z0 : Option Value} {lv : am_L} {st : List Value} : am_W G (am_M G d) 41 K 4 (z0 :: some (.int a) :: lv) st h nc ns = (am_W G (am_M G d) 41 K 5 (z0 :: some (.int a) :: lv) (.int a :: st) h nc ns) := am_u e_41_4
theorem e_41_5 : pg_code 41 5 = some (.iload_n 2, 1, 0, 0) := by decide +kernel
theorem u_41_5 {a : Int32} {z0 : Option Value} {z1 : Option Value} {lv : am_L} {st : List Value} : am_W G (am_M G d) 41 K 5 (z0 :: z1 :: some (.int a) :: lv) st h nc ns = (am_W G (am_M G d) 41 K 6 (z0 :: z1 :: some (.int a) :: lv) (.int a :: st) h nc ns) := am_u e_41_5
theorem e_41_6 : pg_code 41 6 = some (.iload_n 3, 1, 0, 0) := by decide +kernel
theorem u_41_6 {a : Int32} {z0 : Option Value} {z1 : Option Value} {z2 : Option Value} {lv : am_L} {st : List Value} : am_W G (am_M G d) 41 K 6 (z0 :: z1 :: z2 :: some (.int a) :: lv) st h nc ns = (am_W G (am_M G d) 41 K 7 (z0 :: z1 :: z2 :: some (.int a) :: lv) (.int a :: st) h nc ns) := am_u e_41_6
theorem e_41_7 : pg_code 41 7 = some (.invokevirtual 15, 3, 42, 4) := by decide +kernel
theorem u_41_7 {a : Nat} {v0 v1 v2 : Value} {lv : am_L} {st : List Value} : am_W G (am_M G d) 41 K 7 lv (v2 :: v1 :: v0 :: .ref a :: st) h nc ns = ((am_words st ≤ 8 ∧ nc + 2 ≤ 2 ∧ ns + 12 ≤ 12 ∧ f_rc (h a) 0) ∧ am_M G d 42 [.ref a, v0, v1, v2] h (am_back 41 K (am_W G (am_M G d) 41 K) 42 7 lv st nc ns)) := (am_u e_41_7).trans (f_iv_eq (a := a) (G := G) (d := d) (k := 41) (K := K) (pc := 7) (lv := lv) (st := st) (h := h) (nc := nc) (ns := ns) (x := 42) (X := am_W G (am_M G d) 41 K) [v0, v1, v2] (by decide) rfl)
theorem e_41_10 : pg_code 41 10 = some (.i2l, 1, 0, 0) := by decide +kernel
theorem u_41_10 {a : Int32} {lv : am_L} {st : List Value} : am_W G (am_M G d) 41 K 10 lv (.int a :: st) h nc ns = (am_W G (am_M G d) 41 K 11 lv (.long a.toInt64 :: st) h nc ns) := am_u e_41_10
theorem e_41_11 : pg_code 41 11 = some (.lastore, 1, 0, 0) := by decide +kernel
theorem u_41_11 {a : Nat} {j : Int32} {b : Int64} {lv : am_L} {st : List Value} : am_W G (am_M G d) 41 K 11 lv (.long b :: .int j :: .ref a :: st) h nc ns = (f_ls G d 41 K 12 lv st h nc ns (h a) a j b) := am_u e_41_11
theorem e_41_12 : pg_code 41 12 = some (.goto 11, 3, 23, 0) := by decide +kernel
theorem u_41_12 {lv : am_L} {st : List Value} : am_W G (am_M G d) 41 K 12 lv st h nc ns = (am_W G (am_M G d) 41 K 23 lv st h nc ns) := am_u e_41_12
theorem e_41_15 : pg_code 41 15 = some (.astore 5, 2, 0, 0) := by decide +kernel
theorem u_41_15 {a : Nat} {lv : am_L} {st : List Value} : am_W G (am_M G d) 41 K 15 lv (.ref a :: st) h nc ns = (am_W G (am_M G d) 41 K 17 (am_st1 lv 5 (.ref a)) st h nc ns) := (am_u e_41_15).trans (f_t (by decide +kernel))
theorem e_41_17 : pg_code 41 17 = some (.iconst 1, 1, 0, 0) := by decide +kernel
theorem u_41_17 {lv : am_L} {st : List Value} : am_W G (am_M G d) 41 K 17 lv st h nc ns = (am_W G (am_M G d) 41 K 18 lv (.int 1 :: st) h nc ns) := am_u e_41_17
theorem e_41_18 : pg_code 41 18 = some (.ireturn, 1, 0, 0) := by decide +kernel
theorem u_41_18 {a : Int32} {lv : am_L} : am_W G (am_M G d) 41 K 18 lv [.int a] h nc ns = (K (.inl (some (.int a))) h) := (am_u e_41_18).trans (f_t ⟨rfl, .int, rfl, rfl⟩)
theorem e_41_19 : pg_code 41 19 = some (.astore 5, 2, 0, 0) := by decide +kernel
theorem u_41_19 {a : Nat} {lv : am_L} {st : List Value} : am_W G (am_M G d) 41 K 19 lv (.ref a :: st) h nc ns = (am_W G (am_M G d) 41 K 21 (am_st1 lv 5 (.ref a)) st h nc ns) := (am_u e_41_19).trans (f_t (by decide +kernel))
theorem e_41_21 : pg_code 41 21 = some (.iconst 2, 1, 0, 0) := by decide +kernel
theorem u_41_21 {lv : am_L} {st : List Value} : am_W G (am_M G d) 41 K 21 lv st h nc ns = (am_W G (am_M G d) 41 K 22 lv (.int 2 :: st) h nc ns) := am_u e_41_21
theorem e_41_22 : pg_code 41 22 = some (.ireturn, 1, 0, 0) := by decide +kernel
theorem u_41_22 {a : Int32} {lv : am_L} : am_W G (am_M G d) 41 K 22 lv [.int a] h nc ns = (K (.inl (some (.int a))) h) := (am_u e_41_22).trans (f_t ⟨rfl, .int, rfl, rfl⟩)
theorem e_41_23 : pg_code 41 23 = some (.iconst 0, 1, 0, 0) := by decide +kernel
theorem u_41_23 {lv : am_L} {st : List Value} : am_W G (am_M G d) 41 K 23 lv st h nc ns = (am_W G (am_M G d) 41 K 24 lv (.int 0 :: st) h nc ns) := am_u e_41_23
theorem e_41_24 : pg_code 41 24 = some (.ireturn, 1, 0, 0) := by decide +kernel
theorem u_41_24 {a : Int32} {lv : am_L} : am_W G (am_M G d) 41 K 24 lv [.int a] h nc ns = (K (.inl (some (.int a))) h) := (am_u e_41_24).trans (f_t ⟨rfl, .int, rfl, rfl⟩)
theorem e_42_0 : pg_code 42 0 = some (.aload_n 0, 1, 0, 0) := by decide +kernel
theorem u_42_0 {a : Nat} {lv : am_L} {st : List Value} : am_W G (am_M G d) 42 K 0 (some (.ref a) :: lv) st h nc ns = (am_W G (am_M G d) 42 K 1 (some (.ref a) :: lv) (.ref a :: st) h nc ns) := am_u e_42_0
theorem e_42_1 : pg_code 42 1 = some (.getfield 15, 3, 0, 0) := by decide +kernel
theorem u_42_1 {a : Nat} {lv : am_L} {st : List Value} : am_W G (am_M G d) 42 K 1 lv (.ref a :: st) h nc ns = (f_gf G d 42 K 4 lv st h nc ns (h a) 0 0) := am_u e_42_1
theorem e_42_4 : pg_code 42 4 = some (.getfield 64, 3, 5, 0) := by decide +kernel
theorem u_42_4 {a : Nat} {lv : am_L} {st : List Value} : am_W G (am_M G d) 42 K 4 lv (.ref a :: st) h nc ns = (f_gf G d 42 K 7 lv st h nc ns (h a) 5 0) := am_u e_42_4
theorem e_42_7 : pg_code 42 7 = some (.getfield 68, 3, 2, 3) := by decide +kernel
theorem u_42_7 {a : Nat} {lv : am_L} {st : List Value} : am_W G (am_M G d) 42 K 7 lv (.ref a :: st) h nc ns = (f_gf G d 42 K 10 lv st h nc ns (h a) 2 3) := am_u e_42_7
theorem e_42_10 : pg_code 42 10 = some (.istore 4, 2, 0, 0) := by decide +kernel
theorem u_42_10 {a : Int32} {lv : am_L} {st : List Value} : am_W G (am_M G d) 42 K 10 lv (.int a :: st) h nc ns = (am_W G (am_M G d) 42 K 12 (am_st1 lv 4 (.int a)) st h nc ns) := (am_u e_42_10).trans (f_t (by decide +kernel))
theorem e_42_12 : pg_code 42 12 = some (.aload_n 0, 1, 0, 0) := by decide +kernel
theorem u_42_12 {a : Nat} {lv : am_L} {st : List Value} : am_W G (am_M G d) 42 K 12 (some (.ref a) :: lv) st h nc ns = (am_W G (am_M G d) 42 K 13 (some (.ref a) :: lv) (.ref a :: st) h nc ns) := am_u e_42_12
theorem e_42_13 : pg_code 42 13 = some (.getfield 15, 3, 0, 0) := by decide +kernel
theorem u_42_13 {a : Nat} {lv : am_L} {st : List Value} : am_W G (am_M G d) 42 K 13 lv (.ref a :: st) h nc ns = (f_gf G d 42 K 16 lv st h nc ns (h a) 0 0) := am_u e_42_13
theorem e_42_16 : pg_code 42 16 = some (.iload_n 1, 1, 0, 0) := by decide +kernel
theorem u_42_16 {a : Int32} {z0 : Option Value} {lv : am_L} {st : List Value} : am_W G (am_M G d) 42 K 16 (z0 :: some (.int a) :: lv) st h nc ns = (am_W G (am_M G d) 42 K 17 (z0 :: some (.int a) :: lv) (.int a :: st) h nc ns) := am_u e_42_16
theorem e_42_17 : pg_code 42 17 = some (.iload_n 2, 1, 0, 0) := by decide +kernel
theorem u_42_17 {a : Int32} {z0 : Option Value} {z1 : Option Value} {lv : am_L} {st : List Value} : am_W G (am_M G d) 42 K 17 (z0 :: z1 :: some (.int a) :: lv) st h nc ns = (am_W G (am_M G d) 42 K 18 (z0 :: z1 :: some (.int a) :: lv) (.int a :: st) h nc ns) := am_u e_42_17
theorem e_42_18 : pg_code 42 18 = some (.iload_n 3, 1, 0, 0) := by decide +kernel
theorem u_42_18 {a : Int32} {z0 : Option Value} {z1 : Option Value} {z2 : Option Value} {lv : am_L} {st : List Value} : am_W G (am_M G d) 42 K 18 (z0 :: z1 :: z2 :: some (.int a) :: lv) st h nc ns = (am_W G (am_M G d) 42 K 19 (z0 :: z1 :: z2 :: some (.int a) :: lv) (.int a :: st) h nc ns) := am_u e_42_18
theorem e_42_19 : pg_code 42 19 = some (.iload 4, 2, 0, 0) := by decide +kernel
theorem u_42_19 {a : Int32} {z0 : Option Value} {z1 : Option Value} {z2 : Option Value} {z3 : Option Value} {lv : am_L} {st : List Value} : am_W G (am_M G d) 42 K 19 (z0 :: z1 :: z2 :: z3 :: some (.int a) :: lv) st h nc ns = (am_W G (am_M G d) 42 K 21 (z0 :: z1 :: z2 :: z3 :: some (.int a) :: lv) (.int a :: st) h nc ns) := am_u e_42_19
theorem e_42_21 : pg_code 42 21 = some (.iconst 1, 1, 0, 0) := by decide +kernel
theorem u_42_21 {lv : am_L} {st : List Value} : am_W G (am_M G d) 42 K 21 lv st h nc ns = (am_W G (am_M G d) 42 K 22 lv (.int 1 :: st) h nc ns) := am_u e_42_21
theorem e_42_22 : pg_code 42 22 = some (.iadd, 1, 0, 0) := by decide +kernel
theorem u_42_22 {a b : Int32} {lv : am_L} {st : List Value} : am_W G (am_M G d) 42 K 22 lv (.int b :: .int a :: st) h nc ns = (am_W G (am_M G d) 42 K 23 lv (.int (a + b) :: st) h nc ns) := am_u e_42_22
theorem e_42_23 : pg_code 42 23 = some (.invokevirtual 71, 3, 43, 5) := by decide +kernel
theorem u_42_23 {a : Nat} {v0 v1 v2 v3 : Value} {lv : am_L} {st : List Value} : am_W G (am_M G d) 42 K 23 lv (v3 :: v2 :: v1 :: v0 :: .ref a :: st) h nc ns = ((am_words st ≤ 8 ∧ nc + 0 ≤ 2 ∧ ns + 0 ≤ 12 ∧ f_rc (h a) 5) ∧ am_M G d 43 [.ref a, v0, v1, v2, v3] h (am_back 42 K (am_W G (am_M G d) 42 K) 43 23 lv st nc ns)) := (am_u e_42_23).trans (f_iv_eq (a := a) (G := G) (d := d) (k := 42) (K := K) (pc := 23) (lv := lv) (st := st) (h := h) (nc := nc) (ns := ns) (x := 43) (X := am_W G (am_M G d) 42 K) [v0, v1, v2, v3] (by decide) rfl)
theorem e_42_26 : pg_code 42 26 = some (.ifCond .ne 13, 3, 39, 0) := by decide +kernel
theorem u_42_26 {a : Int32} {lv : am_L} {st : List Value} : am_W G (am_M G d) 42 K 26 lv (.int a :: st) h nc ns = (am_br (¬ a = 0) (am_W G (am_M G d) 42 K 39 lv st h nc ns) (am_W G (am_M G d) 42 K 29 lv st h nc ns)) := am_u e_42_26
theorem e_42_29 : pg_code 42 29 = some (.new 75, 3, 501, 0) := by decide +kernel
theorem u_42_29 {lv : am_L} {st : List Value} : am_W G (am_M G d) 42 K 29 lv st h nc ns = ((nc + 1 ≤ 2 ∧ ns + 6 ≤ 12 ∧ am_words st ≤ 8) ∧ K (.inr 501) h) := am_u e_42_29
theorem e_42_39 : pg_code 42 39 = some (.iload 4, 2, 0, 0) := by decide +kernel
theorem u_42_39 {a : Int32} {z0 : Option Value} {z1 : Option Value} {z2 : Option Value} {z3 : Option Value} {lv : am_L} {st : List Value} : am_W G (am_M G d) 42 K 39 (z0 :: z1 :: z2 :: z3 :: some (.int a) :: lv) st h nc ns = (am_W G (am_M G d) 42 K 41 (z0 :: z1 :: z2 :: z3 :: some (.int a) :: lv) (.int a :: st) h nc ns) := am_u e_42_39
theorem e_42_41 : pg_code 42 41 = some (.sipush 150, 3, 0, 0) := by decide +kernel
theorem u_42_41 {lv : am_L} {st : List Value} : am_W G (am_M G d) 42 K 41 lv st h nc ns = (am_W G (am_M G d) 42 K 44 lv (.int 150 :: st) h nc ns) := am_u e_42_41
theorem e_42_44 : pg_code 42 44 = some (.if_icmp .lt 13, 3, 57, 0) := by decide +kernel
theorem u_42_44 {a b : Int32} {lv : am_L} {st : List Value} : am_W G (am_M G d) 42 K 44 lv (.int b :: .int a :: st) h nc ns = (am_br (a < b) (am_W G (am_M G d) 42 K 57 lv st h nc ns) (am_W G (am_M G d) 42 K 47 lv st h nc ns)) := am_u e_42_44
theorem e_42_47 : pg_code 42 47 = some (.new 50, 3, 503, 0) := by decide +kernel
theorem u_42_47 {lv : am_L} {st : List Value} : am_W G (am_M G d) 42 K 47 lv st h nc ns = ((nc + 1 ≤ 2 ∧ ns + 6 ≤ 12 ∧ am_words st ≤ 8) ∧ K (.inr 503) h) := am_u e_42_47
theorem e_42_57 : pg_code 42 57 = some (.aload_n 0, 1, 0, 0) := by decide +kernel
theorem u_42_57 {a : Nat} {lv : am_L} {st : List Value} : am_W G (am_M G d) 42 K 57 (some (.ref a) :: lv) st h nc ns = (am_W G (am_M G d) 42 K 58 (some (.ref a) :: lv) (.ref a :: st) h nc ns) := am_u e_42_57
theorem e_42_58 : pg_code 42 58 = some (.getfield 24, 3, 0, 1) := by decide +kernel
theorem u_42_58 {a : Nat} {lv : am_L} {st : List Value} : am_W G (am_M G d) 42 K 58 lv (.ref a :: st) h nc ns = (f_gf G d 42 K 61 lv st h nc ns (h a) 0 1) := am_u e_42_58
theorem e_42_61 : pg_code 42 61 = some (.invokevirtual 57, 3, 39, 1) := by decide +kernel
theorem u_42_61 {a : Nat} {lv : am_L} {st : List Value} : am_W G (am_M G d) 42 K 61 lv (.ref a :: st) h nc ns = ((am_words st ≤ 8 ∧ nc + 0 ≤ 2 ∧ ns + 0 ≤ 12 ∧ f_rc (h a) 3) ∧ am_M G d 39 [.ref a] h (am_back 42 K (am_W G (am_M G d) 42 K) 39 61 lv st nc ns)) := (am_u e_42_61).trans (f_iv_eq (a := a) (G := G) (d := d) (k := 42) (K := K) (pc := 61) (lv := lv) (st := st) (h := h) (nc := nc) (ns := ns) (x := 39) (X := am_W G (am_M G d) 42 K) [] (by decide) rfl)
theorem e_42_64 : pg_code 42 64 = some (.aload_n 0, 1, 0, 0) := by decide +kernel
theorem u_42_64 {a : Nat} {lv : am_L} {st : List Value} : am_W G (am_M G d) 42 K 64 (some (.ref a) :: lv) st h nc ns = (am_W G (am_M G d) 42 K 65 (some (.ref a) :: lv) (.ref a :: st) h nc ns) := am_u e_42_64
theorem e_42_65 : pg_code 42 65 = some (.getfield 31, 3, 0, 2) := by decide +kernel
theorem u_42_65 {a : Nat} {lv : am_L} {st : List Value} : am_W G (am_M G d) 42 K 65 lv (.ref a :: st) h nc ns = (f_gf G d 42 K 68 lv st h nc ns (h a) 0 2) := am_u e_42_65
theorem e_42_68 : pg_code 42 68 = some (.invokevirtual 82, 3, 33, 1) := by decide +kernel
theorem u_42_68 {a : Nat} {lv : am_L} {st : List Value} : am_W G (am_M G d) 42 K 68 lv (.ref a :: st) h nc ns = ((am_words st ≤ 8 ∧ nc + 0 ≤ 2 ∧ ns + 0 ≤ 12 ∧ f_rc (h a) 4) ∧ am_M G d 33 [.ref a] h (am_back 42 K (am_W G (am_M G d) 42 K) 33 68 lv st nc ns)) := (am_u e_42_68).trans (f_iv_eq (a := a) (G := G) (d := d) (k := 42) (K := K) (pc := 68) (lv := lv) (st := st) (h := h) (nc := nc) (ns := ns) (x := 33) (X := am_W G (am_M G d) 42 K) [] (by decide) rfl)
theorem e_42_71 : pg_code 42 71 = some (.aload_n 0, 1, 0, 0) := by decide +kernel
theorem u_42_71 {a : Nat} {lv : am_L} {st : List Value} : am_W G (am_M G d) 42 K 71 (some (.ref a) :: lv) st h nc ns = (am_W G (am_M G d) 42 K 72 (some (.ref a) :: lv) (.ref a :: st) h nc ns) := am_u e_42_71
theorem e_42_72 : pg_code 42 72 = some (.getfield 15, 3, 0, 0) := by decide +kernel
theorem u_42_72 {a : Nat} {lv : am_L} {st : List Value} : am_W G (am_M G d) 42 K 72 lv (.ref a :: st) h nc ns = (f_gf G d 42 K 75 lv st h nc ns (h a) 0 0) := am_u e_42_72
theorem e_42_75 : pg_code 42 75 = some (.iload_n 1, 1, 0, 0) := by decide +kernel
theorem u_42_75 {a : Int32} {z0 : Option Value} {lv : am_L} {st : List Value} : am_W G (am_M G d) 42 K 75 (z0 :: some (.int a) :: lv) st h nc ns = (am_W G (am_M G d) 42 K 76 (z0 :: some (.int a) :: lv) (.int a :: st) h nc ns) := am_u e_42_75
theorem e_42_76 : pg_code 42 76 = some (.iload_n 2, 1, 0, 0) := by decide +kernel
theorem u_42_76 {a : Int32} {z0 : Option Value} {z1 : Option Value} {lv : am_L} {st : List Value} : am_W G (am_M G d) 42 K 76 (z0 :: z1 :: some (.int a) :: lv) st h nc ns = (am_W G (am_M G d) 42 K 77 (z0 :: z1 :: some (.int a) :: lv) (.int a :: st) h nc ns) := am_u e_42_76
theorem e_42_77 : pg_code 42 77 = some (.iload_n 3, 1, 0, 0) := by decide +kernel
theorem u_42_77 {a : Int32} {z0 : Option Value} {z1 : Option Value} {z2 : Option Value} {lv : am_L} {st : List Value} : am_W G (am_M G d) 42 K 77 (z0 :: z1 :: z2 :: some (.int a) :: lv) st h nc ns = (am_W G (am_M G d) 42 K 78 (z0 :: z1 :: z2 :: some (.int a) :: lv) (.int a :: st) h nc ns) := am_u e_42_77
theorem e_42_78 : pg_code 42 78 = some (.invokevirtual 83, 3, 45, 4) := by decide +kernel
theorem u_42_78 {a : Nat} {v0 v1 v2 : Value} {lv : am_L} {st : List Value} : am_W G (am_M G d) 42 K 78 lv (v2 :: v1 :: v0 :: .ref a :: st) h nc ns = ((am_words st ≤ 8 ∧ nc + 0 ≤ 2 ∧ ns + 0 ≤ 12 ∧ f_rc (h a) 5) ∧ am_M G d 45 [.ref a, v0, v1, v2] h (am_back 42 K (am_W G (am_M G d) 42 K) 45 78 lv st nc ns)) := (am_u e_42_78).trans (f_iv_eq (a := a) (G := G) (d := d) (k := 42) (K := K) (pc := 78) (lv := lv) (st := st) (h := h) (nc := nc) (ns := ns) (x := 45) (X := am_W G (am_M G d) 42 K) [v0, v1, v2] (by decide) rfl)
theorem e_42_81 : pg_code 42 81 = some (.iload 4, 2, 0, 0) := by decide +kernel
theorem u_42_81 {a : Int32} {z0 : Option Value} {z1 : Option Value} {z2 : Option Value} {z3 : Option Value} {lv : am_L} {st : List Value} : am_W G (am_M G d) 42 K 81 (z0 :: z1 :: z2 :: z3 :: some (.int a) :: lv) st h nc ns = (am_W G (am_M G d) 42 K 83 (z0 :: z1 :: z2 :: z3 :: some (.int a) :: lv) (.int a :: st) h nc ns) := am_u e_42_81
theorem e_42_83 : pg_code 42 83 = some (.ireturn, 1, 0, 0) := by decide +kernel
theorem u_42_83 {a : Int32} {lv : am_L} : am_W G (am_M G d) 42 K 83 lv [.int a] h nc ns = (K (.inl (some (.int a))) h) := (am_u e_42_83).trans (f_t ⟨rfl, .int, rfl, rfl⟩)
theorem e_43_0 : pg_code 43 0 = some (.iload_n 1, 1, 0, 0) := by decide +kernel
theorem u_43_0 {a : Int32} {z0 : Option Value} {lv : am_L} {st : List Value} : am_W G (am_M G d) 43 K 0 (z0 :: some (.int a) :: lv) st h nc ns = (am_W G (am_M G d) 43 K 1 (z0 :: some (.int a) :: lv) (.int a :: st) h nc ns) := am_u e_43_0
theorem e_43_1 : pg_code 43 1 = some (.ifCond .lt 33, 3, 34, 0) := by decide +kernel
theorem u_43_1 {a : Int32} {lv : am_L} {st : List Value} : am_W G (am_M G d) 43 K 1 lv (.int a :: st) h nc ns = (am_br (a < 0) (am_W G (am_M G d) 43 K 34 lv st h nc ns) (am_W G (am_M G d) 43 K 4 lv st h nc ns)) := am_u e_43_1
theorem e_43_4 : pg_code 43 4 = some (.iload_n 1, 1, 0, 0) := by decide +kernel
theorem u_43_4 {a : Int32} {z0 : Option Value} {lv : am_L} {st : List Value} : am_W G (am_M G d) 43 K 4 (z0 :: some (.int a) :: lv) st h nc ns = (am_W G (am_M G d) 43 K 5 (z0 :: some (.int a) :: lv) (.int a :: st) h nc ns) := am_u e_43_4
theorem e_43_5 : pg_code 43 5 = some (.bipush 6, 2, 0, 0) := by decide +kernel
theorem u_43_5 {lv : am_L} {st : List Value} : am_W G (am_M G d) 43 K 5 lv st h nc ns = (am_W G (am_M G d) 43 K 7 lv (.int 6 :: st) h nc ns) := am_u e_43_5
theorem e_43_7 : pg_code 43 7 = some (.if_icmp .ge 27, 3, 34, 0) := by decide +kernel
theorem u_43_7 {a b : Int32} {lv : am_L} {st : List Value} : am_W G (am_M G d) 43 K 7 lv (.int b :: .int a :: st) h nc ns = (am_br (b ≤ a) (am_W G (am_M G d) 43 K 34 lv st h nc ns) (am_W G (am_M G d) 43 K 10 lv st h nc ns)) := am_u e_43_7
theorem e_43_10 : pg_code 43 10 = some (.aload_n 0, 1, 0, 0) := by decide +kernel
theorem u_43_10 {a : Nat} {lv : am_L} {st : List Value} : am_W G (am_M G d) 43 K 10 (some (.ref a) :: lv) st h nc ns = (am_W G (am_M G d) 43 K 11 (some (.ref a) :: lv) (.ref a :: st) h nc ns) := am_u e_43_10
theorem e_43_11 : pg_code 43 11 = some (.iload_n 2, 1, 0, 0) := by decide +kernel
theorem u_43_11 {a : Int32} {z0 : Option Value} {z1 : Option Value} {lv : am_L} {st : List Value} : am_W G (am_M G d) 43 K 11 (z0 :: z1 :: some (.int a) :: lv) st h nc ns = (am_W G (am_M G d) 43 K 12 (z0 :: z1 :: some (.int a) :: lv) (.int a :: st) h nc ns) := am_u e_43_11
theorem e_43_12 : pg_code 43 12 = some (.iload 4, 2, 0, 0) := by decide +kernel
theorem u_43_12 {a : Int32} {z0 : Option Value} {z1 : Option Value} {z2 : Option Value} {z3 : Option Value} {lv : am_L} {st : List Value} : am_W G (am_M G d) 43 K 12 (z0 :: z1 :: z2 :: z3 :: some (.int a) :: lv) st h nc ns = (am_W G (am_M G d) 43 K 14 (z0 :: z1 :: z2 :: z3 :: some (.int a) :: lv) (.int a :: st) h nc ns) := am_u e_43_12
theorem e_43_14 : pg_code 43 14 = some (.invokevirtual 45, 3, 44, 3) := by decide +kernel
theorem u_43_14 {a : Nat} {v0 v1 : Value} {lv : am_L} {st : List Value} : am_W G (am_M G d) 43 K 14 lv (v1 :: v0 :: .ref a :: st) h nc ns = ((am_words st ≤ 8 ∧ nc + 0 ≤ 0 ∧ ns + 0 ≤ 0 ∧ f_rc (h a) 5) ∧ am_M G d 44 [.ref a, v0, v1] h (am_back 43 K (am_W G (am_M G d) 43 K) 44 14 lv st nc ns)) := (am_u e_43_14).trans (f_iv_eq (a := a) (G := G) (d := d) (k := 43) (K := K) (pc := 14) (lv := lv) (st := st) (h := h) (nc := nc) (ns := ns) (x := 44) (X := am_W G (am_M G d) 43 K) [v0, v1] (by decide) rfl)
theorem e_43_17 : pg_code 43 17 = some (.ifCond .eq 17, 3, 34, 0) := by decide +kernel
theorem u_43_17 {a : Int32} {lv : am_L} {st : List Value} : am_W G (am_M G d) 43 K 17 lv (.int a :: st) h nc ns = (am_br (a = 0) (am_W G (am_M G d) 43 K 34 lv st h nc ns) (am_W G (am_M G d) 43 K 20 lv st h nc ns)) := am_u e_43_17
theorem e_43_20 : pg_code 43 20 = some (.aload_n 0, 1, 0, 0) := by decide +kernel
theorem u_43_20 {a : Nat} {lv : am_L} {st : List Value} : am_W G (am_M G d) 43 K 20 (some (.ref a) :: lv) st h nc ns = (am_W G (am_M G d) 43 K 21 (some (.ref a) :: lv) (.ref a :: st) h nc ns) := am_u e_43_20
theorem e_43_21 : pg_code 43 21 = some (.iload_n 3, 1, 0, 0) := by decide +kernel
theorem u_43_21 {a : Int32} {z0 : Option Value} {z1 : Option Value} {z2 : Option Value} {lv : am_L} {st : List Value} : am_W G (am_M G d) 43 K 21 (z0 :: z1 :: z2 :: some (.int a) :: lv) st h nc ns = (am_W G (am_M G d) 43 K 22 (z0 :: z1 :: z2 :: some (.int a) :: lv) (.int a :: st) h nc ns) := am_u e_43_21
theorem e_43_22 : pg_code 43 22 = some (.iload 4, 2, 0, 0) := by decide +kernel
theorem u_43_22 {a : Int32} {z0 : Option Value} {z1 : Option Value} {z2 : Option Value} {z3 : Option Value} {lv : am_L} {st : List Value} : am_W G (am_M G d) 43 K 22 (z0 :: z1 :: z2 :: z3 :: some (.int a) :: lv) st h nc ns = (am_W G (am_M G d) 43 K 24 (z0 :: z1 :: z2 :: z3 :: some (.int a) :: lv) (.int a :: st) h nc ns) := am_u e_43_22
theorem e_43_24 : pg_code 43 24 = some (.invokevirtual 45, 3, 44, 3) := by decide +kernel
theorem u_43_24 {a : Nat} {v0 v1 : Value} {lv : am_L} {st : List Value} : am_W G (am_M G d) 43 K 24 lv (v1 :: v0 :: .ref a :: st) h nc ns = ((am_words st ≤ 8 ∧ nc + 0 ≤ 0 ∧ ns + 0 ≤ 0 ∧ f_rc (h a) 5) ∧ am_M G d 44 [.ref a, v0, v1] h (am_back 43 K (am_W G (am_M G d) 43 K) 44 24 lv st nc ns)) := (am_u e_43_24).trans (f_iv_eq (a := a) (G := G) (d := d) (k := 43) (K := K) (pc := 24) (lv := lv) (st := st) (h := h) (nc := nc) (ns := ns) (x := 44) (X := am_W G (am_M G d) 43 K) [v0, v1] (by decide) rfl)
theorem e_43_27 : pg_code 43 27 = some (.ifCond .eq 7, 3, 34, 0) := by decide +kernel
theorem u_43_27 {a : Int32} {lv : am_L} {st : List Value} : am_W G (am_M G d) 43 K 27 lv (.int a :: st) h nc ns = (am_br (a = 0) (am_W G (am_M G d) 43 K 34 lv st h nc ns) (am_W G (am_M G d) 43 K 30 lv st h nc ns)) := am_u e_43_27
theorem e_43_30 : pg_code 43 30 = some (.iconst 1, 1, 0, 0) := by decide +kernel
theorem u_43_30 {lv : am_L} {st : List Value} : am_W G (am_M G d) 43 K 30 lv st h nc ns = (am_W G (am_M G d) 43 K 31 lv (.int 1 :: st) h nc ns) := am_u e_43_30
theorem e_43_31 : pg_code 43 31 = some (.goto 4, 3, 35, 0) := by decide +kernel
theorem u_43_31 {lv : am_L} {st : List Value} : am_W G (am_M G d) 43 K 31 lv st h nc ns = (am_W G (am_M G d) 43 K 35 lv st h nc ns) := am_u e_43_31
theorem e_43_34 : pg_code 43 34 = some (.iconst 0, 1, 0, 0) := by decide +kernel
theorem u_43_34 {lv : am_L} {st : List Value} : am_W G (am_M G d) 43 K 34 lv st h nc ns = (am_W G (am_M G d) 43 K 35 lv (.int 0 :: st) h nc ns) := am_u e_43_34
theorem e_43_35 : pg_code 43 35 = some (.ireturn, 1, 0, 0) := by decide +kernel
theorem u_43_35 {a : Int32} {lv : am_L} : am_W G (am_M G d) 43 K 35 lv [.int a] h nc ns = (narrow .boolean (.int a) = .int a ∧ K (.inl (some (.int a))) h) := (am_u e_43_35).trans (f_z_eq rfl)
theorem e_44_0 : pg_code 44 0 = some (.iload_n 1, 1, 0, 0) := by decide +kernel
theorem u_44_0 {a : Int32} {z0 : Option Value} {lv : am_L} {st : List Value} : am_W G (am_M G d) 44 K 0 (z0 :: some (.int a) :: lv) st h nc ns = (am_W G (am_M G d) 44 K 1 (z0 :: some (.int a) :: lv) (.int a :: st) h nc ns) := am_u e_44_0
theorem e_44_1 : pg_code 44 1 = some (.ifCond .ge 21, 3, 22, 0) := by decide +kernel
theorem u_44_1 {a : Int32} {lv : am_L} {st : List Value} : am_W G (am_M G d) 44 K 1 lv (.int a :: st) h nc ns = (am_br (0 ≤ a) (am_W G (am_M G d) 44 K 22 lv st h nc ns) (am_W G (am_M G d) 44 K 4 lv st h nc ns)) := am_u e_44_1
theorem e_44_4 : pg_code 44 4 = some (.iconst (-1), 1, 0, 0) := by decide +kernel
theorem u_44_4 {lv : am_L} {st : List Value} : am_W G (am_M G d) 44 K 4 lv st h nc ns = (am_W G (am_M G d) 44 K 5 lv (.int (-1) :: st) h nc ns) := am_u e_44_4
theorem e_44_5 : pg_code 44 5 = some (.iload_n 1, 1, 0, 0) := by decide +kernel
theorem u_44_5 {a : Int32} {z0 : Option Value} {lv : am_L} {st : List Value} : am_W G (am_M G d) 44 K 5 (z0 :: some (.int a) :: lv) st h nc ns = (am_W G (am_M G d) 44 K 6 (z0 :: some (.int a) :: lv) (.int a :: st) h nc ns) := am_u e_44_5
theorem e_44_6 : pg_code 44 6 = some (.isub, 1, 0, 0) := by decide +kernel
theorem u_44_6 {a b : Int32} {lv : am_L} {st : List Value} : am_W G (am_M G d) 44 K 6 lv (.int b :: .int a :: st) h nc ns = (am_W G (am_M G d) 44 K 7 lv (.int (a - b) :: st) h nc ns) := am_u e_44_6
theorem e_44_7 : pg_code 44 7 = some (.aload_n 0, 1, 0, 0) := by decide +kernel
theorem u_44_7 {a : Nat} {lv : am_L} {st : List Value} : am_W G (am_M G d) 44 K 7 (some (.ref a) :: lv) st h nc ns = (am_W G (am_M G d) 44 K 8 (some (.ref a) :: lv) (.ref a :: st) h nc ns) := am_u e_44_7
theorem e_44_8 : pg_code 44 8 = some (.getfield 49, 3, 5, 2) := by decide +kernel
theorem u_44_8 {a : Nat} {lv : am_L} {st : List Value} : am_W G (am_M G d) 44 K 8 lv (.ref a :: st) h nc ns = (f_gf G d 44 K 11 lv st h nc ns (h a) 5 2) := am_u e_44_8
theorem e_44_11 : pg_code 44 11 = some (.if_icmp .ge 7, 3, 18, 0) := by decide +kernel
theorem u_44_11 {a b : Int32} {lv : am_L} {st : List Value} : am_W G (am_M G d) 44 K 11 lv (.int b :: .int a :: st) h nc ns = (am_br (b ≤ a) (am_W G (am_M G d) 44 K 18 lv st h nc ns) (am_W G (am_M G d) 44 K 14 lv st h nc ns)) := am_u e_44_11
theorem e_44_14 : pg_code 44 14 = some (.iconst 1, 1, 0, 0) := by decide +kernel
theorem u_44_14 {lv : am_L} {st : List Value} : am_W G (am_M G d) 44 K 14 lv st h nc ns = (am_W G (am_M G d) 44 K 15 lv (.int 1 :: st) h nc ns) := am_u e_44_14
theorem e_44_15 : pg_code 44 15 = some (.goto 17, 3, 32, 0) := by decide +kernel
theorem u_44_15 {lv : am_L} {st : List Value} : am_W G (am_M G d) 44 K 15 lv st h nc ns = (am_W G (am_M G d) 44 K 32 lv st h nc ns) := am_u e_44_15
theorem e_44_18 : pg_code 44 18 = some (.iconst 0, 1, 0, 0) := by decide +kernel
theorem u_44_18 {lv : am_L} {st : List Value} : am_W G (am_M G d) 44 K 18 lv st h nc ns = (am_W G (am_M G d) 44 K 19 lv (.int 0 :: st) h nc ns) := am_u e_44_18
theorem e_44_19 : pg_code 44 19 = some (.goto 13, 3, 32, 0) := by decide +kernel
theorem u_44_19 {lv : am_L} {st : List Value} : am_W G (am_M G d) 44 K 19 lv st h nc ns = (am_W G (am_M G d) 44 K 32 lv st h nc ns) := am_u e_44_19
theorem e_44_22 : pg_code 44 22 = some (.iload_n 1, 1, 0, 0) := by decide +kernel
theorem u_44_22 {a : Int32} {z0 : Option Value} {lv : am_L} {st : List Value} : am_W G (am_M G d) 44 K 22 (z0 :: some (.int a) :: lv) st h nc ns = (am_W G (am_M G d) 44 K 23 (z0 :: some (.int a) :: lv) (.int a :: st) h nc ns) := am_u e_44_22
theorem e_44_23 : pg_code 44 23 = some (.iload_n 2, 1, 0, 0) := by decide +kernel
theorem u_44_23 {a : Int32} {z0 : Option Value} {z1 : Option Value} {lv : am_L} {st : List Value} : am_W G (am_M G d) 44 K 23 (z0 :: z1 :: some (.int a) :: lv) st h nc ns = (am_W G (am_M G d) 44 K 24 (z0 :: z1 :: some (.int a) :: lv) (.int a :: st) h nc ns) := am_u e_44_23
theorem e_44_24 : pg_code 44 24 = some (.if_icmp .ge 7, 3, 31, 0) := by decide +kernel
theorem u_44_24 {a b : Int32} {lv : am_L} {st : List Value} : am_W G (am_M G d) 44 K 24 lv (.int b :: .int a :: st) h nc ns = (am_br (b ≤ a) (am_W G (am_M G d) 44 K 31 lv st h nc ns) (am_W G (am_M G d) 44 K 27 lv st h nc ns)) := am_u e_44_24
theorem e_44_27 : pg_code 44 27 = some (.iconst 1, 1, 0, 0) := by decide +kernel
theorem u_44_27 {lv : am_L} {st : List Value} : am_W G (am_M G d) 44 K 27 lv st h nc ns = (am_W G (am_M G d) 44 K 28 lv (.int 1 :: st) h nc ns) := am_u e_44_27
theorem e_44_28 : pg_code 44 28 = some (.goto 4, 3, 32, 0) := by decide +kernel
theorem u_44_28 {lv : am_L} {st : List Value} : am_W G (am_M G d) 44 K 28 lv st h nc ns = (am_W G (am_M G d) 44 K 32 lv st h nc ns) := am_u e_44_28
theorem e_44_31 : pg_code 44 31 = some (.iconst 0, 1, 0, 0) := by decide +kernel
theorem u_44_31 {lv : am_L} {st : List Value} : am_W G (am_M G d) 44 K 31 lv st h nc ns = (am_W G (am_M G d) 44 K 32 lv (.int 0 :: st) h nc ns) := am_u e_44_31
theorem e_44_32 : pg_code 44 32 = some (.ireturn, 1, 0, 0) := by decide +kernel
theorem u_44_32 {a : Int32} {lv : am_L} : am_W G (am_M G d) 44 K 32 lv [.int a] h nc ns = (narrow .boolean (.int a) = .int a ∧ K (.inl (some (.int a))) h) := (am_u e_44_32).trans (f_z_eq rfl)
theorem e_45_0 : pg_code 45 0 = some (.aload_n 0, 1, 0, 0) := by decide +kernel
theorem u_45_0 {a : Nat} {lv : am_L} {st : List Value} : am_W G (am_M G d) 45 K 0 (some (.ref a) :: lv) st h nc ns = (am_W G (am_M G d) 45 K 1 (some (.ref a) :: lv) (.ref a :: st) h nc ns) := am_u e_45_0
theorem e_45_1 : pg_code 45 1 = some (.getfield 42, 3, 5, 0) := by decide +kernel
theorem u_45_1 {a : Nat} {lv : am_L} {st : List Value} : am_W G (am_M G d) 45 K 1 lv (.ref a :: st) h nc ns = (f_gf G d 45 K 4 lv st h nc ns (h a) 5 0) := am_u e_45_1
theorem e_45_4 : pg_code 45 4 = some (.getfield 53, 3, 2, 3) := by decide +kernel
theorem u_45_4 {a : Nat} {lv : am_L} {st : List Value} : am_W G (am_M G d) 45 K 4 lv (.ref a :: st) h nc ns = (f_gf G d 45 K 7 lv st h nc ns (h a) 2 3) := am_u e_45_4
theorem e_45_7 : pg_code 45 7 = some (.istore 4, 2, 0, 0) := by decide +kernel
theorem u_45_7 {a : Int32} {lv : am_L} {st : List Value} : am_W G (am_M G d) 45 K 7 lv (.int a :: st) h nc ns = (am_W G (am_M G d) 45 K 9 (am_st1 lv 4 (.int a)) st h nc ns) := (am_u e_45_7).trans (f_t (by decide +kernel))
theorem e_45_9 : pg_code 45 9 = some (.aload_n 0, 1, 0, 0) := by decide +kernel
theorem u_45_9 {a : Nat} {lv : am_L} {st : List Value} : am_W G (am_M G d) 45 K 9 (some (.ref a) :: lv) st h nc ns = (am_W G (am_M G d) 45 K 10 (some (.ref a) :: lv) (.ref a :: st) h nc ns) := am_u e_45_9
theorem e_45_10 : pg_code 45 10 = some (.getfield 42, 3, 5, 0) := by decide +kernel
theorem u_45_10 {a : Nat} {lv : am_L} {st : List Value} : am_W G (am_M G d) 45 K 10 lv (.ref a :: st) h nc ns = (f_gf G d 45 K 13 lv st h nc ns (h a) 5 0) := am_u e_45_10
theorem e_45_13 : pg_code 45 13 = some (.iload 4, 2, 0, 0) := by decide +kernel
theorem u_45_13 {a : Int32} {z0 : Option Value} {z1 : Option Value} {z2 : Option Value} {z3 : Option Value} {lv : am_L} {st : List Value} : am_W G (am_M G d) 45 K 13 (z0 :: z1 :: z2 :: z3 :: some (.int a) :: lv) st h nc ns = (am_W G (am_M G d) 45 K 15 (z0 :: z1 :: z2 :: z3 :: some (.int a) :: lv) (.int a :: st) h nc ns) := am_u e_45_13
theorem e_45_15 : pg_code 45 15 = some (.iconst 1, 1, 0, 0) := by decide +kernel
theorem u_45_15 {lv : am_L} {st : List Value} : am_W G (am_M G d) 45 K 15 lv st h nc ns = (am_W G (am_M G d) 45 K 16 lv (.int 1 :: st) h nc ns) := am_u e_45_15
theorem e_45_16 : pg_code 45 16 = some (.iadd, 1, 0, 0) := by decide +kernel
theorem u_45_16 {a b : Int32} {lv : am_L} {st : List Value} : am_W G (am_M G d) 45 K 16 lv (.int b :: .int a :: st) h nc ns = (am_W G (am_M G d) 45 K 17 lv (.int (a + b) :: st) h nc ns) := am_u e_45_16
theorem e_45_17 : pg_code 45 17 = some (.putfield 53, 3, 2, 3) := by decide +kernel
theorem u_45_17 {a : Nat} {b : Int32} {lv : am_L} {st : List Value} : am_W G (am_M G d) 45 K 17 lv (.int b :: .ref a :: st) h nc ns = (f_pf G d 45 K 20 lv st h nc ns (h a) 2 3 a (.int b)) := (am_u e_45_17).trans (f_pf_eq ⟨rfl, rfl⟩)
theorem e_45_20 : pg_code 45 20 = some (.aload_n 0, 1, 0, 0) := by decide +kernel
theorem u_45_20 {a : Nat} {lv : am_L} {st : List Value} : am_W G (am_M G d) 45 K 20 (some (.ref a) :: lv) st h nc ns = (am_W G (am_M G d) 45 K 21 (some (.ref a) :: lv) (.ref a :: st) h nc ns) := am_u e_45_20
theorem e_45_21 : pg_code 45 21 = some (.getfield 42, 3, 5, 0) := by decide +kernel
theorem u_45_21 {a : Nat} {lv : am_L} {st : List Value} : am_W G (am_M G d) 45 K 21 lv (.ref a :: st) h nc ns = (f_gf G d 45 K 24 lv st h nc ns (h a) 5 0) := am_u e_45_21
theorem e_45_24 : pg_code 45 24 = some (.iload 4, 2, 0, 0) := by decide +kernel
theorem u_45_24 {a : Int32} {z0 : Option Value} {z1 : Option Value} {z2 : Option Value} {z3 : Option Value} {lv : am_L} {st : List Value} : am_W G (am_M G d) 45 K 24 (z0 :: z1 :: z2 :: z3 :: some (.int a) :: lv) st h nc ns = (am_W G (am_M G d) 45 K 26 (z0 :: z1 :: z2 :: z3 :: some (.int a) :: lv) (.int a :: st) h nc ns) := am_u e_45_24
theorem e_45_26 : pg_code 45 26 = some (.iload_n 1, 1, 0, 0) := by decide +kernel
theorem u_45_26 {a : Int32} {z0 : Option Value} {lv : am_L} {st : List Value} : am_W G (am_M G d) 45 K 26 (z0 :: some (.int a) :: lv) st h nc ns = (am_W G (am_M G d) 45 K 27 (z0 :: some (.int a) :: lv) (.int a :: st) h nc ns) := am_u e_45_26
theorem e_45_27 : pg_code 45 27 = some (.iload_n 2, 1, 0, 0) := by decide +kernel
theorem u_45_27 {a : Int32} {z0 : Option Value} {z1 : Option Value} {lv : am_L} {st : List Value} : am_W G (am_M G d) 45 K 27 (z0 :: z1 :: some (.int a) :: lv) st h nc ns = (am_W G (am_M G d) 45 K 28 (z0 :: z1 :: some (.int a) :: lv) (.int a :: st) h nc ns) := am_u e_45_27
theorem e_45_28 : pg_code 45 28 = some (.iload_n 3, 1, 0, 0) := by decide +kernel
theorem u_45_28 {a : Int32} {z0 : Option Value} {z1 : Option Value} {z2 : Option Value} {lv : am_L} {st : List Value} : am_W G (am_M G d) 45 K 28 (z0 :: z1 :: z2 :: some (.int a) :: lv) st h nc ns = (am_W G (am_M G d) 45 K 29 (z0 :: z1 :: z2 :: some (.int a) :: lv) (.int a :: st) h nc ns) := am_u e_45_28
theorem e_45_29 : pg_code 45 29 = some (.invokevirtual 56, 3, 29, 5) := by decide +kernel
theorem u_45_29 {a : Nat} {v0 v1 v2 v3 : Value} {lv : am_L} {st : List Value} : am_W G (am_M G d) 45 K 29 lv (v3 :: v2 :: v1 :: v0 :: .ref a :: st) h nc ns = ((am_words st ≤ 8 ∧ nc + 0 ≤ 0 ∧ ns + 0 ≤ 0 ∧ f_rc (h a) 2) ∧ am_M G d 29 [.ref a, v0, v1, v2, v3] h (am_back 45 K (am_W G (am_M G d) 45 K) 29 29 lv st nc ns)) := (am_u e_45_29).trans (f_iv_eq (a := a) (G := G) (d := d) (k := 45) (K := K) (pc := 29) (lv := lv) (st := st) (h := h) (nc := nc) (ns := ns) (x := 29) (X := am_W G (am_M G d) 45 K) [v0, v1, v2, v3] (by decide) rfl)
theorem e_45_32 : pg_code 45 32 = some (.pop, 1, 0, 0) := by decide +kernel
theorem u_45_32 {a : Int32} {lv : am_L} {st : List Value} : am_W G (am_M G d) 45 K 32 lv (.int a :: st) h nc ns = (am_W G (am_M G d) 45 K 33 lv st h nc ns) := (am_u e_45_32).trans (f_t rfl)
theorem e_45_33 : pg_code 45 33 = some (.aload_n 0, 1, 0, 0) := by decide +kernel
theorem u_45_33 {a : Nat} {lv : am_L} {st : List Value} : am_W G (am_M G d) 45 K 33 (some (.ref a) :: lv) st h nc ns = (am_W G (am_M G d) 45 K 34 (some (.ref a) :: lv) (.ref a :: st) h nc ns) := am_u e_45_33
theorem e_45_34 : pg_code 45 34 = some (.getfield 29, 3, 5, 6) := by decide +kernel
theorem u_45_34 {a : Nat} {lv : am_L} {st : List Value} : am_W G (am_M G d) 45 K 34 lv (.ref a :: st) h nc ns = (f_gf G d 45 K 37 lv st h nc ns (h a) 5 6) := am_u e_45_34
theorem e_45_37 : pg_code 45 37 = some (.iload 4, 2, 0, 0) := by decide +kernel
theorem u_45_37 {a : Int32} {z0 : Option Value} {z1 : Option Value} {z2 : Option Value} {z3 : Option Value} {lv : am_L} {st : List Value} : am_W G (am_M G d) 45 K 37 (z0 :: z1 :: z2 :: z3 :: some (.int a) :: lv) st h nc ns = (am_W G (am_M G d) 45 K 39 (z0 :: z1 :: z2 :: z3 :: some (.int a) :: lv) (.int a :: st) h nc ns) := am_u e_45_37
theorem e_45_39 : pg_code 45 39 = some (.iconst 1, 1, 0, 0) := by decide +kernel
theorem u_45_39 {lv : am_L} {st : List Value} : am_W G (am_M G d) 45 K 39 lv st h nc ns = (am_W G (am_M G d) 45 K 40 lv (.int 1 :: st) h nc ns) := am_u e_45_39
theorem e_45_40 : pg_code 45 40 = some (.iadd, 1, 0, 0) := by decide +kernel
theorem u_45_40 {a b : Int32} {lv : am_L} {st : List Value} : am_W G (am_M G d) 45 K 40 lv (.int b :: .int a :: st) h nc ns = (am_W G (am_M G d) 45 K 41 lv (.int (a + b) :: st) h nc ns) := am_u e_45_40
theorem e_45_41 : pg_code 45 41 = some (.putfield 53, 3, 2, 3) := by decide +kernel
theorem u_45_41 {a : Nat} {b : Int32} {lv : am_L} {st : List Value} : am_W G (am_M G d) 45 K 41 lv (.int b :: .ref a :: st) h nc ns = (f_pf G d 45 K 44 lv st h nc ns (h a) 2 3 a (.int b)) := (am_u e_45_41).trans (f_pf_eq ⟨rfl, rfl⟩)
theorem e_45_44 : pg_code 45 44 = some (.aload_n 0, 1, 0, 0) := by decide +kernel
theorem u_45_44 {a : Nat} {lv : am_L} {st : List Value} : am_W G (am_M G d) 45 K 44 (some (.ref a) :: lv) st h nc ns = (am_W G (am_M G d) 45 K 45 (some (.ref a) :: lv) (.ref a :: st) h nc ns) := am_u e_45_44
theorem e_45_45 : pg_code 45 45 = some (.getfield 19, 3, 5, 4) := by decide +kernel
theorem u_45_45 {a : Nat} {lv : am_L} {st : List Value} : am_W G (am_M G d) 45 K 45 lv (.ref a :: st) h nc ns = (f_gf G d 45 K 48 lv st h nc ns (h a) 5 4) := am_u e_45_45
theorem e_45_48 : pg_code 45 48 = some (.iload 4, 2, 0, 0) := by decide +kernel
theorem u_45_48 {a : Int32} {z0 : Option Value} {z1 : Option Value} {z2 : Option Value} {z3 : Option Value} {lv : am_L} {st : List Value} : am_W G (am_M G d) 45 K 48 (z0 :: z1 :: z2 :: z3 :: some (.int a) :: lv) st h nc ns = (am_W G (am_M G d) 45 K 50 (z0 :: z1 :: z2 :: z3 :: some (.int a) :: lv) (.int a :: st) h nc ns) := am_u e_45_48
theorem e_45_50 : pg_code 45 50 = some (.iconst 4, 1, 0, 0) := by decide +kernel
theorem u_45_50 {lv : am_L} {st : List Value} : am_W G (am_M G d) 45 K 50 lv st h nc ns = (am_W G (am_M G d) 45 K 51 lv (.int 4 :: st) h nc ns) := am_u e_45_50
theorem e_45_51 : pg_code 45 51 = some (.iastore, 1, 0, 0) := by decide +kernel
theorem u_45_51 {a : Nat} {j b : Int32} {lv : am_L} {st : List Value} : am_W G (am_M G d) 45 K 51 lv (.int b :: .int j :: .ref a :: st) h nc ns = (f_is G d 45 K 52 lv st h nc ns (h a) .int a j b) := am_u e_45_51
theorem e_45_52 : pg_code 45 52 = some (.return_, 1, 0, 0) := by decide +kernel
theorem u_45_52 {lv : am_L} : am_W G (am_M G d) 45 K 52 lv [] h nc ns = (K (.inl none) h) := (am_u e_45_52).trans (f_t ⟨rfl, rfl⟩)
theorem e_46_0 : pg_code 46 0 = some (.aload 4, 2, 0, 0) := by decide +kernel
theorem u_46_0 {a : Nat} {z0 : Option Value} {z1 : Option Value} {z2 : Option Value} {z3 : Option Value} {lv : am_L} {st : List Value} : am_W G (am_M G d) 46 K 0 (z0 :: z1 :: z2 :: z3 :: some (.ref a) :: lv) st h nc ns = (am_W G (am_M G d) 46 K 2 (z0 :: z1 :: z2 :: z3 :: some (.ref a) :: lv) (.ref a :: st) h nc ns) := am_u e_46_0
theorem e_46_2 : pg_code 46 2 = some (.iconst 0, 1, 0, 0) := by decide +kernel
theorem u_46_2 {lv : am_L} {st : List Value} : am_W G (am_M G d) 46 K 2 lv st h nc ns = (am_W G (am_M G d) 46 K 3 lv (.int 0 :: st) h nc ns) := am_u e_46_2
theorem e_46_3 : pg_code 46 3 = some (.aload_n 0, 1, 0, 0) := by decide +kernel
theorem u_46_3 {a : Nat} {lv : am_L} {st : List Value} : am_W G (am_M G d) 46 K 3 (some (.ref a) :: lv) st h nc ns = (am_W G (am_M G d) 46 K 4 (some (.ref a) :: lv) (.ref a :: st) h nc ns) := am_u e_46_3
theorem e_46_4 : pg_code 46 4 = some (.iload_n 1, 1, 0, 0) := by decide +kernel
theorem u_46_4 {a : Int32} {z0 : Option Value} {lv : am_L} {st : List Value} : am_W G (am_M G d) 46 K 4 (z0 :: some (.int a) :: lv) st h nc ns = (am_W G (am_M G d) 46 K 5 (z0 :: some (.int a) :: lv) (.int a :: st) h nc ns) := am_u e_46_4
theorem e_46_5 : pg_code 46 5 = some (.lload_n 2, 1, 0, 0) := by decide +kernel
theorem u_46_5 {a : Int64} {z0 : Option Value} {z1 : Option Value} {lv : am_L} {st : List Value} : am_W G (am_M G d) 46 K 5 (z0 :: z1 :: some (.long a) :: lv) st h nc ns = (am_W G (am_M G d) 46 K 6 (z0 :: z1 :: some (.long a) :: lv) (.long a :: st) h nc ns) := am_u e_46_5
theorem e_46_6 : pg_code 46 6 = some (.invokevirtual 21, 3, 47, 3) := by decide +kernel
theorem u_46_6 {a : Nat} {v0 v1 : Value} {lv : am_L} {st : List Value} : am_W G (am_M G d) 46 K 6 lv (v1 :: v0 :: .ref a :: st) h nc ns = ((am_words st ≤ 8 ∧ nc + 1 ≤ 1 ∧ ns + 6 ≤ 6 ∧ f_rc (h a) 0) ∧ am_M G d 47 [.ref a, v0, v1] h (am_back 46 K (am_W G (am_M G d) 46 K) 47 6 lv st nc ns)) := (am_u e_46_6).trans (f_iv_eq (a := a) (G := G) (d := d) (k := 46) (K := K) (pc := 6) (lv := lv) (st := st) (h := h) (nc := nc) (ns := ns) (x := 47) (X := am_W G (am_M G d) 46 K) [v0, v1] (by decide) rfl)
theorem e_46_9 : pg_code 46 9 = some (.lastore, 1, 0, 0) := by decide +kernel
theorem u_46_9 {a : Nat} {j : Int32} {b : Int64} {lv : am_L} {st : List Value} : am_W G (am_M G d) 46 K 9 lv (.long b :: .int j :: .ref a :: st) h nc ns = (f_ls G d 46 K 10 lv st h nc ns (h a) a j b) := am_u e_46_9
theorem e_46_10 : pg_code 46 10 = some (.goto 7, 3, 17, 0) := by decide +kernel
theorem u_46_10 {lv : am_L} {st : List Value} : am_W G (am_M G d) 46 K 10 lv st h nc ns = (am_W G (am_M G d) 46 K 17 lv st h nc ns) := am_u e_46_10
theorem e_46_13 : pg_code 46 13 = some (.astore 5, 2, 0, 0) := by decide +kernel
theorem u_46_13 {a : Nat} {lv : am_L} {st : List Value} : am_W G (am_M G d) 46 K 13 lv (.ref a :: st) h nc ns = (am_W G (am_M G d) 46 K 15 (am_st1 lv 5 (.ref a)) st h nc ns) := (am_u e_46_13).trans (f_t (by decide +kernel))
theorem e_46_15 : pg_code 46 15 = some (.iconst 1, 1, 0, 0) := by decide +kernel
theorem u_46_15 {lv : am_L} {st : List Value} : am_W G (am_M G d) 46 K 15 lv st h nc ns = (am_W G (am_M G d) 46 K 16 lv (.int 1 :: st) h nc ns) := am_u e_46_15
theorem e_46_16 : pg_code 46 16 = some (.ireturn, 1, 0, 0) := by decide +kernel
theorem u_46_16 {a : Int32} {lv : am_L} : am_W G (am_M G d) 46 K 16 lv [.int a] h nc ns = (K (.inl (some (.int a))) h) := (am_u e_46_16).trans (f_t ⟨rfl, .int, rfl, rfl⟩)
theorem e_46_17 : pg_code 46 17 = some (.iconst 0, 1, 0, 0) := by decide +kernel
theorem u_46_17 {lv : am_L} {st : List Value} : am_W G (am_M G d) 46 K 17 lv st h nc ns = (am_W G (am_M G d) 46 K 18 lv (.int 0 :: st) h nc ns) := am_u e_46_17
theorem e_46_18 : pg_code 46 18 = some (.ireturn, 1, 0, 0) := by decide +kernel
theorem u_46_18 {a : Int32} {lv : am_L} : am_W G (am_M G d) 46 K 18 lv [.int a] h nc ns = (K (.inl (some (.int a))) h) := (am_u e_46_18).trans (f_t ⟨rfl, .int, rfl, rfl⟩)
theorem e_47_0 : pg_code 47 0 = some (.iload_n 1, 1, 0, 0) := by decide +kernel
theorem u_47_0 {a : Int32} {z0 : Option Value} {lv : am_L} {st : List Value} : am_W G (am_M G d) 47 K 0 (z0 :: some (.int a) :: lv) st h nc ns = (am_W G (am_M G d) 47 K 1 (z0 :: some (.int a) :: lv) (.int a :: st) h nc ns) := am_u e_47_0
theorem e_47_1 : pg_code 47 1 = some (.ifCond .lt 14, 3, 15, 0) := by decide +kernel
theorem u_47_1 {a : Int32} {lv : am_L} {st : List Value} : am_W G (am_M G d) 47 K 1 lv (.int a :: st) h nc ns = (am_br (a < 0) (am_W G (am_M G d) 47 K 15 lv st h nc ns) (am_W G (am_M G d) 47 K 4 lv st h nc ns)) := am_u e_47_1
theorem e_47_4 : pg_code 47 4 = some (.iload_n 1, 1, 0, 0) := by decide +kernel
theorem u_47_4 {a : Int32} {z0 : Option Value} {lv : am_L} {st : List Value} : am_W G (am_M G d) 47 K 4 (z0 :: some (.int a) :: lv) st h nc ns = (am_W G (am_M G d) 47 K 5 (z0 :: some (.int a) :: lv) (.int a :: st) h nc ns) := am_u e_47_4
theorem e_47_5 : pg_code 47 5 = some (.aload_n 0, 1, 0, 0) := by decide +kernel
theorem u_47_5 {a : Nat} {lv : am_L} {st : List Value} : am_W G (am_M G d) 47 K 5 (some (.ref a) :: lv) st h nc ns = (am_W G (am_M G d) 47 K 6 (some (.ref a) :: lv) (.ref a :: st) h nc ns) := am_u e_47_5
theorem e_47_6 : pg_code 47 6 = some (.getfield 15, 3, 0, 0) := by decide +kernel
theorem u_47_6 {a : Nat} {lv : am_L} {st : List Value} : am_W G (am_M G d) 47 K 6 lv (.ref a :: st) h nc ns = (f_gf G d 47 K 9 lv st h nc ns (h a) 0 0) := am_u e_47_6
theorem e_47_9 : pg_code 47 9 = some (.getfield 46, 3, 5, 2) := by decide +kernel
theorem u_47_9 {a : Nat} {lv : am_L} {st : List Value} : am_W G (am_M G d) 47 K 9 lv (.ref a :: st) h nc ns = (f_gf G d 47 K 12 lv st h nc ns (h a) 5 2) := am_u e_47_9
theorem e_47_12 : pg_code 47 12 = some (.if_icmp .lt 13, 3, 25, 0) := by decide +kernel
theorem u_47_12 {a b : Int32} {lv : am_L} {st : List Value} : am_W G (am_M G d) 47 K 12 lv (.int b :: .int a :: st) h nc ns = (am_br (a < b) (am_W G (am_M G d) 47 K 25 lv st h nc ns) (am_W G (am_M G d) 47 K 15 lv st h nc ns)) := am_u e_47_12
theorem e_47_15 : pg_code 47 15 = some (.new 87, 3, 502, 0) := by decide +kernel
theorem u_47_15 {lv : am_L} {st : List Value} : am_W G (am_M G d) 47 K 15 lv st h nc ns = ((nc + 1 ≤ 1 ∧ ns + 6 ≤ 6 ∧ am_words st ≤ 8) ∧ K (.inr 502) h) := am_u e_47_15
theorem e_47_25 : pg_code 47 25 = some (.aload_n 0, 1, 0, 0) := by decide +kernel
theorem u_47_25 {a : Nat} {lv : am_L} {st : List Value} : am_W G (am_M G d) 47 K 25 (some (.ref a) :: lv) st h nc ns = (am_W G (am_M G d) 47 K 26 (some (.ref a) :: lv) (.ref a :: st) h nc ns) := am_u e_47_25
theorem e_47_26 : pg_code 47 26 = some (.getfield 24, 3, 0, 1) := by decide +kernel
theorem u_47_26 {a : Nat} {lv : am_L} {st : List Value} : am_W G (am_M G d) 47 K 26 lv (.ref a :: st) h nc ns = (f_gf G d 47 K 29 lv st h nc ns (h a) 0 1) := am_u e_47_26
theorem e_47_29 : pg_code 47 29 = some (.aload_n 0, 1, 0, 0) := by decide +kernel
theorem u_47_29 {a : Nat} {lv : am_L} {st : List Value} : am_W G (am_M G d) 47 K 29 (some (.ref a) :: lv) st h nc ns = (am_W G (am_M G d) 47 K 30 (some (.ref a) :: lv) (.ref a :: st) h nc ns) := am_u e_47_29
theorem e_47_30 : pg_code 47 30 = some (.getfield 15, 3, 0, 0) := by decide +kernel
theorem u_47_30 {a : Nat} {lv : am_L} {st : List Value} : am_W G (am_M G d) 47 K 30 lv (.ref a :: st) h nc ns = (f_gf G d 47 K 33 lv st h nc ns (h a) 0 0) := am_u e_47_30
theorem e_47_33 : pg_code 47 33 = some (.invokevirtual 92, 3, 8, 2) := by decide +kernel
theorem u_47_33 {a : Nat} {v0 : Value} {lv : am_L} {st : List Value} : am_W G (am_M G d) 47 K 33 lv (v0 :: .ref a :: st) h nc ns = ((am_words st ≤ 8 ∧ nc + 0 ≤ 1 ∧ ns + 0 ≤ 6 ∧ f_rc (h a) 3) ∧ am_M G d 8 [.ref a, v0] h (am_back 47 K (am_W G (am_M G d) 47 K) 8 33 lv st nc ns)) := (am_u e_47_33).trans (f_iv_eq (a := a) (G := G) (d := d) (k := 47) (K := K) (pc := 33) (lv := lv) (st := st) (h := h) (nc := nc) (ns := ns) (x := 8) (X := am_W G (am_M G d) 47 K) [v0] (by decide) rfl)
theorem e_47_36 : pg_code 47 36 = some (.aload_n 0, 1, 0, 0) := by decide +kernel
theorem u_47_36 {a : Nat} {lv : am_L} {st : List Value} : am_W G (am_M G d) 47 K 36 (some (.ref a) :: lv) st h nc ns = (am_W G (am_M G d) 47 K 37 (some (.ref a) :: lv) (.ref a :: st) h nc ns) := am_u e_47_36
theorem e_47_37 : pg_code 47 37 = some (.getfield 15, 3, 0, 0) := by decide +kernel
theorem u_47_37 {a : Nat} {lv : am_L} {st : List Value} : am_W G (am_M G d) 47 K 37 lv (.ref a :: st) h nc ns = (f_gf G d 47 K 40 lv st h nc ns (h a) 0 0) := am_u e_47_37
theorem e_47_40 : pg_code 47 40 = some (.getfield 96, 3, 5, 1) := by decide +kernel
theorem u_47_40 {a : Nat} {lv : am_L} {st : List Value} : am_W G (am_M G d) 47 K 40 lv (.ref a :: st) h nc ns = (f_gf G d 47 K 43 lv st h nc ns (h a) 5 1) := am_u e_47_40
theorem e_47_43 : pg_code 47 43 = some (.iload_n 1, 1, 0, 0) := by decide +kernel
theorem u_47_43 {a : Int32} {z0 : Option Value} {lv : am_L} {st : List Value} : am_W G (am_M G d) 47 K 43 (z0 :: some (.int a) :: lv) st h nc ns = (am_W G (am_M G d) 47 K 44 (z0 :: some (.int a) :: lv) (.int a :: st) h nc ns) := am_u e_47_43
theorem e_47_44 : pg_code 47 44 = some (.laload, 1, 0, 0) := by decide +kernel
theorem u_47_44 {a : Nat} {j : Int32} {lv : am_L} {st : List Value} : am_W G (am_M G d) 47 K 44 lv (.int j :: .ref a :: st) h nc ns = (f_la G d 47 K 45 lv st h nc ns (h a) j) := am_u e_47_44
theorem e_47_45 : pg_code 47 45 = some (.lstore 4, 2, 0, 0) := by decide +kernel
theorem u_47_45 {a : Int64} {lv : am_L} {st : List Value} : am_W G (am_M G d) 47 K 45 lv (.long a :: st) h nc ns = (am_W G (am_M G d) 47 K 47 (am_st2 lv 4 (.long a)) st h nc ns) := (am_u e_47_45).trans (f_t (by decide +kernel))
theorem e_47_47 : pg_code 47 47 = some (.aload_n 0, 1, 0, 0) := by decide +kernel
theorem u_47_47 {a : Nat} {lv : am_L} {st : List Value} : am_W G (am_M G d) 47 K 47 (some (.ref a) :: lv) st h nc ns = (am_W G (am_M G d) 47 K 48 (some (.ref a) :: lv) (.ref a :: st) h nc ns) := am_u e_47_47
theorem e_47_48 : pg_code 47 48 = some (.getfield 15, 3, 0, 0) := by decide +kernel
theorem u_47_48 {a : Nat} {lv : am_L} {st : List Value} : am_W G (am_M G d) 47 K 48 lv (.ref a :: st) h nc ns = (f_gf G d 47 K 51 lv st h nc ns (h a) 0 0) := am_u e_47_48
theorem e_47_51 : pg_code 47 51 = some (.getfield 96, 3, 5, 1) := by decide +kernel
theorem u_47_51 {a : Nat} {lv : am_L} {st : List Value} : am_W G (am_M G d) 47 K 51 lv (.ref a :: st) h nc ns = (f_gf G d 47 K 54 lv st h nc ns (h a) 5 1) := am_u e_47_51
theorem e_47_54 : pg_code 47 54 = some (.iload_n 1, 1, 0, 0) := by decide +kernel
theorem u_47_54 {a : Int32} {z0 : Option Value} {lv : am_L} {st : List Value} : am_W G (am_M G d) 47 K 54 (z0 :: some (.int a) :: lv) st h nc ns = (am_W G (am_M G d) 47 K 55 (z0 :: some (.int a) :: lv) (.int a :: st) h nc ns) := am_u e_47_54
theorem e_47_55 : pg_code 47 55 = some (.lload_n 2, 1, 0, 0) := by decide +kernel
theorem u_47_55 {a : Int64} {z0 : Option Value} {z1 : Option Value} {lv : am_L} {st : List Value} : am_W G (am_M G d) 47 K 55 (z0 :: z1 :: some (.long a) :: lv) st h nc ns = (am_W G (am_M G d) 47 K 56 (z0 :: z1 :: some (.long a) :: lv) (.long a :: st) h nc ns) := am_u e_47_55
theorem e_47_56 : pg_code 47 56 = some (.lastore, 1, 0, 0) := by decide +kernel
theorem u_47_56 {a : Nat} {j : Int32} {b : Int64} {lv : am_L} {st : List Value} : am_W G (am_M G d) 47 K 56 lv (.long b :: .int j :: .ref a :: st) h nc ns = (f_ls G d 47 K 57 lv st h nc ns (h a) a j b) := am_u e_47_56
theorem e_47_57 : pg_code 47 57 = some (.lload 4, 2, 0, 0) := by decide +kernel
theorem u_47_57 {a : Int64} {z0 : Option Value} {z1 : Option Value} {z2 : Option Value} {z3 : Option Value} {lv : am_L} {st : List Value} : am_W G (am_M G d) 47 K 57 (z0 :: z1 :: z2 :: z3 :: some (.long a) :: lv) st h nc ns = (am_W G (am_M G d) 47 K 59 (z0 :: z1 :: z2 :: z3 :: some (.long a) :: lv) (.long a :: st) h nc ns) := am_u e_47_57
theorem e_47_59 : pg_code 47 59 = some (.lreturn, 1, 0, 0) := by decide +kernel
theorem u_47_59 {a : Int64} {lv : am_L} : am_W G (am_M G d) 47 K 59 lv [.long a] h nc ns = (K (.inl (some (.long a))) h) := (am_u e_47_59).trans (f_t ⟨rfl, rfl⟩)
theorem e_48_0 : pg_code 48 0 = some (.aload 5, 2, 0, 0) := by decide +kernel
theorem u_48_0 {a : Nat} {z0 : Option Value} {z1 : Option Value} {z2 : Option Value} {z3 : Option Value} {z4 : Option Value} {lv : am_L} {st : List Value} : am_W G (am_M G d) 48 K 0 (z0 :: z1 :: z2 :: z3 :: z4 :: some (.ref a) :: lv) st h nc ns = (am_W G (am_M G d) 48 K 2 (z0 :: z1 :: z2 :: z3 :: z4 :: some (.ref a) :: lv) (.ref a :: st) h nc ns) := am_u e_48_0
theorem e_48_2 : pg_code 48 2 = some (.iconst 0, 1, 0, 0) := by decide +kernel
theorem u_48_2 {lv : am_L} {st : List Value} : am_W G (am_M G d) 48 K 2 lv st h nc ns = (am_W G (am_M G d) 48 K 3 lv (.int 0 :: st) h nc ns) := am_u e_48_2
theorem e_48_3 : pg_code 48 3 = some (.aload_n 0, 1, 0, 0) := by decide +kernel
theorem u_48_3 {a : Nat} {lv : am_L} {st : List Value} : am_W G (am_M G d) 48 K 3 (some (.ref a) :: lv) st h nc ns = (am_W G (am_M G d) 48 K 4 (some (.ref a) :: lv) (.ref a :: st) h nc ns) := am_u e_48_3
theorem e_48_4 : pg_code 48 4 = some (.iload_n 1, 1, 0, 0) := by decide +kernel
theorem u_48_4 {a : Int32} {z0 : Option Value} {lv : am_L} {st : List Value} : am_W G (am_M G d) 48 K 4 (z0 :: some (.int a) :: lv) st h nc ns = (am_W G (am_M G d) 48 K 5 (z0 :: some (.int a) :: lv) (.int a :: st) h nc ns) := am_u e_48_4
theorem e_48_5 : pg_code 48 5 = some (.iload_n 2, 1, 0, 0) := by decide +kernel
theorem u_48_5 {a : Int32} {z0 : Option Value} {z1 : Option Value} {lv : am_L} {st : List Value} : am_W G (am_M G d) 48 K 5 (z0 :: z1 :: some (.int a) :: lv) st h nc ns = (am_W G (am_M G d) 48 K 6 (z0 :: z1 :: some (.int a) :: lv) (.int a :: st) h nc ns) := am_u e_48_5
theorem e_48_6 : pg_code 48 6 = some (.iload_n 3, 1, 0, 0) := by decide +kernel
theorem u_48_6 {a : Int32} {z0 : Option Value} {z1 : Option Value} {z2 : Option Value} {lv : am_L} {st : List Value} : am_W G (am_M G d) 48 K 6 (z0 :: z1 :: z2 :: some (.int a) :: lv) st h nc ns = (am_W G (am_M G d) 48 K 7 (z0 :: z1 :: z2 :: some (.int a) :: lv) (.int a :: st) h nc ns) := am_u e_48_6
theorem e_48_7 : pg_code 48 7 = some (.iload 4, 2, 0, 0) := by decide +kernel
theorem u_48_7 {a : Int32} {z0 : Option Value} {z1 : Option Value} {z2 : Option Value} {z3 : Option Value} {lv : am_L} {st : List Value} : am_W G (am_M G d) 48 K 7 (z0 :: z1 :: z2 :: z3 :: some (.int a) :: lv) st h nc ns = (am_W G (am_M G d) 48 K 9 (z0 :: z1 :: z2 :: z3 :: some (.int a) :: lv) (.int a :: st) h nc ns) := am_u e_48_7
theorem e_48_9 : pg_code 48 9 = some (.invokevirtual 27, 3, 49, 5) := by decide +kernel
theorem u_48_9 {a : Nat} {v0 v1 v2 v3 : Value} {lv : am_L} {st : List Value} : am_W G (am_M G d) 48 K 9 lv (v3 :: v2 :: v1 :: v0 :: .ref a :: st) h nc ns = ((am_words st ≤ 8 ∧ nc + 2 ≤ 2 ∧ ns + 12 ≤ 12 ∧ f_rc (h a) 0) ∧ am_M G d 49 [.ref a, v0, v1, v2, v3] h (am_back 48 K (am_W G (am_M G d) 48 K) 49 9 lv st nc ns)) := (am_u e_48_9).trans (f_iv_eq (a := a) (G := G) (d := d) (k := 48) (K := K) (pc := 9) (lv := lv) (st := st) (h := h) (nc := nc) (ns := ns) (x := 49) (X := am_W G (am_M G d) 48 K) [v0, v1, v2, v3] (by decide) rfl)
theorem e_48_12 : pg_code 48 12 = some (.ifCond .eq 7, 3, 19, 0) := by decide +kernel
theorem u_48_12 {a : Int32} {lv : am_L} {st : List Value} : am_W G (am_M G d) 48 K 12 lv (.int a :: st) h nc ns = (am_br (a = 0) (am_W G (am_M G d) 48 K 19 lv st h nc ns) (am_W G (am_M G d) 48 K 15 lv st h nc ns)) := am_u e_48_12
theorem e_48_15 : pg_code 48 15 = some (.lconst 1, 1, 0, 0) := by decide +kernel
theorem u_48_15 {lv : am_L} {st : List Value} : am_W G (am_M G d) 48 K 15 lv st h nc ns = (am_W G (am_M G d) 48 K 16 lv (.long 1 :: st) h nc ns) := am_u e_48_15
theorem e_48_16 : pg_code 48 16 = some (.goto 4, 3, 20, 0) := by decide +kernel
theorem u_48_16 {lv : am_L} {st : List Value} : am_W G (am_M G d) 48 K 16 lv st h nc ns = (am_W G (am_M G d) 48 K 20 lv st h nc ns) := am_u e_48_16
theorem e_48_19 : pg_code 48 19 = some (.lconst 0, 1, 0, 0) := by decide +kernel
theorem u_48_19 {lv : am_L} {st : List Value} : am_W G (am_M G d) 48 K 19 lv st h nc ns = (am_W G (am_M G d) 48 K 20 lv (.long 0 :: st) h nc ns) := am_u e_48_19
theorem e_48_20 : pg_code 48 20 = some (.lastore, 1, 0, 0) := by decide +kernel
theorem u_48_20 {a : Nat} {j : Int32} {b : Int64} {lv : am_L} {st : List Value} : am_W G (am_M G d) 48 K 20 lv (.long b :: .int j :: .ref a :: st) h nc ns = (f_ls G d 48 K 21 lv st h nc ns (h a) a j b) := am_u e_48_20
theorem e_48_21 : pg_code 48 21 = some (.goto 11, 3, 32, 0) := by decide +kernel
theorem u_48_21 {lv : am_L} {st : List Value} : am_W G (am_M G d) 48 K 21 lv st h nc ns = (am_W G (am_M G d) 48 K 32 lv st h nc ns) := am_u e_48_21
theorem e_48_24 : pg_code 48 24 = some (.astore 6, 2, 0, 0) := by decide +kernel
theorem u_48_24 {a : Nat} {lv : am_L} {st : List Value} : am_W G (am_M G d) 48 K 24 lv (.ref a :: st) h nc ns = (am_W G (am_M G d) 48 K 26 (am_st1 lv 6 (.ref a)) st h nc ns) := (am_u e_48_24).trans (f_t (by decide +kernel))
theorem e_48_26 : pg_code 48 26 = some (.iconst 1, 1, 0, 0) := by decide +kernel
theorem u_48_26 {lv : am_L} {st : List Value} : am_W G (am_M G d) 48 K 26 lv st h nc ns = (am_W G (am_M G d) 48 K 27 lv (.int 1 :: st) h nc ns) := am_u e_48_26
theorem e_48_27 : pg_code 48 27 = some (.ireturn, 1, 0, 0) := by decide +kernel
theorem u_48_27 {a : Int32} {lv : am_L} : am_W G (am_M G d) 48 K 27 lv [.int a] h nc ns = (K (.inl (some (.int a))) h) := (am_u e_48_27).trans (f_t ⟨rfl, .int, rfl, rfl⟩)
theorem e_48_28 : pg_code 48 28 = some (.astore 6, 2, 0, 0) := by decide +kernel
theorem u_48_28 {a : Nat} {lv : am_L} {st : List Value} : am_W G (am_M G d) 48 K 28 lv (.ref a :: st) h nc ns = (am_W G (am_M G d) 48 K 30 (am_st1 lv 6 (.ref a)) st h nc ns) := (am_u e_48_28).trans (f_t (by decide +kernel))
theorem e_48_30 : pg_code 48 30 = some (.iconst 2, 1, 0, 0) := by decide +kernel
theorem u_48_30 {lv : am_L} {st : List Value} : am_W G (am_M G d) 48 K 30 lv st h nc ns = (am_W G (am_M G d) 48 K 31 lv (.int 2 :: st) h nc ns) := am_u e_48_30
theorem e_48_31 : pg_code 48 31 = some (.ireturn, 1, 0, 0) := by decide +kernel
theorem u_48_31 {a : Int32} {lv : am_L} : am_W G (am_M G d) 48 K 31 lv [.int a] h nc ns = (K (.inl (some (.int a))) h) := (am_u e_48_31).trans (f_t ⟨rfl, .int, rfl, rfl⟩)
theorem e_48_32 : pg_code 48 32 = some (.iconst 0, 1, 0, 0) := by decide +kernel
theorem u_48_32 {lv : am_L} {st : List Value} : am_W G (am_M G d) 48 K 32 lv st h nc ns = (am_W G (am_M G d) 48 K 33 lv (.int 0 :: st) h nc ns) := am_u e_48_32
theorem e_48_33 : pg_code 48 33 = some (.ireturn, 1, 0, 0) := by decide +kernel
theorem u_48_33 {a : Int32} {lv : am_L} : am_W G (am_M G d) 48 K 33 lv [.int a] h nc ns = (K (.inl (some (.int a))) h) := (am_u e_48_33).trans (f_t ⟨rfl, .int, rfl, rfl⟩)
theorem e_49_0 : pg_code 49 0 = some (.aload_n 0, 1, 0, 0) := by decide +kernel
theorem u_49_0 {a : Nat} {lv : am_L} {st : List Value} : am_W G (am_M G d) 49 K 0 (some (.ref a) :: lv) st h nc ns = (am_W G (am_M G d) 49 K 1 (some (.ref a) :: lv) (.ref a :: st) h nc ns) := am_u e_49_0
theorem e_49_1 : pg_code 49 1 = some (.iload_n 1, 1, 0, 0) := by decide +kernel
theorem u_49_1 {a : Int32} {z0 : Option Value} {lv : am_L} {st : List Value} : am_W G (am_M G d) 49 K 1 (z0 :: some (.int a) :: lv) st h nc ns = (am_W G (am_M G d) 49 K 2 (z0 :: some (.int a) :: lv) (.int a :: st) h nc ns) := am_u e_49_1
theorem e_49_2 : pg_code 49 2 = some (.invokevirtual 100, 3, 50, 2) := by decide +kernel
theorem u_49_2 {a : Nat} {v0 : Value} {lv : am_L} {st : List Value} : am_W G (am_M G d) 49 K 2 lv (v0 :: .ref a :: st) h nc ns = ((am_words st ≤ 8 ∧ nc + 1 ≤ 2 ∧ ns + 6 ≤ 12 ∧ f_rc (h a) 0) ∧ am_M G d 50 [.ref a, v0] h (am_back 49 K (am_W G (am_M G d) 49 K) 50 2 lv st nc ns)) := (am_u e_49_2).trans (f_iv_eq (a := a) (G := G) (d := d) (k := 49) (K := K) (pc := 2) (lv := lv) (st := st) (h := h) (nc := nc) (ns := ns) (x := 50) (X := am_W G (am_M G d) 49 K) [v0] (by decide) rfl)
theorem e_49_5 : pg_code 49 5 = some (.aload_n 0, 1, 0, 0) := by decide +kernel
theorem u_49_5 {a : Nat} {lv : am_L} {st : List Value} : am_W G (am_M G d) 49 K 5 (some (.ref a) :: lv) st h nc ns = (am_W G (am_M G d) 49 K 6 (some (.ref a) :: lv) (.ref a :: st) h nc ns) := am_u e_49_5
theorem e_49_6 : pg_code 49 6 = some (.getfield 15, 3, 0, 0) := by decide +kernel
theorem u_49_6 {a : Nat} {lv : am_L} {st : List Value} : am_W G (am_M G d) 49 K 6 lv (.ref a :: st) h nc ns = (f_gf G d 49 K 9 lv st h nc ns (h a) 0 0) := am_u e_49_6
theorem e_49_9 : pg_code 49 9 = some (.iload_n 2, 1, 0, 0) := by decide +kernel
theorem u_49_9 {a : Int32} {z0 : Option Value} {z1 : Option Value} {lv : am_L} {st : List Value} : am_W G (am_M G d) 49 K 9 (z0 :: z1 :: some (.int a) :: lv) st h nc ns = (am_W G (am_M G d) 49 K 10 (z0 :: z1 :: some (.int a) :: lv) (.int a :: st) h nc ns) := am_u e_49_9
theorem e_49_10 : pg_code 49 10 = some (.iload_n 3, 1, 0, 0) := by decide +kernel
theorem u_49_10 {a : Int32} {z0 : Option Value} {z1 : Option Value} {z2 : Option Value} {lv : am_L} {st : List Value} : am_W G (am_M G d) 49 K 10 (z0 :: z1 :: z2 :: some (.int a) :: lv) st h nc ns = (am_W G (am_M G d) 49 K 11 (z0 :: z1 :: z2 :: some (.int a) :: lv) (.int a :: st) h nc ns) := am_u e_49_10
theorem e_49_11 : pg_code 49 11 = some (.iload 4, 2, 0, 0) := by decide +kernel
theorem u_49_11 {a : Int32} {z0 : Option Value} {z1 : Option Value} {z2 : Option Value} {z3 : Option Value} {lv : am_L} {st : List Value} : am_W G (am_M G d) 49 K 11 (z0 :: z1 :: z2 :: z3 :: some (.int a) :: lv) st h nc ns = (am_W G (am_M G d) 49 K 13 (z0 :: z1 :: z2 :: z3 :: some (.int a) :: lv) (.int a :: st) h nc ns) := am_u e_49_11
theorem e_49_13 : pg_code 49 13 = some (.aload_n 0, 1, 0, 0) := by decide +kernel
theorem u_49_13 {a : Nat} {lv : am_L} {st : List Value} : am_W G (am_M G d) 49 K 13 (some (.ref a) :: lv) st h nc ns = (am_W G (am_M G d) 49 K 14 (some (.ref a) :: lv) (.ref a :: st) h nc ns) := am_u e_49_13
theorem e_49_14 : pg_code 49 14 = some (.getfield 15, 3, 0, 0) := by decide +kernel
theorem u_49_14 {a : Nat} {lv : am_L} {st : List Value} : am_W G (am_M G d) 49 K 14 lv (.ref a :: st) h nc ns = (f_gf G d 49 K 17 lv st h nc ns (h a) 0 0) := am_u e_49_14
theorem e_49_17 : pg_code 49 17 = some (.getfield 64, 3, 5, 0) := by decide +kernel
theorem u_49_17 {a : Nat} {lv : am_L} {st : List Value} : am_W G (am_M G d) 49 K 17 lv (.ref a :: st) h nc ns = (f_gf G d 49 K 20 lv st h nc ns (h a) 5 0) := am_u e_49_17
theorem e_49_20 : pg_code 49 20 = some (.getfield 68, 3, 2, 3) := by decide +kernel
theorem u_49_20 {a : Nat} {lv : am_L} {st : List Value} : am_W G (am_M G d) 49 K 20 lv (.ref a :: st) h nc ns = (f_gf G d 49 K 23 lv st h nc ns (h a) 2 3) := am_u e_49_20
theorem e_49_23 : pg_code 49 23 = some (.invokevirtual 71, 3, 43, 5) := by decide +kernel
theorem u_49_23 {a : Nat} {v0 v1 v2 v3 : Value} {lv : am_L} {st : List Value} : am_W G (am_M G d) 49 K 23 lv (v3 :: v2 :: v1 :: v0 :: .ref a :: st) h nc ns = ((am_words st ≤ 8 ∧ nc + 0 ≤ 2 ∧ ns + 0 ≤ 12 ∧ f_rc (h a) 5) ∧ am_M G d 43 [.ref a, v0, v1, v2, v3] h (am_back 49 K (am_W G (am_M G d) 49 K) 43 23 lv st nc ns)) := (am_u e_49_23).trans (f_iv_eq (a := a) (G := G) (d := d) (k := 49) (K := K) (pc := 23) (lv := lv) (st := st) (h := h) (nc := nc) (ns := ns) (x := 43) (X := am_W G (am_M G d) 49 K) [v0, v1, v2, v3] (by decide) rfl)
theorem e_49_26 : pg_code 49 26 = some (.ifCond .ne 13, 3, 39, 0) := by decide +kernel
theorem u_49_26 {a : Int32} {lv : am_L} {st : List Value} : am_W G (am_M G d) 49 K 26 lv (.int a :: st) h nc ns = (am_br (¬ a = 0) (am_W G (am_M G d) 49 K 39 lv st h nc ns) (am_W G (am_M G d) 49 K 29 lv st h nc ns)) := am_u e_49_26
theorem e_49_29 : pg_code 49 29 = some (.new 75, 3, 501, 0) := by decide +kernel
theorem u_49_29 {lv : am_L} {st : List Value} : am_W G (am_M G d) 49 K 29 lv st h nc ns = ((nc + 1 ≤ 2 ∧ ns + 6 ≤ 12 ∧ am_words st ≤ 8) ∧ K (.inr 501) h) := am_u e_49_29
theorem e_49_39 : pg_code 49 39 = some (.aload_n 0, 1, 0, 0) := by decide +kernel
theorem u_49_39 {a : Nat} {lv : am_L} {st : List Value} : am_W G (am_M G d) 49 K 39 (some (.ref a) :: lv) st h nc ns = (am_W G (am_M G d) 49 K 40 (some (.ref a) :: lv) (.ref a :: st) h nc ns) := am_u e_49_39
theorem e_49_40 : pg_code 49 40 = some (.getfield 24, 3, 0, 1) := by decide +kernel
theorem u_49_40 {a : Nat} {lv : am_L} {st : List Value} : am_W G (am_M G d) 49 K 40 lv (.ref a :: st) h nc ns = (f_gf G d 49 K 43 lv st h nc ns (h a) 0 1) := am_u e_49_40
theorem e_49_43 : pg_code 49 43 = some (.aload_n 0, 1, 0, 0) := by decide +kernel
theorem u_49_43 {a : Nat} {lv : am_L} {st : List Value} : am_W G (am_M G d) 49 K 43 (some (.ref a) :: lv) st h nc ns = (am_W G (am_M G d) 49 K 44 (some (.ref a) :: lv) (.ref a :: st) h nc ns) := am_u e_49_43
theorem e_49_44 : pg_code 49 44 = some (.getfield 15, 3, 0, 0) := by decide +kernel
theorem u_49_44 {a : Nat} {lv : am_L} {st : List Value} : am_W G (am_M G d) 49 K 44 lv (.ref a :: st) h nc ns = (f_gf G d 49 K 47 lv st h nc ns (h a) 0 0) := am_u e_49_44
theorem e_49_47 : pg_code 49 47 = some (.invokevirtual 92, 3, 8, 2) := by decide +kernel
theorem u_49_47 {a : Nat} {v0 : Value} {lv : am_L} {st : List Value} : am_W G (am_M G d) 49 K 47 lv (v0 :: .ref a :: st) h nc ns = ((am_words st ≤ 8 ∧ nc + 0 ≤ 2 ∧ ns + 0 ≤ 12 ∧ f_rc (h a) 3) ∧ am_M G d 8 [.ref a, v0] h (am_back 49 K (am_W G (am_M G d) 49 K) 8 47 lv st nc ns)) := (am_u e_49_47).trans (f_iv_eq (a := a) (G := G) (d := d) (k := 49) (K := K) (pc := 47) (lv := lv) (st := st) (h := h) (nc := nc) (ns := ns) (x := 8) (X := am_W G (am_M G d) 49 K) [v0] (by decide) rfl)
theorem e_49_50 : pg_code 49 50 = some (.aload_n 0, 1, 0, 0) := by decide +kernel
theorem u_49_50 {a : Nat} {lv : am_L} {st : List Value} : am_W G (am_M G d) 49 K 50 (some (.ref a) :: lv) st h nc ns = (am_W G (am_M G d) 49 K 51 (some (.ref a) :: lv) (.ref a :: st) h nc ns) := am_u e_49_50
theorem e_49_51 : pg_code 49 51 = some (.getfield 31, 3, 0, 2) := by decide +kernel
theorem u_49_51 {a : Nat} {lv : am_L} {st : List Value} : am_W G (am_M G d) 49 K 51 lv (.ref a :: st) h nc ns = (f_gf G d 49 K 54 lv st h nc ns (h a) 0 2) := am_u e_49_51
theorem e_49_54 : pg_code 49 54 = some (.invokevirtual 82, 3, 33, 1) := by decide +kernel
theorem u_49_54 {a : Nat} {lv : am_L} {st : List Value} : am_W G (am_M G d) 49 K 54 lv (.ref a :: st) h nc ns = ((am_words st ≤ 8 ∧ nc + 0 ≤ 2 ∧ ns + 0 ≤ 12 ∧ f_rc (h a) 4) ∧ am_M G d 33 [.ref a] h (am_back 49 K (am_W G (am_M G d) 49 K) 33 54 lv st nc ns)) := (am_u e_49_54).trans (f_iv_eq (a := a) (G := G) (d := d) (k := 49) (K := K) (pc := 54) (lv := lv) (st := st) (h := h) (nc := nc) (ns := ns) (x := 33) (X := am_W G (am_M G d) 49 K) [] (by decide) rfl)
theorem e_49_57 : pg_code 49 57 = some (.aload_n 0, 1, 0, 0) := by decide +kernel
theorem u_49_57 {a : Nat} {lv : am_L} {st : List Value} : am_W G (am_M G d) 49 K 57 (some (.ref a) :: lv) st h nc ns = (am_W G (am_M G d) 49 K 58 (some (.ref a) :: lv) (.ref a :: st) h nc ns) := am_u e_49_57
theorem e_49_58 : pg_code 49 58 = some (.getfield 15, 3, 0, 0) := by decide +kernel
theorem u_49_58 {a : Nat} {lv : am_L} {st : List Value} : am_W G (am_M G d) 49 K 58 lv (.ref a :: st) h nc ns = (f_gf G d 49 K 61 lv st h nc ns (h a) 0 0) := am_u e_49_58
theorem e_49_61 : pg_code 49 61 = some (.getfield 64, 3, 5, 0) := by decide +kernel
theorem u_49_61 {a : Nat} {lv : am_L} {st : List Value} : am_W G (am_M G d) 49 K 61 lv (.ref a :: st) h nc ns = (f_gf G d 49 K 64 lv st h nc ns (h a) 5 0) := am_u e_49_61
theorem e_49_64 : pg_code 49 64 = some (.iload_n 1, 1, 0, 0) := by decide +kernel
theorem u_49_64 {a : Int32} {z0 : Option Value} {lv : am_L} {st : List Value} : am_W G (am_M G d) 49 K 64 (z0 :: some (.int a) :: lv) st h nc ns = (am_W G (am_M G d) 49 K 65 (z0 :: some (.int a) :: lv) (.int a :: st) h nc ns) := am_u e_49_64
theorem e_49_65 : pg_code 49 65 = some (.iload_n 2, 1, 0, 0) := by decide +kernel
theorem u_49_65 {a : Int32} {z0 : Option Value} {z1 : Option Value} {lv : am_L} {st : List Value} : am_W G (am_M G d) 49 K 65 (z0 :: z1 :: some (.int a) :: lv) st h nc ns = (am_W G (am_M G d) 49 K 66 (z0 :: z1 :: some (.int a) :: lv) (.int a :: st) h nc ns) := am_u e_49_65
theorem e_49_66 : pg_code 49 66 = some (.iload_n 3, 1, 0, 0) := by decide +kernel
theorem u_49_66 {a : Int32} {z0 : Option Value} {z1 : Option Value} {z2 : Option Value} {lv : am_L} {st : List Value} : am_W G (am_M G d) 49 K 66 (z0 :: z1 :: z2 :: some (.int a) :: lv) st h nc ns = (am_W G (am_M G d) 49 K 67 (z0 :: z1 :: z2 :: some (.int a) :: lv) (.int a :: st) h nc ns) := am_u e_49_66
theorem e_49_67 : pg_code 49 67 = some (.iload 4, 2, 0, 0) := by decide +kernel
theorem u_49_67 {a : Int32} {z0 : Option Value} {z1 : Option Value} {z2 : Option Value} {z3 : Option Value} {lv : am_L} {st : List Value} : am_W G (am_M G d) 49 K 67 (z0 :: z1 :: z2 :: z3 :: some (.int a) :: lv) st h nc ns = (am_W G (am_M G d) 49 K 69 (z0 :: z1 :: z2 :: z3 :: some (.int a) :: lv) (.int a :: st) h nc ns) := am_u e_49_67
theorem e_49_69 : pg_code 49 69 = some (.invokevirtual 106, 3, 29, 5) := by decide +kernel
theorem u_49_69 {a : Nat} {v0 v1 v2 v3 : Value} {lv : am_L} {st : List Value} : am_W G (am_M G d) 49 K 69 lv (v3 :: v2 :: v1 :: v0 :: .ref a :: st) h nc ns = ((am_words st ≤ 8 ∧ nc + 0 ≤ 2 ∧ ns + 0 ≤ 12 ∧ f_rc (h a) 2) ∧ am_M G d 29 [.ref a, v0, v1, v2, v3] h (am_back 49 K (am_W G (am_M G d) 49 K) 29 69 lv st nc ns)) := (am_u e_49_69).trans (f_iv_eq (a := a) (G := G) (d := d) (k := 49) (K := K) (pc := 69) (lv := lv) (st := st) (h := h) (nc := nc) (ns := ns) (x := 29) (X := am_W G (am_M G d) 49 K) [v0, v1, v2, v3] (by decide) rfl)
theorem e_49_72 : pg_code 49 72 = some (.ireturn, 1, 0, 0) := by decide +kernel
theorem u_49_72 {a : Int32} {lv : am_L} : am_W G (am_M G d) 49 K 72 lv [.int a] h nc ns = (narrow .boolean (.int a) = .int a ∧ K (.inl (some (.int a))) h) := (am_u e_49_72).trans (f_z_eq rfl)
theorem e_50_0 : pg_code 50 0 = some (.iload_n 1, 1, 0, 0) := by decide +kernel
theorem u_50_0 {a : Int32} {z0 : Option Value} {lv : am_L} {st : List Value} : am_W G (am_M G d) 50 K 0 (z0 :: some (.int a) :: lv) st h nc ns = (am_W G (am_M G d) 50 K 1 (z0 :: some (.int a) :: lv) (.int a :: st) h nc ns) := am_u e_50_0
theorem e_50_1 : pg_code 50 1 = some (.ifCond .lt 17, 3, 18, 0) := by decide +kernel
theorem u_50_1 {a : Int32} {lv : am_L} {st : List Value} : am_W G (am_M G d) 50 K 1 lv (.int a :: st) h nc ns = (am_br (a < 0) (am_W G (am_M G d) 50 K 18 lv st h nc ns) (am_W G (am_M G d) 50 K 4 lv st h nc ns)) := am_u e_50_1
theorem e_50_4 : pg_code 50 4 = some (.iload_n 1, 1, 0, 0) := by decide +kernel
theorem u_50_4 {a : Int32} {z0 : Option Value} {lv : am_L} {st : List Value} : am_W G (am_M G d) 50 K 4 (z0 :: some (.int a) :: lv) st h nc ns = (am_W G (am_M G d) 50 K 5 (z0 :: some (.int a) :: lv) (.int a :: st) h nc ns) := am_u e_50_4
theorem e_50_5 : pg_code 50 5 = some (.aload_n 0, 1, 0, 0) := by decide +kernel
theorem u_50_5 {a : Nat} {lv : am_L} {st : List Value} : am_W G (am_M G d) 50 K 5 (some (.ref a) :: lv) st h nc ns = (am_W G (am_M G d) 50 K 6 (some (.ref a) :: lv) (.ref a :: st) h nc ns) := am_u e_50_5
theorem e_50_6 : pg_code 50 6 = some (.getfield 15, 3, 0, 0) := by decide +kernel
theorem u_50_6 {a : Nat} {lv : am_L} {st : List Value} : am_W G (am_M G d) 50 K 6 lv (.ref a :: st) h nc ns = (f_gf G d 50 K 9 lv st h nc ns (h a) 0 0) := am_u e_50_6
theorem e_50_9 : pg_code 50 9 = some (.getfield 64, 3, 5, 0) := by decide +kernel
theorem u_50_9 {a : Nat} {lv : am_L} {st : List Value} : am_W G (am_M G d) 50 K 9 lv (.ref a :: st) h nc ns = (f_gf G d 50 K 12 lv st h nc ns (h a) 5 0) := am_u e_50_9
theorem e_50_12 : pg_code 50 12 = some (.getfield 68, 3, 2, 3) := by decide +kernel
theorem u_50_12 {a : Nat} {lv : am_L} {st : List Value} : am_W G (am_M G d) 50 K 12 lv (.ref a :: st) h nc ns = (f_gf G d 50 K 15 lv st h nc ns (h a) 2 3) := am_u e_50_12
theorem e_50_15 : pg_code 50 15 = some (.if_icmp .lt 13, 3, 28, 0) := by decide +kernel
theorem u_50_15 {a b : Int32} {lv : am_L} {st : List Value} : am_W G (am_M G d) 50 K 15 lv (.int b :: .int a :: st) h nc ns = (am_br (a < b) (am_W G (am_M G d) 50 K 28 lv st h nc ns) (am_W G (am_M G d) 50 K 18 lv st h nc ns)) := am_u e_50_15
theorem e_50_18 : pg_code 50 18 = some (.new 87, 3, 502, 0) := by decide +kernel
theorem u_50_18 {lv : am_L} {st : List Value} : am_W G (am_M G d) 50 K 18 lv st h nc ns = ((nc + 1 ≤ 1 ∧ ns + 6 ≤ 6 ∧ am_words st ≤ 8) ∧ K (.inr 502) h) := am_u e_50_18
theorem e_50_28 : pg_code 50 28 = some (.return_, 1, 0, 0) := by decide +kernel
theorem u_50_28 {lv : am_L} : am_W G (am_M G d) 50 K 28 lv [] h nc ns = (K (.inl none) h) := (am_u e_50_28).trans (f_t ⟨rfl, rfl⟩)
theorem e_51_0 : pg_code 51 0 = some (.aload_n 3, 1, 0, 0) := by decide +kernel
theorem u_51_0 {a : Nat} {z0 : Option Value} {z1 : Option Value} {z2 : Option Value} {lv : am_L} {st : List Value} : am_W G (am_M G d) 51 K 0 (z0 :: z1 :: z2 :: some (.ref a) :: lv) st h nc ns = (am_W G (am_M G d) 51 K 1 (z0 :: z1 :: z2 :: some (.ref a) :: lv) (.ref a :: st) h nc ns) := am_u e_51_0
theorem e_51_1 : pg_code 51 1 = some (.iconst 0, 1, 0, 0) := by decide +kernel
theorem u_51_1 {lv : am_L} {st : List Value} : am_W G (am_M G d) 51 K 1 lv st h nc ns = (am_W G (am_M G d) 51 K 2 lv (.int 0 :: st) h nc ns) := am_u e_51_1
theorem e_51_2 : pg_code 51 2 = some (.aload_n 0, 1, 0, 0) := by decide +kernel
theorem u_51_2 {a : Nat} {lv : am_L} {st : List Value} : am_W G (am_M G d) 51 K 2 (some (.ref a) :: lv) st h nc ns = (am_W G (am_M G d) 51 K 3 (some (.ref a) :: lv) (.ref a :: st) h nc ns) := am_u e_51_2
theorem e_51_3 : pg_code 51 3 = some (.iload_n 1, 1, 0, 0) := by decide +kernel
theorem u_51_3 {a : Int32} {z0 : Option Value} {lv : am_L} {st : List Value} : am_W G (am_M G d) 51 K 3 (z0 :: some (.int a) :: lv) st h nc ns = (am_W G (am_M G d) 51 K 4 (z0 :: some (.int a) :: lv) (.int a :: st) h nc ns) := am_u e_51_3
theorem e_51_4 : pg_code 51 4 = some (.iload_n 2, 1, 0, 0) := by decide +kernel
theorem u_51_4 {a : Int32} {z0 : Option Value} {z1 : Option Value} {lv : am_L} {st : List Value} : am_W G (am_M G d) 51 K 4 (z0 :: z1 :: some (.int a) :: lv) st h nc ns = (am_W G (am_M G d) 51 K 5 (z0 :: z1 :: some (.int a) :: lv) (.int a :: st) h nc ns) := am_u e_51_4
theorem e_51_5 : pg_code 51 5 = some (.invokevirtual 31, 3, 52, 3) := by decide +kernel
theorem u_51_5 {a : Nat} {v0 v1 : Value} {lv : am_L} {st : List Value} : am_W G (am_M G d) 51 K 5 lv (v1 :: v0 :: .ref a :: st) h nc ns = ((am_words st ≤ 8 ∧ nc + 1 ≤ 1 ∧ ns + 6 ≤ 6 ∧ f_rc (h a) 0) ∧ am_M G d 52 [.ref a, v0, v1] h (am_back 51 K (am_W G (am_M G d) 51 K) 52 5 lv st nc ns)) := (am_u e_51_5).trans (f_iv_eq (a := a) (G := G) (d := d) (k := 51) (K := K) (pc := 5) (lv := lv) (st := st) (h := h) (nc := nc) (ns := ns) (x := 52) (X := am_W G (am_M G d) 51 K) [v0, v1] (by decide) rfl)
theorem e_51_8 : pg_code 51 8 = some (.ifCond .eq 7, 3, 15, 0) := by decide +kernel
theorem u_51_8 {a : Int32} {lv : am_L} {st : List Value} : am_W G (am_M G d) 51 K 8 lv (.int a :: st) h nc ns = (am_br (a = 0) (am_W G (am_M G d) 51 K 15 lv st h nc ns) (am_W G (am_M G d) 51 K 11 lv st h nc ns)) := am_u e_51_8
theorem e_51_11 : pg_code 51 11 = some (.lconst 1, 1, 0, 0) := by decide +kernel
theorem u_51_11 {lv : am_L} {st : List Value} : am_W G (am_M G d) 51 K 11 lv st h nc ns = (am_W G (am_M G d) 51 K 12 lv (.long 1 :: st) h nc ns) := am_u e_51_11
theorem e_51_12 : pg_code 51 12 = some (.goto 4, 3, 16, 0) := by decide +kernel
theorem u_51_12 {lv : am_L} {st : List Value} : am_W G (am_M G d) 51 K 12 lv st h nc ns = (am_W G (am_M G d) 51 K 16 lv st h nc ns) := am_u e_51_12
theorem e_51_15 : pg_code 51 15 = some (.lconst 0, 1, 0, 0) := by decide +kernel
theorem u_51_15 {lv : am_L} {st : List Value} : am_W G (am_M G d) 51 K 15 lv st h nc ns = (am_W G (am_M G d) 51 K 16 lv (.long 0 :: st) h nc ns) := am_u e_51_15
theorem e_51_16 : pg_code 51 16 = some (.lastore, 1, 0, 0) := by decide +kernel
theorem u_51_16 {a : Nat} {j : Int32} {b : Int64} {lv : am_L} {st : List Value} : am_W G (am_M G d) 51 K 16 lv (.long b :: .int j :: .ref a :: st) h nc ns = (f_ls G d 51 K 17 lv st h nc ns (h a) a j b) := am_u e_51_16
theorem e_51_17 : pg_code 51 17 = some (.goto 7, 3, 24, 0) := by decide +kernel
theorem u_51_17 {lv : am_L} {st : List Value} : am_W G (am_M G d) 51 K 17 lv st h nc ns = (am_W G (am_M G d) 51 K 24 lv st h nc ns) := am_u e_51_17
theorem e_51_20 : pg_code 51 20 = some (.astore 4, 2, 0, 0) := by decide +kernel
theorem u_51_20 {a : Nat} {lv : am_L} {st : List Value} : am_W G (am_M G d) 51 K 20 lv (.ref a :: st) h nc ns = (am_W G (am_M G d) 51 K 22 (am_st1 lv 4 (.ref a)) st h nc ns) := (am_u e_51_20).trans (f_t (by decide +kernel))
theorem e_51_22 : pg_code 51 22 = some (.iconst 1, 1, 0, 0) := by decide +kernel
theorem u_51_22 {lv : am_L} {st : List Value} : am_W G (am_M G d) 51 K 22 lv st h nc ns = (am_W G (am_M G d) 51 K 23 lv (.int 1 :: st) h nc ns) := am_u e_51_22
theorem e_51_23 : pg_code 51 23 = some (.ireturn, 1, 0, 0) := by decide +kernel
theorem u_51_23 {a : Int32} {lv : am_L} : am_W G (am_M G d) 51 K 23 lv [.int a] h nc ns = (K (.inl (some (.int a))) h) := (am_u e_51_23).trans (f_t ⟨rfl, .int, rfl, rfl⟩)
theorem e_51_24 : pg_code 51 24 = some (.iconst 0, 1, 0, 0) := by decide +kernel
theorem u_51_24 {lv : am_L} {st : List Value} : am_W G (am_M G d) 51 K 24 lv st h nc ns = (am_W G (am_M G d) 51 K 25 lv (.int 0 :: st) h nc ns) := am_u e_51_24
theorem e_51_25 : pg_code 51 25 = some (.ireturn, 1, 0, 0) := by decide +kernel
theorem u_51_25 {a : Int32} {lv : am_L} : am_W G (am_M G d) 51 K 25 lv [.int a] h nc ns = (K (.inl (some (.int a))) h) := (am_u e_51_25).trans (f_t ⟨rfl, .int, rfl, rfl⟩)
theorem e_52_0 : pg_code 52 0 = some (.aload_n 0, 1, 0, 0) := by decide +kernel
theorem u_52_0 {a : Nat} {lv : am_L} {st : List Value} : am_W G (am_M G d) 52 K 0 (some (.ref a) :: lv) st h nc ns = (am_W G (am_M G d) 52 K 1 (some (.ref a) :: lv) (.ref a :: st) h nc ns) := am_u e_52_0
theorem e_52_1 : pg_code 52 1 = some (.iload_n 1, 1, 0, 0) := by decide +kernel
theorem u_52_1 {a : Int32} {z0 : Option Value} {lv : am_L} {st : List Value} : am_W G (am_M G d) 52 K 1 (z0 :: some (.int a) :: lv) st h nc ns = (am_W G (am_M G d) 52 K 2 (z0 :: some (.int a) :: lv) (.int a :: st) h nc ns) := am_u e_52_1
theorem e_52_2 : pg_code 52 2 = some (.invokevirtual 100, 3, 50, 2) := by decide +kernel
theorem u_52_2 {a : Nat} {v0 : Value} {lv : am_L} {st : List Value} : am_W G (am_M G d) 52 K 2 lv (v0 :: .ref a :: st) h nc ns = ((am_words st ≤ 8 ∧ nc + 1 ≤ 1 ∧ ns + 6 ≤ 6 ∧ f_rc (h a) 0) ∧ am_M G d 50 [.ref a, v0] h (am_back 52 K (am_W G (am_M G d) 52 K) 50 2 lv st nc ns)) := (am_u e_52_2).trans (f_iv_eq (a := a) (G := G) (d := d) (k := 52) (K := K) (pc := 2) (lv := lv) (st := st) (h := h) (nc := nc) (ns := ns) (x := 50) (X := am_W G (am_M G d) 52 K) [v0] (by decide) rfl)
theorem e_52_5 : pg_code 52 5 = some (.aload_n 0, 1, 0, 0) := by decide +kernel
theorem u_52_5 {a : Nat} {lv : am_L} {st : List Value} : am_W G (am_M G d) 52 K 5 (some (.ref a) :: lv) st h nc ns = (am_W G (am_M G d) 52 K 6 (some (.ref a) :: lv) (.ref a :: st) h nc ns) := am_u e_52_5
theorem e_52_6 : pg_code 52 6 = some (.getfield 24, 3, 0, 1) := by decide +kernel
theorem u_52_6 {a : Nat} {lv : am_L} {st : List Value} : am_W G (am_M G d) 52 K 6 lv (.ref a :: st) h nc ns = (f_gf G d 52 K 9 lv st h nc ns (h a) 0 1) := am_u e_52_6
theorem e_52_9 : pg_code 52 9 = some (.aload_n 0, 1, 0, 0) := by decide +kernel
theorem u_52_9 {a : Nat} {lv : am_L} {st : List Value} : am_W G (am_M G d) 52 K 9 (some (.ref a) :: lv) st h nc ns = (am_W G (am_M G d) 52 K 10 (some (.ref a) :: lv) (.ref a :: st) h nc ns) := am_u e_52_9
theorem e_52_10 : pg_code 52 10 = some (.getfield 15, 3, 0, 0) := by decide +kernel
theorem u_52_10 {a : Nat} {lv : am_L} {st : List Value} : am_W G (am_M G d) 52 K 10 lv (.ref a :: st) h nc ns = (f_gf G d 52 K 13 lv st h nc ns (h a) 0 0) := am_u e_52_10
theorem e_52_13 : pg_code 52 13 = some (.invokevirtual 92, 3, 8, 2) := by decide +kernel
theorem u_52_13 {a : Nat} {v0 : Value} {lv : am_L} {st : List Value} : am_W G (am_M G d) 52 K 13 lv (v0 :: .ref a :: st) h nc ns = ((am_words st ≤ 8 ∧ nc + 0 ≤ 1 ∧ ns + 0 ≤ 6 ∧ f_rc (h a) 3) ∧ am_M G d 8 [.ref a, v0] h (am_back 52 K (am_W G (am_M G d) 52 K) 8 13 lv st nc ns)) := (am_u e_52_13).trans (f_iv_eq (a := a) (G := G) (d := d) (k := 52) (K := K) (pc := 13) (lv := lv) (st := st) (h := h) (nc := nc) (ns := ns) (x := 8) (X := am_W G (am_M G d) 52 K) [v0] (by decide) rfl)
theorem e_52_16 : pg_code 52 16 = some (.aload_n 0, 1, 0, 0) := by decide +kernel
theorem u_52_16 {a : Nat} {lv : am_L} {st : List Value} : am_W G (am_M G d) 52 K 16 (some (.ref a) :: lv) st h nc ns = (am_W G (am_M G d) 52 K 17 (some (.ref a) :: lv) (.ref a :: st) h nc ns) := am_u e_52_16
theorem e_52_17 : pg_code 52 17 = some (.getfield 15, 3, 0, 0) := by decide +kernel
theorem u_52_17 {a : Nat} {lv : am_L} {st : List Value} : am_W G (am_M G d) 52 K 17 lv (.ref a :: st) h nc ns = (f_gf G d 52 K 20 lv st h nc ns (h a) 0 0) := am_u e_52_17
theorem e_52_20 : pg_code 52 20 = some (.getfield 109, 3, 5, 3) := by decide +kernel
theorem u_52_20 {a : Nat} {lv : am_L} {st : List Value} : am_W G (am_M G d) 52 K 20 lv (.ref a :: st) h nc ns = (f_gf G d 52 K 23 lv st h nc ns (h a) 5 3) := am_u e_52_20
theorem e_52_23 : pg_code 52 23 = some (.iload_n 1, 1, 0, 0) := by decide +kernel
theorem u_52_23 {a : Int32} {z0 : Option Value} {lv : am_L} {st : List Value} : am_W G (am_M G d) 52 K 23 (z0 :: some (.int a) :: lv) st h nc ns = (am_W G (am_M G d) 52 K 24 (z0 :: some (.int a) :: lv) (.int a :: st) h nc ns) := am_u e_52_23
theorem e_52_24 : pg_code 52 24 = some (.baload, 1, 0, 0) := by decide +kernel
theorem u_52_24 {a : Nat} {j : Int32} {lv : am_L} {st : List Value} : am_W G (am_M G d) 52 K 24 lv (.int j :: .ref a :: st) h nc ns = (f_ia G d 52 K 25 lv st h nc ns (h a) .boolean j) := am_u e_52_24
theorem e_52_25 : pg_code 52 25 = some (.istore_n 3, 1, 0, 0) := by decide +kernel
theorem u_52_25 {a : Int32} {lv : am_L} {st : List Value} : am_W G (am_M G d) 52 K 25 lv (.int a :: st) h nc ns = (am_W G (am_M G d) 52 K 26 (am_st1 lv 3 (.int a)) st h nc ns) := (am_u e_52_25).trans (f_t (by decide +kernel))
theorem e_52_26 : pg_code 52 26 = some (.aload_n 0, 1, 0, 0) := by decide +kernel
theorem u_52_26 {a : Nat} {lv : am_L} {st : List Value} : am_W G (am_M G d) 52 K 26 (some (.ref a) :: lv) st h nc ns = (am_W G (am_M G d) 52 K 27 (some (.ref a) :: lv) (.ref a :: st) h nc ns) := am_u e_52_26
theorem e_52_27 : pg_code 52 27 = some (.getfield 15, 3, 0, 0) := by decide +kernel
theorem u_52_27 {a : Nat} {lv : am_L} {st : List Value} : am_W G (am_M G d) 52 K 27 lv (.ref a :: st) h nc ns = (f_gf G d 52 K 30 lv st h nc ns (h a) 0 0) := am_u e_52_27
theorem e_52_30 : pg_code 52 30 = some (.getfield 109, 3, 5, 3) := by decide +kernel
theorem u_52_30 {a : Nat} {lv : am_L} {st : List Value} : am_W G (am_M G d) 52 K 30 lv (.ref a :: st) h nc ns = (f_gf G d 52 K 33 lv st h nc ns (h a) 5 3) := am_u e_52_30
theorem e_52_33 : pg_code 52 33 = some (.iload_n 1, 1, 0, 0) := by decide +kernel
theorem u_52_33 {a : Int32} {z0 : Option Value} {lv : am_L} {st : List Value} : am_W G (am_M G d) 52 K 33 (z0 :: some (.int a) :: lv) st h nc ns = (am_W G (am_M G d) 52 K 34 (z0 :: some (.int a) :: lv) (.int a :: st) h nc ns) := am_u e_52_33
theorem e_52_34 : pg_code 52 34 = some (.iload_n 2, 1, 0, 0) := by decide +kernel
theorem u_52_34 {a : Int32} {z0 : Option Value} {z1 : Option Value} {lv : am_L} {st : List Value} : am_W G (am_M G d) 52 K 34 (z0 :: z1 :: some (.int a) :: lv) st h nc ns = (am_W G (am_M G d) 52 K 35 (z0 :: z1 :: some (.int a) :: lv) (.int a :: st) h nc ns) := am_u e_52_34
theorem e_52_35 : pg_code 52 35 = some (.bastore, 1, 0, 0) := by decide +kernel
theorem u_52_35 {a : Nat} {j b : Int32} {lv : am_L} {st : List Value} : am_W G (am_M G d) 52 K 35 lv (.int b :: .int j :: .ref a :: st) h nc ns = (f_is G d 52 K 36 lv st h nc ns (h a) .boolean a j (vp_nar .boolean b)) := am_u e_52_35
theorem e_52_36 : pg_code 52 36 = some (.iload_n 3, 1, 0, 0) := by decide +kernel
theorem u_52_36 {a : Int32} {z0 : Option Value} {z1 : Option Value} {z2 : Option Value} {lv : am_L} {st : List Value} : am_W G (am_M G d) 52 K 36 (z0 :: z1 :: z2 :: some (.int a) :: lv) st h nc ns = (am_W G (am_M G d) 52 K 37 (z0 :: z1 :: z2 :: some (.int a) :: lv) (.int a :: st) h nc ns) := am_u e_52_36
theorem e_52_37 : pg_code 52 37 = some (.ireturn, 1, 0, 0) := by decide +kernel
theorem u_52_37 {a : Int32} {lv : am_L} : am_W G (am_M G d) 52 K 37 lv [.int a] h nc ns = (narrow .boolean (.int a) = .int a ∧ K (.inl (some (.int a))) h) := (am_u e_52_37).trans (f_z_eq rfl)
theorem e_53_0 : pg_code 53 0 = some (.aload_n 2, 1, 0, 0) := by decide +kernel
theorem u_53_0 {a : Nat} {z0 : Option Value} {z1 : Option Value} {lv : am_L} {st : List Value} : am_W G (am_M G d) 53 K 0 (z0 :: z1 :: some (.ref a) :: lv) st h nc ns = (am_W G (am_M G d) 53 K 1 (z0 :: z1 :: some (.ref a) :: lv) (.ref a :: st) h nc ns) := am_u e_53_0
theorem e_53_1 : pg_code 53 1 = some (.iconst 0, 1, 0, 0) := by decide +kernel
theorem u_53_1 {lv : am_L} {st : List Value} : am_W G (am_M G d) 53 K 1 lv st h nc ns = (am_W G (am_M G d) 53 K 2 lv (.int 0 :: st) h nc ns) := am_u e_53_1
theorem e_53_2 : pg_code 53 2 = some (.aload_n 0, 1, 0, 0) := by decide +kernel
theorem u_53_2 {a : Nat} {lv : am_L} {st : List Value} : am_W G (am_M G d) 53 K 2 (some (.ref a) :: lv) st h nc ns = (am_W G (am_M G d) 53 K 3 (some (.ref a) :: lv) (.ref a :: st) h nc ns) := am_u e_53_2
theorem e_53_3 : pg_code 53 3 = some (.iload_n 1, 1, 0, 0) := by decide +kernel
theorem u_53_3 {a : Int32} {z0 : Option Value} {lv : am_L} {st : List Value} : am_W G (am_M G d) 53 K 3 (z0 :: some (.int a) :: lv) st h nc ns = (am_W G (am_M G d) 53 K 4 (z0 :: some (.int a) :: lv) (.int a :: st) h nc ns) := am_u e_53_3
theorem e_53_4 : pg_code 53 4 = some (.invokevirtual 35, 3, 54, 2) := by decide +kernel
theorem u_53_4 {a : Nat} {v0 : Value} {lv : am_L} {st : List Value} : am_W G (am_M G d) 53 K 4 lv (v0 :: .ref a :: st) h nc ns = ((am_words st ≤ 8 ∧ nc + 2 ≤ 2 ∧ ns + 12 ≤ 12 ∧ f_rc (h a) 0) ∧ am_M G d 54 [.ref a, v0] h (am_back 53 K (am_W G (am_M G d) 53 K) 54 4 lv st nc ns)) := (am_u e_53_4).trans (f_iv_eq (a := a) (G := G) (d := d) (k := 53) (K := K) (pc := 4) (lv := lv) (st := st) (h := h) (nc := nc) (ns := ns) (x := 54) (X := am_W G (am_M G d) 53 K) [v0] (by decide) rfl)
theorem e_53_7 : pg_code 53 7 = some (.lastore, 1, 0, 0) := by decide +kernel
theorem u_53_7 {a : Nat} {j : Int32} {b : Int64} {lv : am_L} {st : List Value} : am_W G (am_M G d) 53 K 7 lv (.long b :: .int j :: .ref a :: st) h nc ns = (f_ls G d 53 K 8 lv st h nc ns (h a) a j b) := am_u e_53_7
theorem e_53_8 : pg_code 53 8 = some (.goto 9, 3, 17, 0) := by decide +kernel
theorem u_53_8 {lv : am_L} {st : List Value} : am_W G (am_M G d) 53 K 8 lv st h nc ns = (am_W G (am_M G d) 53 K 17 lv st h nc ns) := am_u e_53_8
theorem e_53_11 : pg_code 53 11 = some (.astore_n 3, 1, 0, 0) := by decide +kernel
theorem u_53_11 {a : Nat} {lv : am_L} {st : List Value} : am_W G (am_M G d) 53 K 11 lv (.ref a :: st) h nc ns = (am_W G (am_M G d) 53 K 12 (am_st1 lv 3 (.ref a)) st h nc ns) := (am_u e_53_11).trans (f_t (by decide +kernel))
theorem e_53_12 : pg_code 53 12 = some (.iconst 1, 1, 0, 0) := by decide +kernel
theorem u_53_12 {lv : am_L} {st : List Value} : am_W G (am_M G d) 53 K 12 lv st h nc ns = (am_W G (am_M G d) 53 K 13 lv (.int 1 :: st) h nc ns) := am_u e_53_12
theorem e_53_13 : pg_code 53 13 = some (.ireturn, 1, 0, 0) := by decide +kernel
theorem u_53_13 {a : Int32} {lv : am_L} : am_W G (am_M G d) 53 K 13 lv [.int a] h nc ns = (K (.inl (some (.int a))) h) := (am_u e_53_13).trans (f_t ⟨rfl, .int, rfl, rfl⟩)
theorem e_53_14 : pg_code 53 14 = some (.astore_n 3, 1, 0, 0) := by decide +kernel
theorem u_53_14 {a : Nat} {lv : am_L} {st : List Value} : am_W G (am_M G d) 53 K 14 lv (.ref a :: st) h nc ns = (am_W G (am_M G d) 53 K 15 (am_st1 lv 3 (.ref a)) st h nc ns) := (am_u e_53_14).trans (f_t (by decide +kernel))
theorem e_53_15 : pg_code 53 15 = some (.iconst 2, 1, 0, 0) := by decide +kernel
theorem u_53_15 {lv : am_L} {st : List Value} : am_W G (am_M G d) 53 K 15 lv st h nc ns = (am_W G (am_M G d) 53 K 16 lv (.int 2 :: st) h nc ns) := am_u e_53_15
theorem e_53_16 : pg_code 53 16 = some (.ireturn, 1, 0, 0) := by decide +kernel
theorem u_53_16 {a : Int32} {lv : am_L} : am_W G (am_M G d) 53 K 16 lv [.int a] h nc ns = (K (.inl (some (.int a))) h) := (am_u e_53_16).trans (f_t ⟨rfl, .int, rfl, rfl⟩)
theorem e_53_17 : pg_code 53 17 = some (.iconst 0, 1, 0, 0) := by decide +kernel
theorem u_53_17 {lv : am_L} {st : List Value} : am_W G (am_M G d) 53 K 17 lv st h nc ns = (am_W G (am_M G d) 53 K 18 lv (.int 0 :: st) h nc ns) := am_u e_53_17
theorem e_53_18 : pg_code 53 18 = some (.ireturn, 1, 0, 0) := by decide +kernel
theorem u_53_18 {a : Int32} {lv : am_L} : am_W G (am_M G d) 53 K 18 lv [.int a] h nc ns = (K (.inl (some (.int a))) h) := (am_u e_53_18).trans (f_t ⟨rfl, .int, rfl, rfl⟩)
theorem e_54_0 : pg_code 54 0 = some (.aload_n 0, 1, 0, 0) := by decide +kernel
theorem u_54_0 {a : Nat} {lv : am_L} {st : List Value} : am_W G (am_M G d) 54 K 0 (some (.ref a) :: lv) st h nc ns = (am_W G (am_M G d) 54 K 1 (some (.ref a) :: lv) (.ref a :: st) h nc ns) := am_u e_54_0
theorem e_54_1 : pg_code 54 1 = some (.iload_n 1, 1, 0, 0) := by decide +kernel
theorem u_54_1 {a : Int32} {z0 : Option Value} {lv : am_L} {st : List Value} : am_W G (am_M G d) 54 K 1 (z0 :: some (.int a) :: lv) st h nc ns = (am_W G (am_M G d) 54 K 2 (z0 :: some (.int a) :: lv) (.int a :: st) h nc ns) := am_u e_54_1
theorem e_54_2 : pg_code 54 2 = some (.invokevirtual 100, 3, 50, 2) := by decide +kernel
theorem u_54_2 {a : Nat} {v0 : Value} {lv : am_L} {st : List Value} : am_W G (am_M G d) 54 K 2 lv (v0 :: .ref a :: st) h nc ns = ((am_words st ≤ 8 ∧ nc + 1 ≤ 2 ∧ ns + 6 ≤ 12 ∧ f_rc (h a) 0) ∧ am_M G d 50 [.ref a, v0] h (am_back 54 K (am_W G (am_M G d) 54 K) 50 2 lv st nc ns)) := (am_u e_54_2).trans (f_iv_eq (a := a) (G := G) (d := d) (k := 54) (K := K) (pc := 2) (lv := lv) (st := st) (h := h) (nc := nc) (ns := ns) (x := 50) (X := am_W G (am_M G d) 54 K) [v0] (by decide) rfl)
theorem e_54_5 : pg_code 54 5 = some (.aload_n 0, 1, 0, 0) := by decide +kernel
theorem u_54_5 {a : Nat} {lv : am_L} {st : List Value} : am_W G (am_M G d) 54 K 5 (some (.ref a) :: lv) st h nc ns = (am_W G (am_M G d) 54 K 6 (some (.ref a) :: lv) (.ref a :: st) h nc ns) := am_u e_54_5
theorem e_54_6 : pg_code 54 6 = some (.getfield 15, 3, 0, 0) := by decide +kernel
theorem u_54_6 {a : Nat} {lv : am_L} {st : List Value} : am_W G (am_M G d) 54 K 6 lv (.ref a :: st) h nc ns = (f_gf G d 54 K 9 lv st h nc ns (h a) 0 0) := am_u e_54_6
theorem e_54_9 : pg_code 54 9 = some (.getfield 138, 3, 5, 4) := by decide +kernel
theorem u_54_9 {a : Nat} {lv : am_L} {st : List Value} : am_W G (am_M G d) 54 K 9 lv (.ref a :: st) h nc ns = (f_gf G d 54 K 12 lv st h nc ns (h a) 5 4) := am_u e_54_9
theorem e_54_12 : pg_code 54 12 = some (.iload_n 1, 1, 0, 0) := by decide +kernel
theorem u_54_12 {a : Int32} {z0 : Option Value} {lv : am_L} {st : List Value} : am_W G (am_M G d) 54 K 12 (z0 :: some (.int a) :: lv) st h nc ns = (am_W G (am_M G d) 54 K 13 (z0 :: some (.int a) :: lv) (.int a :: st) h nc ns) := am_u e_54_12
theorem e_54_13 : pg_code 54 13 = some (.iaload, 1, 0, 0) := by decide +kernel
theorem u_54_13 {a : Nat} {j : Int32} {lv : am_L} {st : List Value} : am_W G (am_M G d) 54 K 13 lv (.int j :: .ref a :: st) h nc ns = (f_ia G d 54 K 14 lv st h nc ns (h a) .int j) := am_u e_54_13
theorem e_54_14 : pg_code 54 14 = some (.ifCond .eq 13, 3, 27, 0) := by decide +kernel
theorem u_54_14 {a : Int32} {lv : am_L} {st : List Value} : am_W G (am_M G d) 54 K 14 lv (.int a :: st) h nc ns = (am_br (a = 0) (am_W G (am_M G d) 54 K 27 lv st h nc ns) (am_W G (am_M G d) 54 K 17 lv st h nc ns)) := am_u e_54_14
theorem e_54_17 : pg_code 54 17 = some (.new 141, 3, 500, 0) := by decide +kernel
theorem u_54_17 {lv : am_L} {st : List Value} : am_W G (am_M G d) 54 K 17 lv st h nc ns = ((nc + 1 ≤ 2 ∧ ns + 6 ≤ 12 ∧ am_words st ≤ 8) ∧ K (.inr 500) h) := am_u e_54_17
theorem e_54_27 : pg_code 54 27 = some (.aload_n 0, 1, 0, 0) := by decide +kernel
theorem u_54_27 {a : Nat} {lv : am_L} {st : List Value} : am_W G (am_M G d) 54 K 27 (some (.ref a) :: lv) st h nc ns = (am_W G (am_M G d) 54 K 28 (some (.ref a) :: lv) (.ref a :: st) h nc ns) := am_u e_54_27
theorem e_54_28 : pg_code 54 28 = some (.getfield 15, 3, 0, 0) := by decide +kernel
theorem u_54_28 {a : Nat} {lv : am_L} {st : List Value} : am_W G (am_M G d) 54 K 28 lv (.ref a :: st) h nc ns = (f_gf G d 54 K 31 lv st h nc ns (h a) 0 0) := am_u e_54_28
theorem e_54_31 : pg_code 54 31 = some (.getfield 146, 3, 5, 5) := by decide +kernel
theorem u_54_31 {a : Nat} {lv : am_L} {st : List Value} : am_W G (am_M G d) 54 K 31 lv (.ref a :: st) h nc ns = (f_gf G d 54 K 34 lv st h nc ns (h a) 5 5) := am_u e_54_31
theorem e_54_34 : pg_code 54 34 = some (.iload_n 1, 1, 0, 0) := by decide +kernel
theorem u_54_34 {a : Int32} {z0 : Option Value} {lv : am_L} {st : List Value} : am_W G (am_M G d) 54 K 34 (z0 :: some (.int a) :: lv) st h nc ns = (am_W G (am_M G d) 54 K 35 (z0 :: some (.int a) :: lv) (.int a :: st) h nc ns) := am_u e_54_34
theorem e_54_35 : pg_code 54 35 = some (.laload, 1, 0, 0) := by decide +kernel
theorem u_54_35 {a : Nat} {j : Int32} {lv : am_L} {st : List Value} : am_W G (am_M G d) 54 K 35 lv (.int j :: .ref a :: st) h nc ns = (f_la G d 54 K 36 lv st h nc ns (h a) j) := am_u e_54_35
theorem e_54_36 : pg_code 54 36 = some (.lreturn, 1, 0, 0) := by decide +kernel
theorem u_54_36 {a : Int64} {lv : am_L} : am_W G (am_M G d) 54 K 36 lv [.long a] h nc ns = (K (.inl (some (.long a))) h) := (am_u e_54_36).trans (f_t ⟨rfl, rfl⟩)
theorem e_55_0 : pg_code 55 0 = some (.aload_n 2, 1, 0, 0) := by decide +kernel
theorem u_55_0 {a : Nat} {z0 : Option Value} {z1 : Option Value} {lv : am_L} {st : List Value} : am_W G (am_M G d) 55 K 0 (z0 :: z1 :: some (.ref a) :: lv) st h nc ns = (am_W G (am_M G d) 55 K 1 (z0 :: z1 :: some (.ref a) :: lv) (.ref a :: st) h nc ns) := am_u e_55_0
theorem e_55_1 : pg_code 55 1 = some (.iconst 0, 1, 0, 0) := by decide +kernel
theorem u_55_1 {lv : am_L} {st : List Value} : am_W G (am_M G d) 55 K 1 lv st h nc ns = (am_W G (am_M G d) 55 K 2 lv (.int 0 :: st) h nc ns) := am_u e_55_1
theorem e_55_2 : pg_code 55 2 = some (.aload_n 0, 1, 0, 0) := by decide +kernel
theorem u_55_2 {a : Nat} {lv : am_L} {st : List Value} : am_W G (am_M G d) 55 K 2 (some (.ref a) :: lv) st h nc ns = (am_W G (am_M G d) 55 K 3 (some (.ref a) :: lv) (.ref a :: st) h nc ns) := am_u e_55_2
theorem e_55_3 : pg_code 55 3 = some (.iload_n 1, 1, 0, 0) := by decide +kernel
theorem u_55_3 {a : Int32} {z0 : Option Value} {lv : am_L} {st : List Value} : am_W G (am_M G d) 55 K 3 (z0 :: some (.int a) :: lv) st h nc ns = (am_W G (am_M G d) 55 K 4 (z0 :: some (.int a) :: lv) (.int a :: st) h nc ns) := am_u e_55_3
theorem e_55_4 : pg_code 55 4 = some (.invokevirtual 41, 3, 56, 2) := by decide +kernel
theorem u_55_4 {a : Nat} {v0 : Value} {lv : am_L} {st : List Value} : am_W G (am_M G d) 55 K 4 lv (v0 :: .ref a :: st) h nc ns = ((am_words st ≤ 8 ∧ nc + 1 ≤ 1 ∧ ns + 6 ≤ 6 ∧ f_rc (h a) 0) ∧ am_M G d 56 [.ref a, v0] h (am_back 55 K (am_W G (am_M G d) 55 K) 56 4 lv st nc ns)) := (am_u e_55_4).trans (f_iv_eq (a := a) (G := G) (d := d) (k := 55) (K := K) (pc := 4) (lv := lv) (st := st) (h := h) (nc := nc) (ns := ns) (x := 56) (X := am_W G (am_M G d) 55 K) [v0] (by decide) rfl)
theorem e_55_7 : pg_code 55 7 = some (.i2l, 1, 0, 0) := by decide +kernel
theorem u_55_7 {a : Int32} {lv : am_L} {st : List Value} : am_W G (am_M G d) 55 K 7 lv (.int a :: st) h nc ns = (am_W G (am_M G d) 55 K 8 lv (.long a.toInt64 :: st) h nc ns) := am_u e_55_7
theorem e_55_8 : pg_code 55 8 = some (.lastore, 1, 0, 0) := by decide +kernel
theorem u_55_8 {a : Nat} {j : Int32} {b : Int64} {lv : am_L} {st : List Value} : am_W G (am_M G d) 55 K 8 lv (.long b :: .int j :: .ref a :: st) h nc ns = (f_ls G d 55 K 9 lv st h nc ns (h a) a j b) := am_u e_55_8
theorem e_55_9 : pg_code 55 9 = some (.goto 6, 3, 15, 0) := by decide +kernel
theorem u_55_9 {lv : am_L} {st : List Value} : am_W G (am_M G d) 55 K 9 lv st h nc ns = (am_W G (am_M G d) 55 K 15 lv st h nc ns) := am_u e_55_9
theorem e_55_12 : pg_code 55 12 = some (.astore_n 3, 1, 0, 0) := by decide +kernel
theorem u_55_12 {a : Nat} {lv : am_L} {st : List Value} : am_W G (am_M G d) 55 K 12 lv (.ref a :: st) h nc ns = (am_W G (am_M G d) 55 K 13 (am_st1 lv 3 (.ref a)) st h nc ns) := (am_u e_55_12).trans (f_t (by decide +kernel))
theorem e_55_13 : pg_code 55 13 = some (.iconst 1, 1, 0, 0) := by decide +kernel
theorem u_55_13 {lv : am_L} {st : List Value} : am_W G (am_M G d) 55 K 13 lv st h nc ns = (am_W G (am_M G d) 55 K 14 lv (.int 1 :: st) h nc ns) := am_u e_55_13
theorem e_55_14 : pg_code 55 14 = some (.ireturn, 1, 0, 0) := by decide +kernel
theorem u_55_14 {a : Int32} {lv : am_L} : am_W G (am_M G d) 55 K 14 lv [.int a] h nc ns = (K (.inl (some (.int a))) h) := (am_u e_55_14).trans (f_t ⟨rfl, .int, rfl, rfl⟩)
theorem e_55_15 : pg_code 55 15 = some (.iconst 0, 1, 0, 0) := by decide +kernel
theorem u_55_15 {lv : am_L} {st : List Value} : am_W G (am_M G d) 55 K 15 lv st h nc ns = (am_W G (am_M G d) 55 K 16 lv (.int 0 :: st) h nc ns) := am_u e_55_15
theorem e_55_16 : pg_code 55 16 = some (.ireturn, 1, 0, 0) := by decide +kernel
theorem u_55_16 {a : Int32} {lv : am_L} : am_W G (am_M G d) 55 K 16 lv [.int a] h nc ns = (K (.inl (some (.int a))) h) := (am_u e_55_16).trans (f_t ⟨rfl, .int, rfl, rfl⟩)
theorem e_56_0 : pg_code 56 0 = some (.aload_n 0, 1, 0, 0) := by decide +kernel
theorem u_56_0 {a : Nat} {lv : am_L} {st : List Value} : am_W G (am_M G d) 56 K 0 (some (.ref a) :: lv) st h nc ns = (am_W G (am_M G d) 56 K 1 (some (.ref a) :: lv) (.ref a :: st) h nc ns) := am_u e_56_0
theorem e_56_1 : pg_code 56 1 = some (.iload_n 1, 1, 0, 0) := by decide +kernel
theorem u_56_1 {a : Int32} {z0 : Option Value} {lv : am_L} {st : List Value} : am_W G (am_M G d) 56 K 1 (z0 :: some (.int a) :: lv) st h nc ns = (am_W G (am_M G d) 56 K 2 (z0 :: some (.int a) :: lv) (.int a :: st) h nc ns) := am_u e_56_1
theorem e_56_2 : pg_code 56 2 = some (.invokevirtual 100, 3, 50, 2) := by decide +kernel
theorem u_56_2 {a : Nat} {v0 : Value} {lv : am_L} {st : List Value} : am_W G (am_M G d) 56 K 2 lv (v0 :: .ref a :: st) h nc ns = ((am_words st ≤ 8 ∧ nc + 1 ≤ 1 ∧ ns + 6 ≤ 6 ∧ f_rc (h a) 0) ∧ am_M G d 50 [.ref a, v0] h (am_back 56 K (am_W G (am_M G d) 56 K) 50 2 lv st nc ns)) := (am_u e_56_2).trans (f_iv_eq (a := a) (G := G) (d := d) (k := 56) (K := K) (pc := 2) (lv := lv) (st := st) (h := h) (nc := nc) (ns := ns) (x := 50) (X := am_W G (am_M G d) 56 K) [v0] (by decide) rfl)
theorem e_56_5 : pg_code 56 5 = some (.aload_n 0, 1, 0, 0) := by decide +kernel
theorem u_56_5 {a : Nat} {lv : am_L} {st : List Value} : am_W G (am_M G d) 56 K 5 (some (.ref a) :: lv) st h nc ns = (am_W G (am_M G d) 56 K 6 (some (.ref a) :: lv) (.ref a :: st) h nc ns) := am_u e_56_5
theorem e_56_6 : pg_code 56 6 = some (.getfield 15, 3, 0, 0) := by decide +kernel
theorem u_56_6 {a : Nat} {lv : am_L} {st : List Value} : am_W G (am_M G d) 56 K 6 lv (.ref a :: st) h nc ns = (f_gf G d 56 K 9 lv st h nc ns (h a) 0 0) := am_u e_56_6
theorem e_56_9 : pg_code 56 9 = some (.getfield 138, 3, 5, 4) := by decide +kernel
theorem u_56_9 {a : Nat} {lv : am_L} {st : List Value} : am_W G (am_M G d) 56 K 9 lv (.ref a :: st) h nc ns = (f_gf G d 56 K 12 lv st h nc ns (h a) 5 4) := am_u e_56_9
theorem e_56_12 : pg_code 56 12 = some (.iload_n 1, 1, 0, 0) := by decide +kernel
theorem u_56_12 {a : Int32} {z0 : Option Value} {lv : am_L} {st : List Value} : am_W G (am_M G d) 56 K 12 (z0 :: some (.int a) :: lv) st h nc ns = (am_W G (am_M G d) 56 K 13 (z0 :: some (.int a) :: lv) (.int a :: st) h nc ns) := am_u e_56_12
theorem e_56_13 : pg_code 56 13 = some (.iaload, 1, 0, 0) := by decide +kernel
theorem u_56_13 {a : Nat} {j : Int32} {lv : am_L} {st : List Value} : am_W G (am_M G d) 56 K 13 lv (.int j :: .ref a :: st) h nc ns = (f_ia G d 56 K 14 lv st h nc ns (h a) .int j) := am_u e_56_13
theorem e_56_14 : pg_code 56 14 = some (.ireturn, 1, 0, 0) := by decide +kernel
theorem u_56_14 {a : Int32} {lv : am_L} : am_W G (am_M G d) 56 K 14 lv [.int a] h nc ns = (K (.inl (some (.int a))) h) := (am_u e_56_14).trans (f_t ⟨rfl, .int, rfl, rfl⟩)
theorem e_57_0 : pg_code 57 0 = some (.aload_n 2, 1, 0, 0) := by decide +kernel
theorem u_57_0 {a : Nat} {z0 : Option Value} {z1 : Option Value} {lv : am_L} {st : List Value} : am_W G (am_M G d) 57 K 0 (z0 :: z1 :: some (.ref a) :: lv) st h nc ns = (am_W G (am_M G d) 57 K 1 (z0 :: z1 :: some (.ref a) :: lv) (.ref a :: st) h nc ns) := am_u e_57_0
theorem e_57_1 : pg_code 57 1 = some (.iconst 0, 1, 0, 0) := by decide +kernel
theorem u_57_1 {lv : am_L} {st : List Value} : am_W G (am_M G d) 57 K 1 lv st h nc ns = (am_W G (am_M G d) 57 K 2 lv (.int 0 :: st) h nc ns) := am_u e_57_1
theorem e_57_2 : pg_code 57 2 = some (.aload_n 0, 1, 0, 0) := by decide +kernel
theorem u_57_2 {a : Nat} {lv : am_L} {st : List Value} : am_W G (am_M G d) 57 K 2 (some (.ref a) :: lv) st h nc ns = (am_W G (am_M G d) 57 K 3 (some (.ref a) :: lv) (.ref a :: st) h nc ns) := am_u e_57_2
theorem e_57_3 : pg_code 57 3 = some (.iload_n 1, 1, 0, 0) := by decide +kernel
theorem u_57_3 {a : Int32} {z0 : Option Value} {lv : am_L} {st : List Value} : am_W G (am_M G d) 57 K 3 (z0 :: some (.int a) :: lv) st h nc ns = (am_W G (am_M G d) 57 K 4 (z0 :: some (.int a) :: lv) (.int a :: st) h nc ns) := am_u e_57_3
theorem e_57_4 : pg_code 57 4 = some (.invokevirtual 45, 3, 58, 2) := by decide +kernel
theorem u_57_4 {a : Nat} {v0 : Value} {lv : am_L} {st : List Value} : am_W G (am_M G d) 57 K 4 lv (v0 :: .ref a :: st) h nc ns = ((am_words st ≤ 8 ∧ nc + 1 ≤ 1 ∧ ns + 6 ≤ 6 ∧ f_rc (h a) 0) ∧ am_M G d 58 [.ref a, v0] h (am_back 57 K (am_W G (am_M G d) 57 K) 58 4 lv st nc ns)) := (am_u e_57_4).trans (f_iv_eq (a := a) (G := G) (d := d) (k := 57) (K := K) (pc := 4) (lv := lv) (st := st) (h := h) (nc := nc) (ns := ns) (x := 58) (X := am_W G (am_M G d) 57 K) [v0] (by decide) rfl)
theorem e_57_7 : pg_code 57 7 = some (.i2l, 1, 0, 0) := by decide +kernel
theorem u_57_7 {a : Int32} {lv : am_L} {st : List Value} : am_W G (am_M G d) 57 K 7 lv (.int a :: st) h nc ns = (am_W G (am_M G d) 57 K 8 lv (.long a.toInt64 :: st) h nc ns) := am_u e_57_7
theorem e_57_8 : pg_code 57 8 = some (.lastore, 1, 0, 0) := by decide +kernel
theorem u_57_8 {a : Nat} {j : Int32} {b : Int64} {lv : am_L} {st : List Value} : am_W G (am_M G d) 57 K 8 lv (.long b :: .int j :: .ref a :: st) h nc ns = (f_ls G d 57 K 9 lv st h nc ns (h a) a j b) := am_u e_57_8
theorem e_57_9 : pg_code 57 9 = some (.goto 6, 3, 15, 0) := by decide +kernel
theorem u_57_9 {lv : am_L} {st : List Value} : am_W G (am_M G d) 57 K 9 lv st h nc ns = (am_W G (am_M G d) 57 K 15 lv st h nc ns) := am_u e_57_9
theorem e_57_12 : pg_code 57 12 = some (.astore_n 3, 1, 0, 0) := by decide +kernel
theorem u_57_12 {a : Nat} {lv : am_L} {st : List Value} : am_W G (am_M G d) 57 K 12 lv (.ref a :: st) h nc ns = (am_W G (am_M G d) 57 K 13 (am_st1 lv 3 (.ref a)) st h nc ns) := (am_u e_57_12).trans (f_t (by decide +kernel))
theorem e_57_13 : pg_code 57 13 = some (.iconst 1, 1, 0, 0) := by decide +kernel
theorem u_57_13 {lv : am_L} {st : List Value} : am_W G (am_M G d) 57 K 13 lv st h nc ns = (am_W G (am_M G d) 57 K 14 lv (.int 1 :: st) h nc ns) := am_u e_57_13
theorem e_57_14 : pg_code 57 14 = some (.ireturn, 1, 0, 0) := by decide +kernel
theorem u_57_14 {a : Int32} {lv : am_L} : am_W G (am_M G d) 57 K 14 lv [.int a] h nc ns = (K (.inl (some (.int a))) h) := (am_u e_57_14).trans (f_t ⟨rfl, .int, rfl, rfl⟩)
theorem e_57_15 : pg_code 57 15 = some (.iconst 0, 1, 0, 0) := by decide +kernel
theorem u_57_15 {lv : am_L} {st : List Value} : am_W G (am_M G d) 57 K 15 lv st h nc ns = (am_W G (am_M G d) 57 K 16 lv (.int 0 :: st) h nc ns) := am_u e_57_15
theorem e_57_16 : pg_code 57 16 = some (.ireturn, 1, 0, 0) := by decide +kernel
theorem u_57_16 {a : Int32} {lv : am_L} : am_W G (am_M G d) 57 K 16 lv [.int a] h nc ns = (K (.inl (some (.int a))) h) := (am_u e_57_16).trans (f_t ⟨rfl, .int, rfl, rfl⟩)
theorem e_58_0 : pg_code 58 0 = some (.iload_n 1, 1, 0, 0) := by decide +kernel
theorem u_58_0 {a : Int32} {z0 : Option Value} {lv : am_L} {st : List Value} : am_W G (am_M G d) 58 K 0 (z0 :: some (.int a) :: lv) st h nc ns = (am_W G (am_M G d) 58 K 1 (z0 :: some (.int a) :: lv) (.int a :: st) h nc ns) := am_u e_58_0
theorem e_58_1 : pg_code 58 1 = some (.ifCond .lt 11, 3, 12, 0) := by decide +kernel
theorem u_58_1 {a : Int32} {lv : am_L} {st : List Value} : am_W G (am_M G d) 58 K 1 lv (.int a :: st) h nc ns = (am_br (a < 0) (am_W G (am_M G d) 58 K 12 lv st h nc ns) (am_W G (am_M G d) 58 K 4 lv st h nc ns)) := am_u e_58_1
theorem e_58_4 : pg_code 58 4 = some (.iload_n 1, 1, 0, 0) := by decide +kernel
theorem u_58_4 {a : Int32} {z0 : Option Value} {lv : am_L} {st : List Value} : am_W G (am_M G d) 58 K 4 (z0 :: some (.int a) :: lv) st h nc ns = (am_W G (am_M G d) 58 K 5 (z0 :: some (.int a) :: lv) (.int a :: st) h nc ns) := am_u e_58_4
theorem e_58_5 : pg_code 58 5 = some (.aload_n 0, 1, 0, 0) := by decide +kernel
theorem u_58_5 {a : Nat} {lv : am_L} {st : List Value} : am_W G (am_M G d) 58 K 5 (some (.ref a) :: lv) st h nc ns = (am_W G (am_M G d) 58 K 6 (some (.ref a) :: lv) (.ref a :: st) h nc ns) := am_u e_58_5
theorem e_58_6 : pg_code 58 6 = some (.getfield 123, 3, 0, 6) := by decide +kernel
theorem u_58_6 {a : Nat} {lv : am_L} {st : List Value} : am_W G (am_M G d) 58 K 6 lv (.ref a :: st) h nc ns = (f_gf G d 58 K 9 lv st h nc ns (h a) 0 6) := am_u e_58_6
theorem e_58_9 : pg_code 58 9 = some (.if_icmp .lt 13, 3, 22, 0) := by decide +kernel
theorem u_58_9 {a b : Int32} {lv : am_L} {st : List Value} : am_W G (am_M G d) 58 K 9 lv (.int b :: .int a :: st) h nc ns = (am_br (a < b) (am_W G (am_M G d) 58 K 22 lv st h nc ns) (am_W G (am_M G d) 58 K 12 lv st h nc ns)) := am_u e_58_9
theorem e_58_12 : pg_code 58 12 = some (.new 87, 3, 502, 0) := by decide +kernel
theorem u_58_12 {lv : am_L} {st : List Value} : am_W G (am_M G d) 58 K 12 lv st h nc ns = ((nc + 1 ≤ 1 ∧ ns + 6 ≤ 6 ∧ am_words st ≤ 8) ∧ K (.inr 502) h) := am_u e_58_12
theorem e_58_22 : pg_code 58 22 = some (.aload_n 0, 1, 0, 0) := by decide +kernel
theorem u_58_22 {a : Nat} {lv : am_L} {st : List Value} : am_W G (am_M G d) 58 K 22 (some (.ref a) :: lv) st h nc ns = (am_W G (am_M G d) 58 K 23 (some (.ref a) :: lv) (.ref a :: st) h nc ns) := am_u e_58_22
theorem e_58_23 : pg_code 58 23 = some (.getfield 42, 3, 0, 5) := by decide +kernel
theorem u_58_23 {a : Nat} {lv : am_L} {st : List Value} : am_W G (am_M G d) 58 K 23 lv (.ref a :: st) h nc ns = (f_gf G d 58 K 26 lv st h nc ns (h a) 0 5) := am_u e_58_23
theorem e_58_26 : pg_code 58 26 = some (.iload_n 1, 1, 0, 0) := by decide +kernel
theorem u_58_26 {a : Int32} {z0 : Option Value} {lv : am_L} {st : List Value} : am_W G (am_M G d) 58 K 26 (z0 :: some (.int a) :: lv) st h nc ns = (am_W G (am_M G d) 58 K 27 (z0 :: some (.int a) :: lv) (.int a :: st) h nc ns) := am_u e_58_26
theorem e_58_27 : pg_code 58 27 = some (.iaload, 1, 0, 0) := by decide +kernel
theorem u_58_27 {a : Nat} {j : Int32} {lv : am_L} {st : List Value} : am_W G (am_M G d) 58 K 27 lv (.int j :: .ref a :: st) h nc ns = (f_ia G d 58 K 28 lv st h nc ns (h a) .int j) := am_u e_58_27
theorem e_58_28 : pg_code 58 28 = some (.ireturn, 1, 0, 0) := by decide +kernel
theorem u_58_28 {a : Int32} {lv : am_L} : am_W G (am_M G d) 58 K 28 lv [.int a] h nc ns = (K (.inl (some (.int a))) h) := (am_u e_58_28).trans (f_t ⟨rfl, .int, rfl, rfl⟩)
theorem e_59_0 : pg_code 59 0 = some (.aload_n 3, 1, 0, 0) := by decide +kernel
theorem u_59_0 {a : Nat} {z0 : Option Value} {z1 : Option Value} {z2 : Option Value} {lv : am_L} {st : List Value} : am_W G (am_M G d) 59 K 0 (z0 :: z1 :: z2 :: some (.ref a) :: lv) st h nc ns = (am_W G (am_M G d) 59 K 1 (z0 :: z1 :: z2 :: some (.ref a) :: lv) (.ref a :: st) h nc ns) := am_u e_59_0
theorem e_59_1 : pg_code 59 1 = some (.iconst 0, 1, 0, 0) := by decide +kernel
theorem u_59_1 {lv : am_L} {st : List Value} : am_W G (am_M G d) 59 K 1 lv st h nc ns = (am_W G (am_M G d) 59 K 2 lv (.int 0 :: st) h nc ns) := am_u e_59_1
theorem e_59_2 : pg_code 59 2 = some (.aload_n 0, 1, 0, 0) := by decide +kernel
theorem u_59_2 {a : Nat} {lv : am_L} {st : List Value} : am_W G (am_M G d) 59 K 2 (some (.ref a) :: lv) st h nc ns = (am_W G (am_M G d) 59 K 3 (some (.ref a) :: lv) (.ref a :: st) h nc ns) := am_u e_59_2
theorem e_59_3 : pg_code 59 3 = some (.iload_n 1, 1, 0, 0) := by decide +kernel
theorem u_59_3 {a : Int32} {z0 : Option Value} {lv : am_L} {st : List Value} : am_W G (am_M G d) 59 K 3 (z0 :: some (.int a) :: lv) st h nc ns = (am_W G (am_M G d) 59 K 4 (z0 :: some (.int a) :: lv) (.int a :: st) h nc ns) := am_u e_59_3
theorem e_59_4 : pg_code 59 4 = some (.iload_n 2, 1, 0, 0) := by decide +kernel
theorem u_59_4 {a : Int32} {z0 : Option Value} {z1 : Option Value} {lv : am_L} {st : List Value} : am_W G (am_M G d) 59 K 4 (z0 :: z1 :: some (.int a) :: lv) st h nc ns = (am_W G (am_M G d) 59 K 5 (z0 :: z1 :: some (.int a) :: lv) (.int a :: st) h nc ns) := am_u e_59_4
theorem e_59_5 : pg_code 59 5 = some (.invokevirtual 48, 3, 60, 3) := by decide +kernel
theorem u_59_5 {a : Nat} {v0 v1 : Value} {lv : am_L} {st : List Value} : am_W G (am_M G d) 59 K 5 lv (v1 :: v0 :: .ref a :: st) h nc ns = ((am_words st ≤ 8 ∧ nc + 2 ≤ 2 ∧ ns + 12 ≤ 12 ∧ f_rc (h a) 0) ∧ am_M G d 60 [.ref a, v0, v1] h (am_back 59 K (am_W G (am_M G d) 59 K) 60 5 lv st nc ns)) := (am_u e_59_5).trans (f_iv_eq (a := a) (G := G) (d := d) (k := 59) (K := K) (pc := 5) (lv := lv) (st := st) (h := h) (nc := nc) (ns := ns) (x := 60) (X := am_W G (am_M G d) 59 K) [v0, v1] (by decide) rfl)
theorem e_59_8 : pg_code 59 8 = some (.i2l, 1, 0, 0) := by decide +kernel
theorem u_59_8 {a : Int32} {lv : am_L} {st : List Value} : am_W G (am_M G d) 59 K 8 lv (.int a :: st) h nc ns = (am_W G (am_M G d) 59 K 9 lv (.long a.toInt64 :: st) h nc ns) := am_u e_59_8
theorem e_59_9 : pg_code 59 9 = some (.lastore, 1, 0, 0) := by decide +kernel
theorem u_59_9 {a : Nat} {j : Int32} {b : Int64} {lv : am_L} {st : List Value} : am_W G (am_M G d) 59 K 9 lv (.long b :: .int j :: .ref a :: st) h nc ns = (f_ls G d 59 K 10 lv st h nc ns (h a) a j b) := am_u e_59_9
theorem e_59_10 : pg_code 59 10 = some (.goto 7, 3, 17, 0) := by decide +kernel
theorem u_59_10 {lv : am_L} {st : List Value} : am_W G (am_M G d) 59 K 10 lv st h nc ns = (am_W G (am_M G d) 59 K 17 lv st h nc ns) := am_u e_59_10
theorem e_59_13 : pg_code 59 13 = some (.astore 4, 2, 0, 0) := by decide +kernel
theorem u_59_13 {a : Nat} {lv : am_L} {st : List Value} : am_W G (am_M G d) 59 K 13 lv (.ref a :: st) h nc ns = (am_W G (am_M G d) 59 K 15 (am_st1 lv 4 (.ref a)) st h nc ns) := (am_u e_59_13).trans (f_t (by decide +kernel))
theorem e_59_15 : pg_code 59 15 = some (.iconst 1, 1, 0, 0) := by decide +kernel
theorem u_59_15 {lv : am_L} {st : List Value} : am_W G (am_M G d) 59 K 15 lv st h nc ns = (am_W G (am_M G d) 59 K 16 lv (.int 1 :: st) h nc ns) := am_u e_59_15
theorem e_59_16 : pg_code 59 16 = some (.ireturn, 1, 0, 0) := by decide +kernel
theorem u_59_16 {a : Int32} {lv : am_L} : am_W G (am_M G d) 59 K 16 lv [.int a] h nc ns = (K (.inl (some (.int a))) h) := (am_u e_59_16).trans (f_t ⟨rfl, .int, rfl, rfl⟩)
theorem e_59_17 : pg_code 59 17 = some (.iconst 0, 1, 0, 0) := by decide +kernel
theorem u_59_17 {lv : am_L} {st : List Value} : am_W G (am_M G d) 59 K 17 lv st h nc ns = (am_W G (am_M G d) 59 K 18 lv (.int 0 :: st) h nc ns) := am_u e_59_17
theorem e_59_18 : pg_code 59 18 = some (.ireturn, 1, 0, 0) := by decide +kernel
theorem u_59_18 {a : Int32} {lv : am_L} : am_W G (am_M G d) 59 K 18 lv [.int a] h nc ns = (K (.inl (some (.int a))) h) := (am_u e_59_18).trans (f_t ⟨rfl, .int, rfl, rfl⟩)
theorem e_60_0 : pg_code 60 0 = some (.aload_n 0, 1, 0, 0) := by decide +kernel
theorem u_60_0 {a : Nat} {lv : am_L} {st : List Value} : am_W G (am_M G d) 60 K 0 (some (.ref a) :: lv) st h nc ns = (am_W G (am_M G d) 60 K 1 (some (.ref a) :: lv) (.ref a :: st) h nc ns) := am_u e_60_0
theorem e_60_1 : pg_code 60 1 = some (.iload_n 1, 1, 0, 0) := by decide +kernel
theorem u_60_1 {a : Int32} {z0 : Option Value} {lv : am_L} {st : List Value} : am_W G (am_M G d) 60 K 1 (z0 :: some (.int a) :: lv) st h nc ns = (am_W G (am_M G d) 60 K 2 (z0 :: some (.int a) :: lv) (.int a :: st) h nc ns) := am_u e_60_1
theorem e_60_2 : pg_code 60 2 = some (.invokevirtual 100, 3, 50, 2) := by decide +kernel
theorem u_60_2 {a : Nat} {v0 : Value} {lv : am_L} {st : List Value} : am_W G (am_M G d) 60 K 2 lv (v0 :: .ref a :: st) h nc ns = ((am_words st ≤ 8 ∧ nc + 1 ≤ 2 ∧ ns + 6 ≤ 12 ∧ f_rc (h a) 0) ∧ am_M G d 50 [.ref a, v0] h (am_back 60 K (am_W G (am_M G d) 60 K) 50 2 lv st nc ns)) := (am_u e_60_2).trans (f_iv_eq (a := a) (G := G) (d := d) (k := 60) (K := K) (pc := 2) (lv := lv) (st := st) (h := h) (nc := nc) (ns := ns) (x := 50) (X := am_W G (am_M G d) 60 K) [v0] (by decide) rfl)
theorem e_60_5 : pg_code 60 5 = some (.iload_n 2, 1, 0, 0) := by decide +kernel
theorem u_60_5 {a : Int32} {z0 : Option Value} {z1 : Option Value} {lv : am_L} {st : List Value} : am_W G (am_M G d) 60 K 5 (z0 :: z1 :: some (.int a) :: lv) st h nc ns = (am_W G (am_M G d) 60 K 6 (z0 :: z1 :: some (.int a) :: lv) (.int a :: st) h nc ns) := am_u e_60_5
theorem e_60_6 : pg_code 60 6 = some (.tableswitch 65 0 2 #[26, 39, 52], 26, 0, 0) := by decide +kernel
theorem u_60_6 {a : Int32} {lv : am_L} {st : List Value} : am_W G (am_M G d) 60 K 6 lv (.int a :: st) h nc ns = (am_W G (am_M G d) 60 K (am_tsw 65 0 2 #[26, 39, 52] 6 a) lv st h nc ns) := am_u e_60_6
theorem e_60_32 : pg_code 60 32 = some (.aload_n 0, 1, 0, 0) := by decide +kernel
theorem u_60_32 {a : Nat} {lv : am_L} {st : List Value} : am_W G (am_M G d) 60 K 32 (some (.ref a) :: lv) st h nc ns = (am_W G (am_M G d) 60 K 33 (some (.ref a) :: lv) (.ref a :: st) h nc ns) := am_u e_60_32
theorem e_60_33 : pg_code 60 33 = some (.getfield 15, 3, 0, 0) := by decide +kernel
theorem u_60_33 {a : Nat} {lv : am_L} {st : List Value} : am_W G (am_M G d) 60 K 33 lv (.ref a :: st) h nc ns = (f_gf G d 60 K 36 lv st h nc ns (h a) 0 0) := am_u e_60_33
theorem e_60_36 : pg_code 60 36 = some (.getfield 64, 3, 5, 0) := by decide +kernel
theorem u_60_36 {a : Nat} {lv : am_L} {st : List Value} : am_W G (am_M G d) 60 K 36 lv (.ref a :: st) h nc ns = (f_gf G d 60 K 39 lv st h nc ns (h a) 5 0) := am_u e_60_36
theorem e_60_39 : pg_code 60 39 = some (.getfield 151, 3, 2, 0) := by decide +kernel
theorem u_60_39 {a : Nat} {lv : am_L} {st : List Value} : am_W G (am_M G d) 60 K 39 lv (.ref a :: st) h nc ns = (f_gf G d 60 K 42 lv st h nc ns (h a) 2 0) := am_u e_60_39
theorem e_60_42 : pg_code 60 42 = some (.iload_n 1, 1, 0, 0) := by decide +kernel
theorem u_60_42 {a : Int32} {z0 : Option Value} {lv : am_L} {st : List Value} : am_W G (am_M G d) 60 K 42 (z0 :: some (.int a) :: lv) st h nc ns = (am_W G (am_M G d) 60 K 43 (z0 :: some (.int a) :: lv) (.int a :: st) h nc ns) := am_u e_60_42
theorem e_60_43 : pg_code 60 43 = some (.iaload, 1, 0, 0) := by decide +kernel
theorem u_60_43 {a : Nat} {j : Int32} {lv : am_L} {st : List Value} : am_W G (am_M G d) 60 K 43 lv (.int j :: .ref a :: st) h nc ns = (f_ia G d 60 K 44 lv st h nc ns (h a) .int j) := am_u e_60_43
theorem e_60_44 : pg_code 60 44 = some (.ireturn, 1, 0, 0) := by decide +kernel
theorem u_60_44 {a : Int32} {lv : am_L} : am_W G (am_M G d) 60 K 44 lv [.int a] h nc ns = (K (.inl (some (.int a))) h) := (am_u e_60_44).trans (f_t ⟨rfl, .int, rfl, rfl⟩)
theorem e_60_45 : pg_code 60 45 = some (.aload_n 0, 1, 0, 0) := by decide +kernel
theorem u_60_45 {a : Nat} {lv : am_L} {st : List Value} : am_W G (am_M G d) 60 K 45 (some (.ref a) :: lv) st h nc ns = (am_W G (am_M G d) 60 K 46 (some (.ref a) :: lv) (.ref a :: st) h nc ns) := am_u e_60_45
theorem e_60_46 : pg_code 60 46 = some (.getfield 15, 3, 0, 0) := by decide +kernel
theorem u_60_46 {a : Nat} {lv : am_L} {st : List Value} : am_W G (am_M G d) 60 K 46 lv (.ref a :: st) h nc ns = (f_gf G d 60 K 49 lv st h nc ns (h a) 0 0) := am_u e_60_46
theorem e_60_49 : pg_code 60 49 = some (.getfield 64, 3, 5, 0) := by decide +kernel
theorem u_60_49 {a : Nat} {lv : am_L} {st : List Value} : am_W G (am_M G d) 60 K 49 lv (.ref a :: st) h nc ns = (f_gf G d 60 K 52 lv st h nc ns (h a) 5 0) := am_u e_60_49
theorem e_60_52 : pg_code 60 52 = some (.getfield 154, 3, 2, 1) := by decide +kernel
theorem u_60_52 {a : Nat} {lv : am_L} {st : List Value} : am_W G (am_M G d) 60 K 52 lv (.ref a :: st) h nc ns = (f_gf G d 60 K 55 lv st h nc ns (h a) 2 1) := am_u e_60_52
theorem e_60_55 : pg_code 60 55 = some (.iload_n 1, 1, 0, 0) := by decide +kernel
theorem u_60_55 {a : Int32} {z0 : Option Value} {lv : am_L} {st : List Value} : am_W G (am_M G d) 60 K 55 (z0 :: some (.int a) :: lv) st h nc ns = (am_W G (am_M G d) 60 K 56 (z0 :: some (.int a) :: lv) (.int a :: st) h nc ns) := am_u e_60_55
theorem e_60_56 : pg_code 60 56 = some (.iaload, 1, 0, 0) := by decide +kernel
theorem u_60_56 {a : Nat} {j : Int32} {lv : am_L} {st : List Value} : am_W G (am_M G d) 60 K 56 lv (.int j :: .ref a :: st) h nc ns = (f_ia G d 60 K 57 lv st h nc ns (h a) .int j) := am_u e_60_56
theorem e_60_57 : pg_code 60 57 = some (.ireturn, 1, 0, 0) := by decide +kernel
theorem u_60_57 {a : Int32} {lv : am_L} : am_W G (am_M G d) 60 K 57 lv [.int a] h nc ns = (K (.inl (some (.int a))) h) := (am_u e_60_57).trans (f_t ⟨rfl, .int, rfl, rfl⟩)
theorem e_60_58 : pg_code 60 58 = some (.aload_n 0, 1, 0, 0) := by decide +kernel
theorem u_60_58 {a : Nat} {lv : am_L} {st : List Value} : am_W G (am_M G d) 60 K 58 (some (.ref a) :: lv) st h nc ns = (am_W G (am_M G d) 60 K 59 (some (.ref a) :: lv) (.ref a :: st) h nc ns) := am_u e_60_58
theorem e_60_59 : pg_code 60 59 = some (.getfield 15, 3, 0, 0) := by decide +kernel
theorem u_60_59 {a : Nat} {lv : am_L} {st : List Value} : am_W G (am_M G d) 60 K 59 lv (.ref a :: st) h nc ns = (f_gf G d 60 K 62 lv st h nc ns (h a) 0 0) := am_u e_60_59
theorem e_60_62 : pg_code 60 62 = some (.getfield 64, 3, 5, 0) := by decide +kernel
theorem u_60_62 {a : Nat} {lv : am_L} {st : List Value} : am_W G (am_M G d) 60 K 62 lv (.ref a :: st) h nc ns = (f_gf G d 60 K 65 lv st h nc ns (h a) 5 0) := am_u e_60_62
theorem e_60_65 : pg_code 60 65 = some (.getfield 157, 3, 2, 2) := by decide +kernel
theorem u_60_65 {a : Nat} {lv : am_L} {st : List Value} : am_W G (am_M G d) 60 K 65 lv (.ref a :: st) h nc ns = (f_gf G d 60 K 68 lv st h nc ns (h a) 2 2) := am_u e_60_65
theorem e_60_68 : pg_code 60 68 = some (.iload_n 1, 1, 0, 0) := by decide +kernel
theorem u_60_68 {a : Int32} {z0 : Option Value} {lv : am_L} {st : List Value} : am_W G (am_M G d) 60 K 68 (z0 :: some (.int a) :: lv) st h nc ns = (am_W G (am_M G d) 60 K 69 (z0 :: some (.int a) :: lv) (.int a :: st) h nc ns) := am_u e_60_68
theorem e_60_69 : pg_code 60 69 = some (.iaload, 1, 0, 0) := by decide +kernel
theorem u_60_69 {a : Nat} {j : Int32} {lv : am_L} {st : List Value} : am_W G (am_M G d) 60 K 69 lv (.int j :: .ref a :: st) h nc ns = (f_ia G d 60 K 70 lv st h nc ns (h a) .int j) := am_u e_60_69
theorem e_60_70 : pg_code 60 70 = some (.ireturn, 1, 0, 0) := by decide +kernel
theorem u_60_70 {a : Int32} {lv : am_L} : am_W G (am_M G d) 60 K 70 lv [.int a] h nc ns = (K (.inl (some (.int a))) h) := (am_u e_60_70).trans (f_t ⟨rfl, .int, rfl, rfl⟩)
theorem e_60_71 : pg_code 60 71 = some (.new 87, 3, 502, 0) := by decide +kernel
theorem u_60_71 {lv : am_L} {st : List Value} : am_W G (am_M G d) 60 K 71 lv st h nc ns = ((nc + 1 ≤ 2 ∧ ns + 6 ≤ 12 ∧ am_words st ≤ 8) ∧ K (.inr 502) h) := am_u e_60_71
theorem e_61_0 : pg_code 61 0 = some (.aload_n 1, 1, 0, 0) := by decide +kernel
theorem u_61_0 {a : Nat} {z0 : Option Value} {lv : am_L} {st : List Value} : am_W G (am_M G d) 61 K 0 (z0 :: some (.ref a) :: lv) st h nc ns = (am_W G (am_M G d) 61 K 1 (z0 :: some (.ref a) :: lv) (.ref a :: st) h nc ns) := am_u e_61_0
theorem e_61_1 : pg_code 61 1 = some (.iconst 0, 1, 0, 0) := by decide +kernel
theorem u_61_1 {lv : am_L} {st : List Value} : am_W G (am_M G d) 61 K 1 lv st h nc ns = (am_W G (am_M G d) 61 K 2 lv (.int 0 :: st) h nc ns) := am_u e_61_1
theorem e_61_2 : pg_code 61 2 = some (.aload_n 0, 1, 0, 0) := by decide +kernel
theorem u_61_2 {a : Nat} {lv : am_L} {st : List Value} : am_W G (am_M G d) 61 K 2 (some (.ref a) :: lv) st h nc ns = (am_W G (am_M G d) 61 K 3 (some (.ref a) :: lv) (.ref a :: st) h nc ns) := am_u e_61_2
theorem e_61_3 : pg_code 61 3 = some (.invokevirtual 52, 3, 62, 1) := by decide +kernel
theorem u_61_3 {a : Nat} {lv : am_L} {st : List Value} : am_W G (am_M G d) 61 K 3 lv (.ref a :: st) h nc ns = ((am_words st ≤ 8 ∧ nc + 1 ≤ 1 ∧ ns + 6 ≤ 6 ∧ f_rc (h a) 0) ∧ am_M G d 62 [.ref a] h (am_back 61 K (am_W G (am_M G d) 61 K) 62 3 lv st nc ns)) := (am_u e_61_3).trans (f_iv_eq (a := a) (G := G) (d := d) (k := 61) (K := K) (pc := 3) (lv := lv) (st := st) (h := h) (nc := nc) (ns := ns) (x := 62) (X := am_W G (am_M G d) 61 K) [] (by decide) rfl)
theorem e_61_6 : pg_code 61 6 = some (.i2l, 1, 0, 0) := by decide +kernel
theorem u_61_6 {a : Int32} {lv : am_L} {st : List Value} : am_W G (am_M G d) 61 K 6 lv (.int a :: st) h nc ns = (am_W G (am_M G d) 61 K 7 lv (.long a.toInt64 :: st) h nc ns) := am_u e_61_6
theorem e_61_7 : pg_code 61 7 = some (.lastore, 1, 0, 0) := by decide +kernel
theorem u_61_7 {a : Nat} {j : Int32} {b : Int64} {lv : am_L} {st : List Value} : am_W G (am_M G d) 61 K 7 lv (.long b :: .int j :: .ref a :: st) h nc ns = (f_ls G d 61 K 8 lv st h nc ns (h a) a j b) := am_u e_61_7
theorem e_61_8 : pg_code 61 8 = some (.goto 6, 3, 14, 0) := by decide +kernel
theorem u_61_8 {lv : am_L} {st : List Value} : am_W G (am_M G d) 61 K 8 lv st h nc ns = (am_W G (am_M G d) 61 K 14 lv st h nc ns) := am_u e_61_8
theorem e_61_11 : pg_code 61 11 = some (.astore_n 2, 1, 0, 0) := by decide +kernel
theorem u_61_11 {a : Nat} {lv : am_L} {st : List Value} : am_W G (am_M G d) 61 K 11 lv (.ref a :: st) h nc ns = (am_W G (am_M G d) 61 K 12 (am_st1 lv 2 (.ref a)) st h nc ns) := (am_u e_61_11).trans (f_t (by decide +kernel))
theorem e_61_12 : pg_code 61 12 = some (.iconst 1, 1, 0, 0) := by decide +kernel
theorem u_61_12 {lv : am_L} {st : List Value} : am_W G (am_M G d) 61 K 12 lv st h nc ns = (am_W G (am_M G d) 61 K 13 lv (.int 1 :: st) h nc ns) := am_u e_61_12
theorem e_61_13 : pg_code 61 13 = some (.ireturn, 1, 0, 0) := by decide +kernel
theorem u_61_13 {a : Int32} {lv : am_L} : am_W G (am_M G d) 61 K 13 lv [.int a] h nc ns = (K (.inl (some (.int a))) h) := (am_u e_61_13).trans (f_t ⟨rfl, .int, rfl, rfl⟩)
theorem e_61_14 : pg_code 61 14 = some (.iconst 0, 1, 0, 0) := by decide +kernel
theorem u_61_14 {lv : am_L} {st : List Value} : am_W G (am_M G d) 61 K 14 lv st h nc ns = (am_W G (am_M G d) 61 K 15 lv (.int 0 :: st) h nc ns) := am_u e_61_14
theorem e_61_15 : pg_code 61 15 = some (.ireturn, 1, 0, 0) := by decide +kernel
theorem u_61_15 {a : Int32} {lv : am_L} : am_W G (am_M G d) 61 K 15 lv [.int a] h nc ns = (K (.inl (some (.int a))) h) := (am_u e_61_15).trans (f_t ⟨rfl, .int, rfl, rfl⟩)
theorem e_62_0 : pg_code 62 0 = some (.aload_n 0, 1, 0, 0) := by decide +kernel
theorem u_62_0 {a : Nat} {lv : am_L} {st : List Value} : am_W G (am_M G d) 62 K 0 (some (.ref a) :: lv) st h nc ns = (am_W G (am_M G d) 62 K 1 (some (.ref a) :: lv) (.ref a :: st) h nc ns) := am_u e_62_0
theorem e_62_1 : pg_code 62 1 = some (.getfield 162, 3, 0, 4) := by decide +kernel
theorem u_62_1 {a : Nat} {lv : am_L} {st : List Value} : am_W G (am_M G d) 62 K 1 lv (.ref a :: st) h nc ns = (f_gf G d 62 K 4 lv st h nc ns (h a) 0 4) := am_u e_62_1
theorem e_62_4 : pg_code 62 4 = some (.iconst 4, 1, 0, 0) := by decide +kernel
theorem u_62_4 {lv : am_L} {st : List Value} : am_W G (am_M G d) 62 K 4 lv st h nc ns = (am_W G (am_M G d) 62 K 5 lv (.int 4 :: st) h nc ns) := am_u e_62_4
theorem e_62_5 : pg_code 62 5 = some (.if_icmp .lt 13, 3, 18, 0) := by decide +kernel
theorem u_62_5 {a b : Int32} {lv : am_L} {st : List Value} : am_W G (am_M G d) 62 K 5 lv (.int b :: .int a :: st) h nc ns = (am_br (a < b) (am_W G (am_M G d) 62 K 18 lv st h nc ns) (am_W G (am_M G d) 62 K 8 lv st h nc ns)) := am_u e_62_5
theorem e_62_8 : pg_code 62 8 = some (.new 50, 3, 503, 0) := by decide +kernel
theorem u_62_8 {lv : am_L} {st : List Value} : am_W G (am_M G d) 62 K 8 lv st h nc ns = ((nc + 1 ≤ 1 ∧ ns + 6 ≤ 6 ∧ am_words st ≤ 8) ∧ K (.inr 503) h) := am_u e_62_8
theorem e_62_18 : pg_code 62 18 = some (.aload_n 0, 1, 0, 0) := by decide +kernel
theorem u_62_18 {a : Nat} {lv : am_L} {st : List Value} : am_W G (am_M G d) 62 K 18 (some (.ref a) :: lv) st h nc ns = (am_W G (am_M G d) 62 K 19 (some (.ref a) :: lv) (.ref a :: st) h nc ns) := am_u e_62_18
theorem e_62_19 : pg_code 62 19 = some (.getfield 24, 3, 0, 1) := by decide +kernel
theorem u_62_19 {a : Nat} {lv : am_L} {st : List Value} : am_W G (am_M G d) 62 K 19 lv (.ref a :: st) h nc ns = (f_gf G d 62 K 22 lv st h nc ns (h a) 0 1) := am_u e_62_19
theorem e_62_22 : pg_code 62 22 = some (.invokevirtual 57, 3, 39, 1) := by decide +kernel
theorem u_62_22 {a : Nat} {lv : am_L} {st : List Value} : am_W G (am_M G d) 62 K 22 lv (.ref a :: st) h nc ns = ((am_words st ≤ 8 ∧ nc + 0 ≤ 1 ∧ ns + 0 ≤ 6 ∧ f_rc (h a) 3) ∧ am_M G d 39 [.ref a] h (am_back 62 K (am_W G (am_M G d) 62 K) 39 22 lv st nc ns)) := (am_u e_62_22).trans (f_iv_eq (a := a) (G := G) (d := d) (k := 62) (K := K) (pc := 22) (lv := lv) (st := st) (h := h) (nc := nc) (ns := ns) (x := 39) (X := am_W G (am_M G d) 62 K) [] (by decide) rfl)
theorem e_62_25 : pg_code 62 25 = some (.aload_n 0, 1, 0, 0) := by decide +kernel
theorem u_62_25 {a : Nat} {lv : am_L} {st : List Value} : am_W G (am_M G d) 62 K 25 (some (.ref a) :: lv) st h nc ns = (am_W G (am_M G d) 62 K 26 (some (.ref a) :: lv) (.ref a :: st) h nc ns) := am_u e_62_25
theorem e_62_26 : pg_code 62 26 = some (.getfield 37, 3, 0, 3) := by decide +kernel
theorem u_62_26 {a : Nat} {lv : am_L} {st : List Value} : am_W G (am_M G d) 62 K 26 lv (.ref a :: st) h nc ns = (f_gf G d 62 K 29 lv st h nc ns (h a) 0 3) := am_u e_62_26
theorem e_62_29 : pg_code 62 29 = some (.aload_n 0, 1, 0, 0) := by decide +kernel
theorem u_62_29 {a : Nat} {lv : am_L} {st : List Value} : am_W G (am_M G d) 62 K 29 (some (.ref a) :: lv) st h nc ns = (am_W G (am_M G d) 62 K 30 (some (.ref a) :: lv) (.ref a :: st) h nc ns) := am_u e_62_29
theorem e_62_30 : pg_code 62 30 = some (.getfield 162, 3, 0, 4) := by decide +kernel
theorem u_62_30 {a : Nat} {lv : am_L} {st : List Value} : am_W G (am_M G d) 62 K 30 lv (.ref a :: st) h nc ns = (f_gf G d 62 K 33 lv st h nc ns (h a) 0 4) := am_u e_62_30
theorem e_62_33 : pg_code 62 33 = some (.aaload, 1, 0, 0) := by decide +kernel
theorem u_62_33 {a : Nat} {j : Int32} {lv : am_L} {st : List Value} : am_W G (am_M G d) 62 K 33 lv (.int j :: .ref a :: st) h nc ns = (f_aa G d 62 K 34 lv st h nc ns (h a) j) := am_u e_62_33
theorem e_62_34 : pg_code 62 34 = some (.aload_n 0, 1, 0, 0) := by decide +kernel
theorem u_62_34 {a : Nat} {lv : am_L} {st : List Value} : am_W G (am_M G d) 62 K 34 (some (.ref a) :: lv) st h nc ns = (am_W G (am_M G d) 62 K 35 (some (.ref a) :: lv) (.ref a :: st) h nc ns) := am_u e_62_34
theorem e_62_35 : pg_code 62 35 = some (.getfield 15, 3, 0, 0) := by decide +kernel
theorem u_62_35 {a : Nat} {lv : am_L} {st : List Value} : am_W G (am_M G d) 62 K 35 lv (.ref a :: st) h nc ns = (f_gf G d 62 K 38 lv st h nc ns (h a) 0 0) := am_u e_62_35
theorem e_62_38 : pg_code 62 38 = some (.getfield 64, 3, 5, 0) := by decide +kernel
theorem u_62_38 {a : Nat} {lv : am_L} {st : List Value} : am_W G (am_M G d) 62 K 38 lv (.ref a :: st) h nc ns = (f_gf G d 62 K 41 lv st h nc ns (h a) 5 0) := am_u e_62_38
theorem e_62_41 : pg_code 62 41 = some (.invokevirtual 167, 3, 63, 2) := by decide +kernel
theorem u_62_41 {a : Nat} {v0 : Value} {lv : am_L} {st : List Value} : am_W G (am_M G d) 62 K 41 lv (v0 :: .ref a :: st) h nc ns = ((am_words st ≤ 8 ∧ nc + 0 ≤ 1 ∧ ns + 0 ≤ 6 ∧ f_rc (h a) 1) ∧ am_M G d 63 [.ref a, v0] h (am_back 62 K (am_W G (am_M G d) 62 K) 63 41 lv st nc ns)) := (am_u e_62_41).trans (f_iv_eq (a := a) (G := G) (d := d) (k := 62) (K := K) (pc := 41) (lv := lv) (st := st) (h := h) (nc := nc) (ns := ns) (x := 63) (X := am_W G (am_M G d) 62 K) [v0] (by decide) rfl)
theorem e_62_44 : pg_code 62 44 = some (.aload_n 0, 1, 0, 0) := by decide +kernel
theorem u_62_44 {a : Nat} {lv : am_L} {st : List Value} : am_W G (am_M G d) 62 K 44 (some (.ref a) :: lv) st h nc ns = (am_W G (am_M G d) 62 K 45 (some (.ref a) :: lv) (.ref a :: st) h nc ns) := am_u e_62_44
theorem e_62_45 : pg_code 62 45 = some (.dup, 1, 0, 0) := by decide +kernel
theorem u_62_45 {a : Nat} {lv : am_L} {st : List Value} : am_W G (am_M G d) 62 K 45 lv (.ref a :: st) h nc ns = (am_W G (am_M G d) 62 K 46 lv (.ref a :: .ref a :: st) h nc ns) := (am_u e_62_45).trans (f_t rfl)
theorem e_62_46 : pg_code 62 46 = some (.getfield 162, 3, 0, 4) := by decide +kernel
theorem u_62_46 {a : Nat} {lv : am_L} {st : List Value} : am_W G (am_M G d) 62 K 46 lv (.ref a :: st) h nc ns = (f_gf G d 62 K 49 lv st h nc ns (h a) 0 4) := am_u e_62_46
theorem e_62_49 : pg_code 62 49 = some (.iconst 1, 1, 0, 0) := by decide +kernel
theorem u_62_49 {lv : am_L} {st : List Value} : am_W G (am_M G d) 62 K 49 lv st h nc ns = (am_W G (am_M G d) 62 K 50 lv (.int 1 :: st) h nc ns) := am_u e_62_49
theorem e_62_50 : pg_code 62 50 = some (.iadd, 1, 0, 0) := by decide +kernel
theorem u_62_50 {a b : Int32} {lv : am_L} {st : List Value} : am_W G (am_M G d) 62 K 50 lv (.int b :: .int a :: st) h nc ns = (am_W G (am_M G d) 62 K 51 lv (.int (a + b) :: st) h nc ns) := am_u e_62_50
theorem e_62_51 : pg_code 62 51 = some (.putfield 162, 3, 0, 4) := by decide +kernel
theorem u_62_51 {a : Nat} {b : Int32} {lv : am_L} {st : List Value} : am_W G (am_M G d) 62 K 51 lv (.int b :: .ref a :: st) h nc ns = (f_pf G d 62 K 54 lv st h nc ns (h a) 0 4 a (.int b)) := (am_u e_62_51).trans (f_pf_eq ⟨rfl, rfl⟩)
theorem e_62_54 : pg_code 62 54 = some (.aload_n 0, 1, 0, 0) := by decide +kernel
theorem u_62_54 {a : Nat} {lv : am_L} {st : List Value} : am_W G (am_M G d) 62 K 54 (some (.ref a) :: lv) st h nc ns = (am_W G (am_M G d) 62 K 55 (some (.ref a) :: lv) (.ref a :: st) h nc ns) := am_u e_62_54
theorem e_62_55 : pg_code 62 55 = some (.getfield 162, 3, 0, 4) := by decide +kernel
theorem u_62_55 {a : Nat} {lv : am_L} {st : List Value} : am_W G (am_M G d) 62 K 55 lv (.ref a :: st) h nc ns = (f_gf G d 62 K 58 lv st h nc ns (h a) 0 4) := am_u e_62_55
theorem e_62_58 : pg_code 62 58 = some (.iconst 1, 1, 0, 0) := by decide +kernel
theorem u_62_58 {lv : am_L} {st : List Value} : am_W G (am_M G d) 62 K 58 lv st h nc ns = (am_W G (am_M G d) 62 K 59 lv (.int 1 :: st) h nc ns) := am_u e_62_58
theorem e_62_59 : pg_code 62 59 = some (.isub, 1, 0, 0) := by decide +kernel
theorem u_62_59 {a b : Int32} {lv : am_L} {st : List Value} : am_W G (am_M G d) 62 K 59 lv (.int b :: .int a :: st) h nc ns = (am_W G (am_M G d) 62 K 60 lv (.int (a - b) :: st) h nc ns) := am_u e_62_59
theorem e_62_60 : pg_code 62 60 = some (.ireturn, 1, 0, 0) := by decide +kernel
theorem u_62_60 {a : Int32} {lv : am_L} : am_W G (am_M G d) 62 K 60 lv [.int a] h nc ns = (K (.inl (some (.int a))) h) := (am_u e_62_60).trans (f_t ⟨rfl, .int, rfl, rfl⟩)
theorem e_63_0 : pg_code 63 0 = some (.aload_n 0, 1, 0, 0) := by decide +kernel
theorem u_63_0 {a : Nat} {lv : am_L} {st : List Value} : am_W G (am_M G d) 63 K 0 (some (.ref a) :: lv) st h nc ns = (am_W G (am_M G d) 63 K 1 (some (.ref a) :: lv) (.ref a :: st) h nc ns) := am_u e_63_0
theorem e_63_1 : pg_code 63 1 = some (.getfield 10, 3, 1, 0) := by decide +kernel
theorem u_63_1 {a : Nat} {lv : am_L} {st : List Value} : am_W G (am_M G d) 63 K 1 lv (.ref a :: st) h nc ns = (f_gf G d 63 K 4 lv st h nc ns (h a) 1 0) := am_u e_63_1
theorem e_63_4 : pg_code 63 4 = some (.aload_n 1, 1, 0, 0) := by decide +kernel
theorem u_63_4 {a : Nat} {z0 : Option Value} {lv : am_L} {st : List Value} : am_W G (am_M G d) 63 K 4 (z0 :: some (.ref a) :: lv) st h nc ns = (am_W G (am_M G d) 63 K 5 (z0 :: some (.ref a) :: lv) (.ref a :: st) h nc ns) := am_u e_63_4
theorem e_63_5 : pg_code 63 5 = some (.invokevirtual 19, 3, 10, 2) := by decide +kernel
theorem u_63_5 {a : Nat} {v0 : Value} {lv : am_L} {st : List Value} : am_W G (am_M G d) 63 K 5 lv (v0 :: .ref a :: st) h nc ns = ((am_words st ≤ 8 ∧ nc + 0 ≤ 0 ∧ ns + 0 ≤ 0 ∧ f_rc (h a) 2) ∧ am_M G d 10 [.ref a, v0] h (am_back 63 K (am_W G (am_M G d) 63 K) 10 5 lv st nc ns)) := (am_u e_63_5).trans (f_iv_eq (a := a) (G := G) (d := d) (k := 63) (K := K) (pc := 5) (lv := lv) (st := st) (h := h) (nc := nc) (ns := ns) (x := 10) (X := am_W G (am_M G d) 63 K) [v0] (by decide) rfl)
theorem e_63_8 : pg_code 63 8 = some (.aload_n 0, 1, 0, 0) := by decide +kernel
theorem u_63_8 {a : Nat} {lv : am_L} {st : List Value} : am_W G (am_M G d) 63 K 8 (some (.ref a) :: lv) st h nc ns = (am_W G (am_M G d) 63 K 9 (some (.ref a) :: lv) (.ref a :: st) h nc ns) := am_u e_63_8
theorem e_63_9 : pg_code 63 9 = some (.getfield 16, 3, 1, 1) := by decide +kernel
theorem u_63_9 {a : Nat} {lv : am_L} {st : List Value} : am_W G (am_M G d) 63 K 9 lv (.ref a :: st) h nc ns = (f_gf G d 63 K 12 lv st h nc ns (h a) 1 1) := am_u e_63_9
theorem e_63_12 : pg_code 63 12 = some (.aload_n 1, 1, 0, 0) := by decide +kernel
theorem u_63_12 {a : Nat} {z0 : Option Value} {lv : am_L} {st : List Value} : am_W G (am_M G d) 63 K 12 (z0 :: some (.ref a) :: lv) st h nc ns = (am_W G (am_M G d) 63 K 13 (z0 :: some (.ref a) :: lv) (.ref a :: st) h nc ns) := am_u e_63_12
theorem e_63_13 : pg_code 63 13 = some (.invokevirtual 19, 3, 10, 2) := by decide +kernel
theorem u_63_13 {a : Nat} {v0 : Value} {lv : am_L} {st : List Value} : am_W G (am_M G d) 63 K 13 lv (v0 :: .ref a :: st) h nc ns = ((am_words st ≤ 8 ∧ nc + 0 ≤ 0 ∧ ns + 0 ≤ 0 ∧ f_rc (h a) 2) ∧ am_M G d 10 [.ref a, v0] h (am_back 63 K (am_W G (am_M G d) 63 K) 10 13 lv st nc ns)) := (am_u e_63_13).trans (f_iv_eq (a := a) (G := G) (d := d) (k := 63) (K := K) (pc := 13) (lv := lv) (st := st) (h := h) (nc := nc) (ns := ns) (x := 10) (X := am_W G (am_M G d) 63 K) [v0] (by decide) rfl)
theorem e_63_16 : pg_code 63 16 = some (.return_, 1, 0, 0) := by decide +kernel
theorem u_63_16 {lv : am_L} : am_W G (am_M G d) 63 K 16 lv [] h nc ns = (K (.inl none) h) := (am_u e_63_16).trans (f_t ⟨rfl, rfl⟩)
theorem e_64_0 : pg_code 64 0 = some (.aload 6, 2, 0, 0) := by decide +kernel
theorem u_64_0 {a : Nat} {z0 : Option Value} {z1 : Option Value} {z2 : Option Value} {z3 : Option Value} {z4 : Option Value} {z5 : Option Value} {lv : am_L} {st : List Value} : am_W G (am_M G d) 64 K 0 (z0 :: z1 :: z2 :: z3 :: z4 :: z5 :: some (.ref a) :: lv) st h nc ns = (am_W G (am_M G d) 64 K 2 (z0 :: z1 :: z2 :: z3 :: z4 :: z5 :: some (.ref a) :: lv) (.ref a :: st) h nc ns) := am_u e_64_0
theorem e_64_2 : pg_code 64 2 = some (.iconst 0, 1, 0, 0) := by decide +kernel
theorem u_64_2 {lv : am_L} {st : List Value} : am_W G (am_M G d) 64 K 2 lv st h nc ns = (am_W G (am_M G d) 64 K 3 lv (.int 0 :: st) h nc ns) := am_u e_64_2
theorem e_64_3 : pg_code 64 3 = some (.aload_n 0, 1, 0, 0) := by decide +kernel
theorem u_64_3 {a : Nat} {lv : am_L} {st : List Value} : am_W G (am_M G d) 64 K 3 (some (.ref a) :: lv) st h nc ns = (am_W G (am_M G d) 64 K 4 (some (.ref a) :: lv) (.ref a :: st) h nc ns) := am_u e_64_3
theorem e_64_4 : pg_code 64 4 = some (.iload_n 1, 1, 0, 0) := by decide +kernel
theorem u_64_4 {a : Int32} {z0 : Option Value} {lv : am_L} {st : List Value} : am_W G (am_M G d) 64 K 4 (z0 :: some (.int a) :: lv) st h nc ns = (am_W G (am_M G d) 64 K 5 (z0 :: some (.int a) :: lv) (.int a :: st) h nc ns) := am_u e_64_4
theorem e_64_5 : pg_code 64 5 = some (.iload_n 2, 1, 0, 0) := by decide +kernel
theorem u_64_5 {a : Int32} {z0 : Option Value} {z1 : Option Value} {lv : am_L} {st : List Value} : am_W G (am_M G d) 64 K 5 (z0 :: z1 :: some (.int a) :: lv) st h nc ns = (am_W G (am_M G d) 64 K 6 (z0 :: z1 :: some (.int a) :: lv) (.int a :: st) h nc ns) := am_u e_64_5
theorem e_64_6 : pg_code 64 6 = some (.iload_n 3, 1, 0, 0) := by decide +kernel
theorem u_64_6 {a : Int32} {z0 : Option Value} {z1 : Option Value} {z2 : Option Value} {lv : am_L} {st : List Value} : am_W G (am_M G d) 64 K 6 (z0 :: z1 :: z2 :: some (.int a) :: lv) st h nc ns = (am_W G (am_M G d) 64 K 7 (z0 :: z1 :: z2 :: some (.int a) :: lv) (.int a :: st) h nc ns) := am_u e_64_6
theorem e_64_7 : pg_code 64 7 = some (.iload 4, 2, 0, 0) := by decide +kernel
theorem u_64_7 {a : Int32} {z0 : Option Value} {z1 : Option Value} {z2 : Option Value} {z3 : Option Value} {lv : am_L} {st : List Value} : am_W G (am_M G d) 64 K 7 (z0 :: z1 :: z2 :: z3 :: some (.int a) :: lv) st h nc ns = (am_W G (am_M G d) 64 K 9 (z0 :: z1 :: z2 :: z3 :: some (.int a) :: lv) (.int a :: st) h nc ns) := am_u e_64_7
theorem e_64_9 : pg_code 64 9 = some (.iload 5, 2, 0, 0) := by decide +kernel
theorem u_64_9 {a : Int32} {z0 : Option Value} {z1 : Option Value} {z2 : Option Value} {z3 : Option Value} {z4 : Option Value} {lv : am_L} {st : List Value} : am_W G (am_M G d) 64 K 9 (z0 :: z1 :: z2 :: z3 :: z4 :: some (.int a) :: lv) st h nc ns = (am_W G (am_M G d) 64 K 11 (z0 :: z1 :: z2 :: z3 :: z4 :: some (.int a) :: lv) (.int a :: st) h nc ns) := am_u e_64_9
theorem e_64_11 : pg_code 64 11 = some (.invokevirtual 56, 3, 65, 6) := by decide +kernel
theorem u_64_11 {a : Nat} {v0 v1 v2 v3 v4 : Value} {lv : am_L} {st : List Value} : am_W G (am_M G d) 64 K 11 lv (v4 :: v3 :: v2 :: v1 :: v0 :: .ref a :: st) h nc ns = ((am_words st ≤ 8 ∧ nc + 3 ≤ 3 ∧ ns + 18 ≤ 18 ∧ f_rc (h a) 0) ∧ am_M G d 65 [.ref a, v0, v1, v2, v3, v4] h (am_back 64 K (am_W G (am_M G d) 64 K) 65 11 lv st nc ns)) := (am_u e_64_11).trans (f_iv_eq (a := a) (G := G) (d := d) (k := 64) (K := K) (pc := 11) (lv := lv) (st := st) (h := h) (nc := nc) (ns := ns) (x := 65) (X := am_W G (am_M G d) 64 K) [v0, v1, v2, v3, v4] (by decide) rfl)
theorem e_64_14 : pg_code 64 14 = some (.ifCond .eq 7, 3, 21, 0) := by decide +kernel
theorem u_64_14 {a : Int32} {lv : am_L} {st : List Value} : am_W G (am_M G d) 64 K 14 lv (.int a :: st) h nc ns = (am_br (a = 0) (am_W G (am_M G d) 64 K 21 lv st h nc ns) (am_W G (am_M G d) 64 K 17 lv st h nc ns)) := am_u e_64_14
theorem e_64_17 : pg_code 64 17 = some (.lconst 1, 1, 0, 0) := by decide +kernel
theorem u_64_17 {lv : am_L} {st : List Value} : am_W G (am_M G d) 64 K 17 lv st h nc ns = (am_W G (am_M G d) 64 K 18 lv (.long 1 :: st) h nc ns) := am_u e_64_17
theorem e_64_18 : pg_code 64 18 = some (.goto 4, 3, 22, 0) := by decide +kernel
theorem u_64_18 {lv : am_L} {st : List Value} : am_W G (am_M G d) 64 K 18 lv st h nc ns = (am_W G (am_M G d) 64 K 22 lv st h nc ns) := am_u e_64_18
theorem e_64_21 : pg_code 64 21 = some (.lconst 0, 1, 0, 0) := by decide +kernel
theorem u_64_21 {lv : am_L} {st : List Value} : am_W G (am_M G d) 64 K 21 lv st h nc ns = (am_W G (am_M G d) 64 K 22 lv (.long 0 :: st) h nc ns) := am_u e_64_21
theorem e_64_22 : pg_code 64 22 = some (.lastore, 1, 0, 0) := by decide +kernel
theorem u_64_22 {a : Nat} {j : Int32} {b : Int64} {lv : am_L} {st : List Value} : am_W G (am_M G d) 64 K 22 lv (.long b :: .int j :: .ref a :: st) h nc ns = (f_ls G d 64 K 23 lv st h nc ns (h a) a j b) := am_u e_64_22
theorem e_64_23 : pg_code 64 23 = some (.goto 11, 3, 34, 0) := by decide +kernel
theorem u_64_23 {lv : am_L} {st : List Value} : am_W G (am_M G d) 64 K 23 lv st h nc ns = (am_W G (am_M G d) 64 K 34 lv st h nc ns) := am_u e_64_23
theorem e_64_26 : pg_code 64 26 = some (.astore 7, 2, 0, 0) := by decide +kernel
theorem u_64_26 {a : Nat} {lv : am_L} {st : List Value} : am_W G (am_M G d) 64 K 26 lv (.ref a :: st) h nc ns = (am_W G (am_M G d) 64 K 28 (am_st1 lv 7 (.ref a)) st h nc ns) := (am_u e_64_26).trans (f_t (by decide +kernel))
theorem e_64_28 : pg_code 64 28 = some (.iconst 1, 1, 0, 0) := by decide +kernel
theorem u_64_28 {lv : am_L} {st : List Value} : am_W G (am_M G d) 64 K 28 lv st h nc ns = (am_W G (am_M G d) 64 K 29 lv (.int 1 :: st) h nc ns) := am_u e_64_28
theorem e_64_29 : pg_code 64 29 = some (.ireturn, 1, 0, 0) := by decide +kernel
theorem u_64_29 {a : Int32} {lv : am_L} : am_W G (am_M G d) 64 K 29 lv [.int a] h nc ns = (K (.inl (some (.int a))) h) := (am_u e_64_29).trans (f_t ⟨rfl, .int, rfl, rfl⟩)
theorem e_64_30 : pg_code 64 30 = some (.astore 7, 2, 0, 0) := by decide +kernel
theorem u_64_30 {a : Nat} {lv : am_L} {st : List Value} : am_W G (am_M G d) 64 K 30 lv (.ref a :: st) h nc ns = (am_W G (am_M G d) 64 K 32 (am_st1 lv 7 (.ref a)) st h nc ns) := (am_u e_64_30).trans (f_t (by decide +kernel))
theorem e_64_32 : pg_code 64 32 = some (.iconst 2, 1, 0, 0) := by decide +kernel
theorem u_64_32 {lv : am_L} {st : List Value} : am_W G (am_M G d) 64 K 32 lv st h nc ns = (am_W G (am_M G d) 64 K 33 lv (.int 2 :: st) h nc ns) := am_u e_64_32
theorem e_64_33 : pg_code 64 33 = some (.ireturn, 1, 0, 0) := by decide +kernel
theorem u_64_33 {a : Int32} {lv : am_L} : am_W G (am_M G d) 64 K 33 lv [.int a] h nc ns = (K (.inl (some (.int a))) h) := (am_u e_64_33).trans (f_t ⟨rfl, .int, rfl, rfl⟩)
theorem e_64_34 : pg_code 64 34 = some (.iconst 0, 1, 0, 0) := by decide +kernel
theorem u_64_34 {lv : am_L} {st : List Value} : am_W G (am_M G d) 64 K 34 lv st h nc ns = (am_W G (am_M G d) 64 K 35 lv (.int 0 :: st) h nc ns) := am_u e_64_34
theorem e_64_35 : pg_code 64 35 = some (.ireturn, 1, 0, 0) := by decide +kernel
theorem u_64_35 {a : Int32} {lv : am_L} : am_W G (am_M G d) 64 K 35 lv [.int a] h nc ns = (K (.inl (some (.int a))) h) := (am_u e_64_35).trans (f_t ⟨rfl, .int, rfl, rfl⟩)
theorem e_65_0 : pg_code 65 0 = some (.aload_n 0, 1, 0, 0) := by decide +kernel
theorem u_65_0 {a : Nat} {lv : am_L} {st : List Value} : am_W G (am_M G d) 65 K 0 (some (.ref a) :: lv) st h nc ns = (am_W G (am_M G d) 65 K 1 (some (.ref a) :: lv) (.ref a :: st) h nc ns) := am_u e_65_0
theorem e_65_1 : pg_code 65 1 = some (.iload_n 1, 1, 0, 0) := by decide +kernel
theorem u_65_1 {a : Int32} {z0 : Option Value} {lv : am_L} {st : List Value} : am_W G (am_M G d) 65 K 1 (z0 :: some (.int a) :: lv) st h nc ns = (am_W G (am_M G d) 65 K 2 (z0 :: some (.int a) :: lv) (.int a :: st) h nc ns) := am_u e_65_1
theorem e_65_2 : pg_code 65 2 = some (.invokevirtual 170, 3, 66, 2) := by decide +kernel
theorem u_65_2 {a : Nat} {v0 : Value} {lv : am_L} {st : List Value} : am_W G (am_M G d) 65 K 2 lv (v0 :: .ref a :: st) h nc ns = ((am_words st ≤ 8 ∧ nc + 1 ≤ 3 ∧ ns + 6 ≤ 18 ∧ f_rc (h a) 0) ∧ am_M G d 66 [.ref a, v0] h (am_back 65 K (am_W G (am_M G d) 65 K) 66 2 lv st nc ns)) := (am_u e_65_2).trans (f_iv_eq (a := a) (G := G) (d := d) (k := 65) (K := K) (pc := 2) (lv := lv) (st := st) (h := h) (nc := nc) (ns := ns) (x := 66) (X := am_W G (am_M G d) 65 K) [v0] (by decide) rfl)
theorem e_65_5 : pg_code 65 5 = some (.aload_n 0, 1, 0, 0) := by decide +kernel
theorem u_65_5 {a : Nat} {lv : am_L} {st : List Value} : am_W G (am_M G d) 65 K 5 (some (.ref a) :: lv) st h nc ns = (am_W G (am_M G d) 65 K 6 (some (.ref a) :: lv) (.ref a :: st) h nc ns) := am_u e_65_5
theorem e_65_6 : pg_code 65 6 = some (.getfield 37, 3, 0, 3) := by decide +kernel
theorem u_65_6 {a : Nat} {lv : am_L} {st : List Value} : am_W G (am_M G d) 65 K 6 lv (.ref a :: st) h nc ns = (f_gf G d 65 K 9 lv st h nc ns (h a) 0 3) := am_u e_65_6
theorem e_65_9 : pg_code 65 9 = some (.iload_n 1, 1, 0, 0) := by decide +kernel
theorem u_65_9 {a : Int32} {z0 : Option Value} {lv : am_L} {st : List Value} : am_W G (am_M G d) 65 K 9 (z0 :: some (.int a) :: lv) st h nc ns = (am_W G (am_M G d) 65 K 10 (z0 :: some (.int a) :: lv) (.int a :: st) h nc ns) := am_u e_65_9
theorem e_65_10 : pg_code 65 10 = some (.aaload, 1, 0, 0) := by decide +kernel
theorem u_65_10 {a : Nat} {j : Int32} {lv : am_L} {st : List Value} : am_W G (am_M G d) 65 K 10 lv (.int j :: .ref a :: st) h nc ns = (f_aa G d 65 K 11 lv st h nc ns (h a) j) := am_u e_65_10
theorem e_65_11 : pg_code 65 11 = some (.getfield 173, 3, 1, 1) := by decide +kernel
theorem u_65_11 {a : Nat} {lv : am_L} {st : List Value} : am_W G (am_M G d) 65 K 11 lv (.ref a :: st) h nc ns = (f_gf G d 65 K 14 lv st h nc ns (h a) 1 1) := am_u e_65_11
theorem e_65_14 : pg_code 65 14 = some (.astore 6, 2, 0, 0) := by decide +kernel
theorem u_65_14 {a : Nat} {lv : am_L} {st : List Value} : am_W G (am_M G d) 65 K 14 lv (.ref a :: st) h nc ns = (am_W G (am_M G d) 65 K 16 (am_st1 lv 6 (.ref a)) st h nc ns) := (am_u e_65_14).trans (f_t (by decide +kernel))
theorem e_65_16 : pg_code 65 16 = some (.iload_n 2, 1, 0, 0) := by decide +kernel
theorem u_65_16 {a : Int32} {z0 : Option Value} {z1 : Option Value} {lv : am_L} {st : List Value} : am_W G (am_M G d) 65 K 16 (z0 :: z1 :: some (.int a) :: lv) st h nc ns = (am_W G (am_M G d) 65 K 17 (z0 :: z1 :: some (.int a) :: lv) (.int a :: st) h nc ns) := am_u e_65_16
theorem e_65_17 : pg_code 65 17 = some (.ifCond .lt 12, 3, 29, 0) := by decide +kernel
theorem u_65_17 {a : Int32} {lv : am_L} {st : List Value} : am_W G (am_M G d) 65 K 17 lv (.int a :: st) h nc ns = (am_br (a < 0) (am_W G (am_M G d) 65 K 29 lv st h nc ns) (am_W G (am_M G d) 65 K 20 lv st h nc ns)) := am_u e_65_17
theorem e_65_20 : pg_code 65 20 = some (.iload_n 2, 1, 0, 0) := by decide +kernel
theorem u_65_20 {a : Int32} {z0 : Option Value} {z1 : Option Value} {lv : am_L} {st : List Value} : am_W G (am_M G d) 65 K 20 (z0 :: z1 :: some (.int a) :: lv) st h nc ns = (am_W G (am_M G d) 65 K 21 (z0 :: z1 :: some (.int a) :: lv) (.int a :: st) h nc ns) := am_u e_65_20
theorem e_65_21 : pg_code 65 21 = some (.aload 6, 2, 0, 0) := by decide +kernel
theorem u_65_21 {a : Nat} {z0 : Option Value} {z1 : Option Value} {z2 : Option Value} {z3 : Option Value} {z4 : Option Value} {z5 : Option Value} {lv : am_L} {st : List Value} : am_W G (am_M G d) 65 K 21 (z0 :: z1 :: z2 :: z3 :: z4 :: z5 :: some (.ref a) :: lv) st h nc ns = (am_W G (am_M G d) 65 K 23 (z0 :: z1 :: z2 :: z3 :: z4 :: z5 :: some (.ref a) :: lv) (.ref a :: st) h nc ns) := am_u e_65_21
theorem e_65_23 : pg_code 65 23 = some (.getfield 68, 3, 2, 3) := by decide +kernel
theorem u_65_23 {a : Nat} {lv : am_L} {st : List Value} : am_W G (am_M G d) 65 K 23 lv (.ref a :: st) h nc ns = (f_gf G d 65 K 26 lv st h nc ns (h a) 2 3) := am_u e_65_23
theorem e_65_26 : pg_code 65 26 = some (.if_icmp .lt 13, 3, 39, 0) := by decide +kernel
theorem u_65_26 {a b : Int32} {lv : am_L} {st : List Value} : am_W G (am_M G d) 65 K 26 lv (.int b :: .int a :: st) h nc ns = (am_br (a < b) (am_W G (am_M G d) 65 K 39 lv st h nc ns) (am_W G (am_M G d) 65 K 29 lv st h nc ns)) := am_u e_65_26
theorem e_65_29 : pg_code 65 29 = some (.new 87, 3, 502, 0) := by decide +kernel
theorem u_65_29 {lv : am_L} {st : List Value} : am_W G (am_M G d) 65 K 29 lv st h nc ns = ((nc + 1 ≤ 3 ∧ ns + 6 ≤ 18 ∧ am_words st ≤ 8) ∧ K (.inr 502) h) := am_u e_65_29
theorem e_65_39 : pg_code 65 39 = some (.aload_n 0, 1, 0, 0) := by decide +kernel
theorem u_65_39 {a : Nat} {lv : am_L} {st : List Value} : am_W G (am_M G d) 65 K 39 (some (.ref a) :: lv) st h nc ns = (am_W G (am_M G d) 65 K 40 (some (.ref a) :: lv) (.ref a :: st) h nc ns) := am_u e_65_39
theorem e_65_40 : pg_code 65 40 = some (.getfield 15, 3, 0, 0) := by decide +kernel
theorem u_65_40 {a : Nat} {lv : am_L} {st : List Value} : am_W G (am_M G d) 65 K 40 lv (.ref a :: st) h nc ns = (f_gf G d 65 K 43 lv st h nc ns (h a) 0 0) := am_u e_65_40
theorem e_65_43 : pg_code 65 43 = some (.iload_n 3, 1, 0, 0) := by decide +kernel
theorem u_65_43 {a : Int32} {z0 : Option Value} {z1 : Option Value} {z2 : Option Value} {lv : am_L} {st : List Value} : am_W G (am_M G d) 65 K 43 (z0 :: z1 :: z2 :: some (.int a) :: lv) st h nc ns = (am_W G (am_M G d) 65 K 44 (z0 :: z1 :: z2 :: some (.int a) :: lv) (.int a :: st) h nc ns) := am_u e_65_43
theorem e_65_44 : pg_code 65 44 = some (.iload 4, 2, 0, 0) := by decide +kernel
theorem u_65_44 {a : Int32} {z0 : Option Value} {z1 : Option Value} {z2 : Option Value} {z3 : Option Value} {lv : am_L} {st : List Value} : am_W G (am_M G d) 65 K 44 (z0 :: z1 :: z2 :: z3 :: some (.int a) :: lv) st h nc ns = (am_W G (am_M G d) 65 K 46 (z0 :: z1 :: z2 :: z3 :: some (.int a) :: lv) (.int a :: st) h nc ns) := am_u e_65_44
theorem e_65_46 : pg_code 65 46 = some (.iload 5, 2, 0, 0) := by decide +kernel
theorem u_65_46 {a : Int32} {z0 : Option Value} {z1 : Option Value} {z2 : Option Value} {z3 : Option Value} {z4 : Option Value} {lv : am_L} {st : List Value} : am_W G (am_M G d) 65 K 46 (z0 :: z1 :: z2 :: z3 :: z4 :: some (.int a) :: lv) st h nc ns = (am_W G (am_M G d) 65 K 48 (z0 :: z1 :: z2 :: z3 :: z4 :: some (.int a) :: lv) (.int a :: st) h nc ns) := am_u e_65_46
theorem e_65_48 : pg_code 65 48 = some (.aload 6, 2, 0, 0) := by decide +kernel
theorem u_65_48 {a : Nat} {z0 : Option Value} {z1 : Option Value} {z2 : Option Value} {z3 : Option Value} {z4 : Option Value} {z5 : Option Value} {lv : am_L} {st : List Value} : am_W G (am_M G d) 65 K 48 (z0 :: z1 :: z2 :: z3 :: z4 :: z5 :: some (.ref a) :: lv) st h nc ns = (am_W G (am_M G d) 65 K 50 (z0 :: z1 :: z2 :: z3 :: z4 :: z5 :: some (.ref a) :: lv) (.ref a :: st) h nc ns) := am_u e_65_48
theorem e_65_50 : pg_code 65 50 = some (.getfield 68, 3, 2, 3) := by decide +kernel
theorem u_65_50 {a : Nat} {lv : am_L} {st : List Value} : am_W G (am_M G d) 65 K 50 lv (.ref a :: st) h nc ns = (f_gf G d 65 K 53 lv st h nc ns (h a) 2 3) := am_u e_65_50
theorem e_65_53 : pg_code 65 53 = some (.invokevirtual 71, 3, 43, 5) := by decide +kernel
theorem u_65_53 {a : Nat} {v0 v1 v2 v3 : Value} {lv : am_L} {st : List Value} : am_W G (am_M G d) 65 K 53 lv (v3 :: v2 :: v1 :: v0 :: .ref a :: st) h nc ns = ((am_words st ≤ 8 ∧ nc + 0 ≤ 3 ∧ ns + 0 ≤ 18 ∧ f_rc (h a) 5) ∧ am_M G d 43 [.ref a, v0, v1, v2, v3] h (am_back 65 K (am_W G (am_M G d) 65 K) 43 53 lv st nc ns)) := (am_u e_65_53).trans (f_iv_eq (a := a) (G := G) (d := d) (k := 65) (K := K) (pc := 53) (lv := lv) (st := st) (h := h) (nc := nc) (ns := ns) (x := 43) (X := am_W G (am_M G d) 65 K) [v0, v1, v2, v3] (by decide) rfl)
theorem e_65_56 : pg_code 65 56 = some (.ifCond .ne 13, 3, 69, 0) := by decide +kernel
theorem u_65_56 {a : Int32} {lv : am_L} {st : List Value} : am_W G (am_M G d) 65 K 56 lv (.int a :: st) h nc ns = (am_br (¬ a = 0) (am_W G (am_M G d) 65 K 69 lv st h nc ns) (am_W G (am_M G d) 65 K 59 lv st h nc ns)) := am_u e_65_56
theorem e_65_59 : pg_code 65 59 = some (.new 75, 3, 501, 0) := by decide +kernel
theorem u_65_59 {lv : am_L} {st : List Value} : am_W G (am_M G d) 65 K 59 lv st h nc ns = ((nc + 1 ≤ 3 ∧ ns + 6 ≤ 18 ∧ am_words st ≤ 8) ∧ K (.inr 501) h) := am_u e_65_59
theorem e_65_69 : pg_code 65 69 = some (.aload 6, 2, 0, 0) := by decide +kernel
theorem u_65_69 {a : Nat} {z0 : Option Value} {z1 : Option Value} {z2 : Option Value} {z3 : Option Value} {z4 : Option Value} {z5 : Option Value} {lv : am_L} {st : List Value} : am_W G (am_M G d) 65 K 69 (z0 :: z1 :: z2 :: z3 :: z4 :: z5 :: some (.ref a) :: lv) st h nc ns = (am_W G (am_M G d) 65 K 71 (z0 :: z1 :: z2 :: z3 :: z4 :: z5 :: some (.ref a) :: lv) (.ref a :: st) h nc ns) := am_u e_65_69
theorem e_65_71 : pg_code 65 71 = some (.iload_n 2, 1, 0, 0) := by decide +kernel
theorem u_65_71 {a : Int32} {z0 : Option Value} {z1 : Option Value} {lv : am_L} {st : List Value} : am_W G (am_M G d) 65 K 71 (z0 :: z1 :: some (.int a) :: lv) st h nc ns = (am_W G (am_M G d) 65 K 72 (z0 :: z1 :: some (.int a) :: lv) (.int a :: st) h nc ns) := am_u e_65_71
theorem e_65_72 : pg_code 65 72 = some (.iload_n 3, 1, 0, 0) := by decide +kernel
theorem u_65_72 {a : Int32} {z0 : Option Value} {z1 : Option Value} {z2 : Option Value} {lv : am_L} {st : List Value} : am_W G (am_M G d) 65 K 72 (z0 :: z1 :: z2 :: some (.int a) :: lv) st h nc ns = (am_W G (am_M G d) 65 K 73 (z0 :: z1 :: z2 :: some (.int a) :: lv) (.int a :: st) h nc ns) := am_u e_65_72
theorem e_65_73 : pg_code 65 73 = some (.iload 4, 2, 0, 0) := by decide +kernel
theorem u_65_73 {a : Int32} {z0 : Option Value} {z1 : Option Value} {z2 : Option Value} {z3 : Option Value} {lv : am_L} {st : List Value} : am_W G (am_M G d) 65 K 73 (z0 :: z1 :: z2 :: z3 :: some (.int a) :: lv) st h nc ns = (am_W G (am_M G d) 65 K 75 (z0 :: z1 :: z2 :: z3 :: some (.int a) :: lv) (.int a :: st) h nc ns) := am_u e_65_73
theorem e_65_75 : pg_code 65 75 = some (.iload 5, 2, 0, 0) := by decide +kernel
theorem u_65_75 {a : Int32} {z0 : Option Value} {z1 : Option Value} {z2 : Option Value} {z3 : Option Value} {z4 : Option Value} {lv : am_L} {st : List Value} : am_W G (am_M G d) 65 K 75 (z0 :: z1 :: z2 :: z3 :: z4 :: some (.int a) :: lv) st h nc ns = (am_W G (am_M G d) 65 K 77 (z0 :: z1 :: z2 :: z3 :: z4 :: some (.int a) :: lv) (.int a :: st) h nc ns) := am_u e_65_75
theorem e_65_77 : pg_code 65 77 = some (.invokevirtual 106, 3, 29, 5) := by decide +kernel
theorem u_65_77 {a : Nat} {v0 v1 v2 v3 : Value} {lv : am_L} {st : List Value} : am_W G (am_M G d) 65 K 77 lv (v3 :: v2 :: v1 :: v0 :: .ref a :: st) h nc ns = ((am_words st ≤ 8 ∧ nc + 0 ≤ 3 ∧ ns + 0 ≤ 18 ∧ f_rc (h a) 2) ∧ am_M G d 29 [.ref a, v0, v1, v2, v3] h (am_back 65 K (am_W G (am_M G d) 65 K) 29 77 lv st nc ns)) := (am_u e_65_77).trans (f_iv_eq (a := a) (G := G) (d := d) (k := 65) (K := K) (pc := 77) (lv := lv) (st := st) (h := h) (nc := nc) (ns := ns) (x := 29) (X := am_W G (am_M G d) 65 K) [v0, v1, v2, v3] (by decide) rfl)
theorem e_65_80 : pg_code 65 80 = some (.ireturn, 1, 0, 0) := by decide +kernel
theorem u_65_80 {a : Int32} {lv : am_L} : am_W G (am_M G d) 65 K 80 lv [.int a] h nc ns = (narrow .boolean (.int a) = .int a ∧ K (.inl (some (.int a))) h) := (am_u e_65_80).trans (f_z_eq rfl)
theorem e_66_0 : pg_code 66 0 = some (.iload_n 1, 1, 0, 0) := by decide +kernel
theorem u_66_0 {a : Int32} {z0 : Option Value} {lv : am_L} {st : List Value} : am_W G (am_M G d) 66 K 0 (z0 :: some (.int a) :: lv) st h nc ns = (am_W G (am_M G d) 66 K 1 (z0 :: some (.int a) :: lv) (.int a :: st) h nc ns) := am_u e_66_0
theorem e_66_1 : pg_code 66 1 = some (.ifCond .lt 11, 3, 12, 0) := by decide +kernel
theorem u_66_1 {a : Int32} {lv : am_L} {st : List Value} : am_W G (am_M G d) 66 K 1 lv (.int a :: st) h nc ns = (am_br (a < 0) (am_W G (am_M G d) 66 K 12 lv st h nc ns) (am_W G (am_M G d) 66 K 4 lv st h nc ns)) := am_u e_66_1
theorem e_66_4 : pg_code 66 4 = some (.iload_n 1, 1, 0, 0) := by decide +kernel
theorem u_66_4 {a : Int32} {z0 : Option Value} {lv : am_L} {st : List Value} : am_W G (am_M G d) 66 K 4 (z0 :: some (.int a) :: lv) st h nc ns = (am_W G (am_M G d) 66 K 5 (z0 :: some (.int a) :: lv) (.int a :: st) h nc ns) := am_u e_66_4
theorem e_66_5 : pg_code 66 5 = some (.aload_n 0, 1, 0, 0) := by decide +kernel
theorem u_66_5 {a : Nat} {lv : am_L} {st : List Value} : am_W G (am_M G d) 66 K 5 (some (.ref a) :: lv) st h nc ns = (am_W G (am_M G d) 66 K 6 (some (.ref a) :: lv) (.ref a :: st) h nc ns) := am_u e_66_5
theorem e_66_6 : pg_code 66 6 = some (.getfield 162, 3, 0, 4) := by decide +kernel
theorem u_66_6 {a : Nat} {lv : am_L} {st : List Value} : am_W G (am_M G d) 66 K 6 lv (.ref a :: st) h nc ns = (f_gf G d 66 K 9 lv st h nc ns (h a) 0 4) := am_u e_66_6
theorem e_66_9 : pg_code 66 9 = some (.if_icmp .lt 13, 3, 22, 0) := by decide +kernel
theorem u_66_9 {a b : Int32} {lv : am_L} {st : List Value} : am_W G (am_M G d) 66 K 9 lv (.int b :: .int a :: st) h nc ns = (am_br (a < b) (am_W G (am_M G d) 66 K 22 lv st h nc ns) (am_W G (am_M G d) 66 K 12 lv st h nc ns)) := am_u e_66_9
theorem e_66_12 : pg_code 66 12 = some (.new 87, 3, 502, 0) := by decide +kernel
theorem u_66_12 {lv : am_L} {st : List Value} : am_W G (am_M G d) 66 K 12 lv st h nc ns = ((nc + 1 ≤ 1 ∧ ns + 6 ≤ 6 ∧ am_words st ≤ 8) ∧ K (.inr 502) h) := am_u e_66_12
theorem e_66_22 : pg_code 66 22 = some (.return_, 1, 0, 0) := by decide +kernel
theorem u_66_22 {lv : am_L} : am_W G (am_M G d) 66 K 22 lv [] h nc ns = (K (.inl none) h) := (am_u e_66_22).trans (f_t ⟨rfl, rfl⟩)
theorem e_67_0 : pg_code 67 0 = some (.aload_n 2, 1, 0, 0) := by decide +kernel
theorem u_67_0 {a : Nat} {z0 : Option Value} {z1 : Option Value} {lv : am_L} {st : List Value} : am_W G (am_M G d) 67 K 0 (z0 :: z1 :: some (.ref a) :: lv) st h nc ns = (am_W G (am_M G d) 67 K 1 (z0 :: z1 :: some (.ref a) :: lv) (.ref a :: st) h nc ns) := am_u e_67_0
theorem e_67_1 : pg_code 67 1 = some (.iconst 0, 1, 0, 0) := by decide +kernel
theorem u_67_1 {lv : am_L} {st : List Value} : am_W G (am_M G d) 67 K 1 lv st h nc ns = (am_W G (am_M G d) 67 K 2 lv (.int 0 :: st) h nc ns) := am_u e_67_1
theorem e_67_2 : pg_code 67 2 = some (.aload_n 0, 1, 0, 0) := by decide +kernel
theorem u_67_2 {a : Nat} {lv : am_L} {st : List Value} : am_W G (am_M G d) 67 K 2 (some (.ref a) :: lv) st h nc ns = (am_W G (am_M G d) 67 K 3 (some (.ref a) :: lv) (.ref a :: st) h nc ns) := am_u e_67_2
theorem e_67_3 : pg_code 67 3 = some (.iload_n 1, 1, 0, 0) := by decide +kernel
theorem u_67_3 {a : Int32} {z0 : Option Value} {lv : am_L} {st : List Value} : am_W G (am_M G d) 67 K 3 (z0 :: some (.int a) :: lv) st h nc ns = (am_W G (am_M G d) 67 K 4 (z0 :: some (.int a) :: lv) (.int a :: st) h nc ns) := am_u e_67_3
theorem e_67_4 : pg_code 67 4 = some (.invokevirtual 60, 3, 68, 2) := by decide +kernel
theorem u_67_4 {a : Nat} {v0 : Value} {lv : am_L} {st : List Value} : am_W G (am_M G d) 67 K 4 lv (v0 :: .ref a :: st) h nc ns = ((am_words st ≤ 8 ∧ nc + 1 ≤ 1 ∧ ns + 6 ≤ 6 ∧ f_rc (h a) 0) ∧ am_M G d 68 [.ref a, v0] h (am_back 67 K (am_W G (am_M G d) 67 K) 68 4 lv st nc ns)) := (am_u e_67_4).trans (f_iv_eq (a := a) (G := G) (d := d) (k := 67) (K := K) (pc := 4) (lv := lv) (st := st) (h := h) (nc := nc) (ns := ns) (x := 68) (X := am_W G (am_M G d) 67 K) [v0] (by decide) rfl)
theorem e_67_7 : pg_code 67 7 = some (.i2l, 1, 0, 0) := by decide +kernel
theorem u_67_7 {a : Int32} {lv : am_L} {st : List Value} : am_W G (am_M G d) 67 K 7 lv (.int a :: st) h nc ns = (am_W G (am_M G d) 67 K 8 lv (.long a.toInt64 :: st) h nc ns) := am_u e_67_7
theorem e_67_8 : pg_code 67 8 = some (.lastore, 1, 0, 0) := by decide +kernel
theorem u_67_8 {a : Nat} {j : Int32} {b : Int64} {lv : am_L} {st : List Value} : am_W G (am_M G d) 67 K 8 lv (.long b :: .int j :: .ref a :: st) h nc ns = (f_ls G d 67 K 9 lv st h nc ns (h a) a j b) := am_u e_67_8
theorem e_67_9 : pg_code 67 9 = some (.goto 6, 3, 15, 0) := by decide +kernel
theorem u_67_9 {lv : am_L} {st : List Value} : am_W G (am_M G d) 67 K 9 lv st h nc ns = (am_W G (am_M G d) 67 K 15 lv st h nc ns) := am_u e_67_9
theorem e_67_12 : pg_code 67 12 = some (.astore_n 3, 1, 0, 0) := by decide +kernel
theorem u_67_12 {a : Nat} {lv : am_L} {st : List Value} : am_W G (am_M G d) 67 K 12 lv (.ref a :: st) h nc ns = (am_W G (am_M G d) 67 K 13 (am_st1 lv 3 (.ref a)) st h nc ns) := (am_u e_67_12).trans (f_t (by decide +kernel))
theorem e_67_13 : pg_code 67 13 = some (.iconst 1, 1, 0, 0) := by decide +kernel
theorem u_67_13 {lv : am_L} {st : List Value} : am_W G (am_M G d) 67 K 13 lv st h nc ns = (am_W G (am_M G d) 67 K 14 lv (.int 1 :: st) h nc ns) := am_u e_67_13
theorem e_67_14 : pg_code 67 14 = some (.ireturn, 1, 0, 0) := by decide +kernel
theorem u_67_14 {a : Int32} {lv : am_L} : am_W G (am_M G d) 67 K 14 lv [.int a] h nc ns = (K (.inl (some (.int a))) h) := (am_u e_67_14).trans (f_t ⟨rfl, .int, rfl, rfl⟩)
theorem e_67_15 : pg_code 67 15 = some (.iconst 0, 1, 0, 0) := by decide +kernel
theorem u_67_15 {lv : am_L} {st : List Value} : am_W G (am_M G d) 67 K 15 lv st h nc ns = (am_W G (am_M G d) 67 K 16 lv (.int 0 :: st) h nc ns) := am_u e_67_15
theorem e_67_16 : pg_code 67 16 = some (.ireturn, 1, 0, 0) := by decide +kernel
theorem u_67_16 {a : Int32} {lv : am_L} : am_W G (am_M G d) 67 K 16 lv [.int a] h nc ns = (K (.inl (some (.int a))) h) := (am_u e_67_16).trans (f_t ⟨rfl, .int, rfl, rfl⟩)
theorem e_68_0 : pg_code 68 0 = some (.aload_n 0, 1, 0, 0) := by decide +kernel
theorem u_68_0 {a : Nat} {lv : am_L} {st : List Value} : am_W G (am_M G d) 68 K 0 (some (.ref a) :: lv) st h nc ns = (am_W G (am_M G d) 68 K 1 (some (.ref a) :: lv) (.ref a :: st) h nc ns) := am_u e_68_0
theorem e_68_1 : pg_code 68 1 = some (.iload_n 1, 1, 0, 0) := by decide +kernel
theorem u_68_1 {a : Int32} {z0 : Option Value} {lv : am_L} {st : List Value} : am_W G (am_M G d) 68 K 1 (z0 :: some (.int a) :: lv) st h nc ns = (am_W G (am_M G d) 68 K 2 (z0 :: some (.int a) :: lv) (.int a :: st) h nc ns) := am_u e_68_1
theorem e_68_2 : pg_code 68 2 = some (.invokevirtual 170, 3, 66, 2) := by decide +kernel
theorem u_68_2 {a : Nat} {v0 : Value} {lv : am_L} {st : List Value} : am_W G (am_M G d) 68 K 2 lv (v0 :: .ref a :: st) h nc ns = ((am_words st ≤ 8 ∧ nc + 1 ≤ 1 ∧ ns + 6 ≤ 6 ∧ f_rc (h a) 0) ∧ am_M G d 66 [.ref a, v0] h (am_back 68 K (am_W G (am_M G d) 68 K) 66 2 lv st nc ns)) := (am_u e_68_2).trans (f_iv_eq (a := a) (G := G) (d := d) (k := 68) (K := K) (pc := 2) (lv := lv) (st := st) (h := h) (nc := nc) (ns := ns) (x := 66) (X := am_W G (am_M G d) 68 K) [v0] (by decide) rfl)
theorem e_68_5 : pg_code 68 5 = some (.aload_n 0, 1, 0, 0) := by decide +kernel
theorem u_68_5 {a : Nat} {lv : am_L} {st : List Value} : am_W G (am_M G d) 68 K 5 (some (.ref a) :: lv) st h nc ns = (am_W G (am_M G d) 68 K 6 (some (.ref a) :: lv) (.ref a :: st) h nc ns) := am_u e_68_5
theorem e_68_6 : pg_code 68 6 = some (.getfield 37, 3, 0, 3) := by decide +kernel
theorem u_68_6 {a : Nat} {lv : am_L} {st : List Value} : am_W G (am_M G d) 68 K 6 lv (.ref a :: st) h nc ns = (f_gf G d 68 K 9 lv st h nc ns (h a) 0 3) := am_u e_68_6
theorem e_68_9 : pg_code 68 9 = some (.iload_n 1, 1, 0, 0) := by decide +kernel
theorem u_68_9 {a : Int32} {z0 : Option Value} {lv : am_L} {st : List Value} : am_W G (am_M G d) 68 K 9 (z0 :: some (.int a) :: lv) st h nc ns = (am_W G (am_M G d) 68 K 10 (z0 :: some (.int a) :: lv) (.int a :: st) h nc ns) := am_u e_68_9
theorem e_68_10 : pg_code 68 10 = some (.aaload, 1, 0, 0) := by decide +kernel
theorem u_68_10 {a : Nat} {j : Int32} {lv : am_L} {st : List Value} : am_W G (am_M G d) 68 K 10 lv (.int j :: .ref a :: st) h nc ns = (f_aa G d 68 K 11 lv st h nc ns (h a) j) := am_u e_68_10
theorem e_68_11 : pg_code 68 11 = some (.astore_n 2, 1, 0, 0) := by decide +kernel
theorem u_68_11 {a : Nat} {lv : am_L} {st : List Value} : am_W G (am_M G d) 68 K 11 lv (.ref a :: st) h nc ns = (am_W G (am_M G d) 68 K 12 (am_st1 lv 2 (.ref a)) st h nc ns) := (am_u e_68_11).trans (f_t (by decide +kernel))
theorem e_68_12 : pg_code 68 12 = some (.aload_n 2, 1, 0, 0) := by decide +kernel
theorem u_68_12 {a : Nat} {z0 : Option Value} {z1 : Option Value} {lv : am_L} {st : List Value} : am_W G (am_M G d) 68 K 12 (z0 :: z1 :: some (.ref a) :: lv) st h nc ns = (am_W G (am_M G d) 68 K 13 (z0 :: z1 :: some (.ref a) :: lv) (.ref a :: st) h nc ns) := am_u e_68_12
theorem e_68_13 : pg_code 68 13 = some (.aload_n 0, 1, 0, 0) := by decide +kernel
theorem u_68_13 {a : Nat} {lv : am_L} {st : List Value} : am_W G (am_M G d) 68 K 13 (some (.ref a) :: lv) st h nc ns = (am_W G (am_M G d) 68 K 14 (some (.ref a) :: lv) (.ref a :: st) h nc ns) := am_u e_68_13
theorem e_68_14 : pg_code 68 14 = some (.getfield 15, 3, 0, 0) := by decide +kernel
theorem u_68_14 {a : Nat} {lv : am_L} {st : List Value} : am_W G (am_M G d) 68 K 14 lv (.ref a :: st) h nc ns = (f_gf G d 68 K 17 lv st h nc ns (h a) 0 0) := am_u e_68_14
theorem e_68_17 : pg_code 68 17 = some (.getfield 64, 3, 5, 0) := by decide +kernel
theorem u_68_17 {a : Nat} {lv : am_L} {st : List Value} : am_W G (am_M G d) 68 K 17 lv (.ref a :: st) h nc ns = (f_gf G d 68 K 20 lv st h nc ns (h a) 5 0) := am_u e_68_17
theorem e_68_20 : pg_code 68 20 = some (.invokevirtual 180, 3, 69, 2) := by decide +kernel
theorem u_68_20 {a : Nat} {v0 : Value} {lv : am_L} {st : List Value} : am_W G (am_M G d) 68 K 20 lv (v0 :: .ref a :: st) h nc ns = ((am_words st ≤ 8 ∧ nc + 0 ≤ 1 ∧ ns + 0 ≤ 6 ∧ f_rc (h a) 1) ∧ am_M G d 69 [.ref a, v0] h (am_back 68 K (am_W G (am_M G d) 68 K) 69 20 lv st nc ns)) := (am_u e_68_20).trans (f_iv_eq (a := a) (G := G) (d := d) (k := 68) (K := K) (pc := 20) (lv := lv) (st := st) (h := h) (nc := nc) (ns := ns) (x := 69) (X := am_W G (am_M G d) 68 K) [v0] (by decide) rfl)
theorem e_68_23 : pg_code 68 23 = some (.istore_n 3, 1, 0, 0) := by decide +kernel
theorem u_68_23 {a : Int32} {lv : am_L} {st : List Value} : am_W G (am_M G d) 68 K 23 lv (.int a :: st) h nc ns = (am_W G (am_M G d) 68 K 24 (am_st1 lv 3 (.int a)) st h nc ns) := (am_u e_68_23).trans (f_t (by decide +kernel))
theorem e_68_24 : pg_code 68 24 = some (.iload_n 3, 1, 0, 0) := by decide +kernel
theorem u_68_24 {a : Int32} {z0 : Option Value} {z1 : Option Value} {z2 : Option Value} {lv : am_L} {st : List Value} : am_W G (am_M G d) 68 K 24 (z0 :: z1 :: z2 :: some (.int a) :: lv) st h nc ns = (am_W G (am_M G d) 68 K 25 (z0 :: z1 :: z2 :: some (.int a) :: lv) (.int a :: st) h nc ns) := am_u e_68_24
theorem e_68_25 : pg_code 68 25 = some (.ifCond .ne 43, 3, 68, 0) := by decide +kernel
theorem u_68_25 {a : Int32} {lv : am_L} {st : List Value} : am_W G (am_M G d) 68 K 25 lv (.int a :: st) h nc ns = (am_br (¬ a = 0) (am_W G (am_M G d) 68 K 68 lv st h nc ns) (am_W G (am_M G d) 68 K 28 lv st h nc ns)) := am_u e_68_25
theorem e_68_28 : pg_code 68 28 = some (.aload_n 0, 1, 0, 0) := by decide +kernel
theorem u_68_28 {a : Nat} {lv : am_L} {st : List Value} : am_W G (am_M G d) 68 K 28 (some (.ref a) :: lv) st h nc ns = (am_W G (am_M G d) 68 K 29 (some (.ref a) :: lv) (.ref a :: st) h nc ns) := am_u e_68_28
theorem e_68_29 : pg_code 68 29 = some (.getfield 24, 3, 0, 1) := by decide +kernel
theorem u_68_29 {a : Nat} {lv : am_L} {st : List Value} : am_W G (am_M G d) 68 K 29 lv (.ref a :: st) h nc ns = (f_gf G d 68 K 32 lv st h nc ns (h a) 0 1) := am_u e_68_29
theorem e_68_32 : pg_code 68 32 = some (.aload_n 0, 1, 0, 0) := by decide +kernel
theorem u_68_32 {a : Nat} {lv : am_L} {st : List Value} : am_W G (am_M G d) 68 K 32 (some (.ref a) :: lv) st h nc ns = (am_W G (am_M G d) 68 K 33 (some (.ref a) :: lv) (.ref a :: st) h nc ns) := am_u e_68_32
theorem e_68_33 : pg_code 68 33 = some (.getfield 15, 3, 0, 0) := by decide +kernel
theorem u_68_33 {a : Nat} {lv : am_L} {st : List Value} : am_W G (am_M G d) 68 K 33 lv (.ref a :: st) h nc ns = (f_gf G d 68 K 36 lv st h nc ns (h a) 0 0) := am_u e_68_33
theorem e_68_36 : pg_code 68 36 = some (.invokevirtual 92, 3, 8, 2) := by decide +kernel
theorem u_68_36 {a : Nat} {v0 : Value} {lv : am_L} {st : List Value} : am_W G (am_M G d) 68 K 36 lv (v0 :: .ref a :: st) h nc ns = ((am_words st ≤ 8 ∧ nc + 0 ≤ 1 ∧ ns + 0 ≤ 6 ∧ f_rc (h a) 3) ∧ am_M G d 8 [.ref a, v0] h (am_back 68 K (am_W G (am_M G d) 68 K) 8 36 lv st nc ns)) := (am_u e_68_36).trans (f_iv_eq (a := a) (G := G) (d := d) (k := 68) (K := K) (pc := 36) (lv := lv) (st := st) (h := h) (nc := nc) (ns := ns) (x := 8) (X := am_W G (am_M G d) 68 K) [v0] (by decide) rfl)
theorem e_68_39 : pg_code 68 39 = some (.aload_n 0, 1, 0, 0) := by decide +kernel
theorem u_68_39 {a : Nat} {lv : am_L} {st : List Value} : am_W G (am_M G d) 68 K 39 (some (.ref a) :: lv) st h nc ns = (am_W G (am_M G d) 68 K 40 (some (.ref a) :: lv) (.ref a :: st) h nc ns) := am_u e_68_39
theorem e_68_40 : pg_code 68 40 = some (.getfield 31, 3, 0, 2) := by decide +kernel
theorem u_68_40 {a : Nat} {lv : am_L} {st : List Value} : am_W G (am_M G d) 68 K 40 lv (.ref a :: st) h nc ns = (f_gf G d 68 K 43 lv st h nc ns (h a) 0 2) := am_u e_68_40
theorem e_68_43 : pg_code 68 43 = some (.invokevirtual 82, 3, 33, 1) := by decide +kernel
theorem u_68_43 {a : Nat} {lv : am_L} {st : List Value} : am_W G (am_M G d) 68 K 43 lv (.ref a :: st) h nc ns = ((am_words st ≤ 8 ∧ nc + 0 ≤ 1 ∧ ns + 0 ≤ 6 ∧ f_rc (h a) 4) ∧ am_M G d 33 [.ref a] h (am_back 68 K (am_W G (am_M G d) 68 K) 33 43 lv st nc ns)) := (am_u e_68_43).trans (f_iv_eq (a := a) (G := G) (d := d) (k := 68) (K := K) (pc := 43) (lv := lv) (st := st) (h := h) (nc := nc) (ns := ns) (x := 33) (X := am_W G (am_M G d) 68 K) [] (by decide) rfl)
theorem e_68_46 : pg_code 68 46 = some (.aload_n 2, 1, 0, 0) := by decide +kernel
theorem u_68_46 {a : Nat} {z0 : Option Value} {z1 : Option Value} {lv : am_L} {st : List Value} : am_W G (am_M G d) 68 K 46 (z0 :: z1 :: some (.ref a) :: lv) st h nc ns = (am_W G (am_M G d) 68 K 47 (z0 :: z1 :: some (.ref a) :: lv) (.ref a :: st) h nc ns) := am_u e_68_46
theorem e_68_47 : pg_code 68 47 = some (.aload_n 0, 1, 0, 0) := by decide +kernel
theorem u_68_47 {a : Nat} {lv : am_L} {st : List Value} : am_W G (am_M G d) 68 K 47 (some (.ref a) :: lv) st h nc ns = (am_W G (am_M G d) 68 K 48 (some (.ref a) :: lv) (.ref a :: st) h nc ns) := am_u e_68_47
theorem e_68_48 : pg_code 68 48 = some (.getfield 15, 3, 0, 0) := by decide +kernel
theorem u_68_48 {a : Nat} {lv : am_L} {st : List Value} : am_W G (am_M G d) 68 K 48 lv (.ref a :: st) h nc ns = (f_gf G d 68 K 51 lv st h nc ns (h a) 0 0) := am_u e_68_48
theorem e_68_51 : pg_code 68 51 = some (.getfield 64, 3, 5, 0) := by decide +kernel
theorem u_68_51 {a : Nat} {lv : am_L} {st : List Value} : am_W G (am_M G d) 68 K 51 lv (.ref a :: st) h nc ns = (f_gf G d 68 K 54 lv st h nc ns (h a) 5 0) := am_u e_68_51
theorem e_68_54 : pg_code 68 54 = some (.invokevirtual 184, 3, 71, 2) := by decide +kernel
theorem u_68_54 {a : Nat} {v0 : Value} {lv : am_L} {st : List Value} : am_W G (am_M G d) 68 K 54 lv (v0 :: .ref a :: st) h nc ns = ((am_words st ≤ 8 ∧ nc + 0 ≤ 1 ∧ ns + 0 ≤ 6 ∧ f_rc (h a) 1) ∧ am_M G d 71 [.ref a, v0] h (am_back 68 K (am_W G (am_M G d) 68 K) 71 54 lv st nc ns)) := (am_u e_68_54).trans (f_iv_eq (a := a) (G := G) (d := d) (k := 68) (K := K) (pc := 54) (lv := lv) (st := st) (h := h) (nc := nc) (ns := ns) (x := 71) (X := am_W G (am_M G d) 68 K) [v0] (by decide) rfl)
theorem e_68_57 : pg_code 68 57 = some (.aload_n 2, 1, 0, 0) := by decide +kernel
theorem u_68_57 {a : Nat} {z0 : Option Value} {z1 : Option Value} {lv : am_L} {st : List Value} : am_W G (am_M G d) 68 K 57 (z0 :: z1 :: some (.ref a) :: lv) st h nc ns = (am_W G (am_M G d) 68 K 58 (z0 :: z1 :: some (.ref a) :: lv) (.ref a :: st) h nc ns) := am_u e_68_57
theorem e_68_58 : pg_code 68 58 = some (.aload_n 0, 1, 0, 0) := by decide +kernel
theorem u_68_58 {a : Nat} {lv : am_L} {st : List Value} : am_W G (am_M G d) 68 K 58 (some (.ref a) :: lv) st h nc ns = (am_W G (am_M G d) 68 K 59 (some (.ref a) :: lv) (.ref a :: st) h nc ns) := am_u e_68_58
theorem e_68_59 : pg_code 68 59 = some (.getfield 15, 3, 0, 0) := by decide +kernel
theorem u_68_59 {a : Nat} {lv : am_L} {st : List Value} : am_W G (am_M G d) 68 K 59 lv (.ref a :: st) h nc ns = (f_gf G d 68 K 62 lv st h nc ns (h a) 0 0) := am_u e_68_59
theorem e_68_62 : pg_code 68 62 = some (.getfield 64, 3, 5, 0) := by decide +kernel
theorem u_68_62 {a : Nat} {lv : am_L} {st : List Value} : am_W G (am_M G d) 68 K 62 lv (.ref a :: st) h nc ns = (f_gf G d 68 K 65 lv st h nc ns (h a) 5 0) := am_u e_68_62
theorem e_68_65 : pg_code 68 65 = some (.invokevirtual 167, 3, 63, 2) := by decide +kernel
theorem u_68_65 {a : Nat} {v0 : Value} {lv : am_L} {st : List Value} : am_W G (am_M G d) 68 K 65 lv (v0 :: .ref a :: st) h nc ns = ((am_words st ≤ 8 ∧ nc + 0 ≤ 1 ∧ ns + 0 ≤ 6 ∧ f_rc (h a) 1) ∧ am_M G d 63 [.ref a, v0] h (am_back 68 K (am_W G (am_M G d) 68 K) 63 65 lv st nc ns)) := (am_u e_68_65).trans (f_iv_eq (a := a) (G := G) (d := d) (k := 68) (K := K) (pc := 65) (lv := lv) (st := st) (h := h) (nc := nc) (ns := ns) (x := 63) (X := am_W G (am_M G d) 68 K) [v0] (by decide) rfl)
theorem e_68_68 : pg_code 68 68 = some (.iload_n 3, 1, 0, 0) := by decide +kernel
theorem u_68_68 {a : Int32} {z0 : Option Value} {z1 : Option Value} {z2 : Option Value} {lv : am_L} {st : List Value} : am_W G (am_M G d) 68 K 68 (z0 :: z1 :: z2 :: some (.int a) :: lv) st h nc ns = (am_W G (am_M G d) 68 K 69 (z0 :: z1 :: z2 :: some (.int a) :: lv) (.int a :: st) h nc ns) := am_u e_68_68
theorem e_68_69 : pg_code 68 69 = some (.ireturn, 1, 0, 0) := by decide +kernel
theorem u_68_69 {a : Int32} {lv : am_L} : am_W G (am_M G d) 68 K 69 lv [.int a] h nc ns = (K (.inl (some (.int a))) h) := (am_u e_68_69).trans (f_t ⟨rfl, .int, rfl, rfl⟩)
theorem e_69_0 : pg_code 69 0 = some (.iconst 0, 1, 0, 0) := by decide +kernel
theorem u_69_0 {lv : am_L} {st : List Value} : am_W G (am_M G d) 69 K 0 lv st h nc ns = (am_W G (am_M G d) 69 K 1 lv (.int 0 :: st) h nc ns) := am_u e_69_0
theorem e_69_1 : pg_code 69 1 = some (.istore_n 2, 1, 0, 0) := by decide +kernel
theorem u_69_1 {a : Int32} {lv : am_L} {st : List Value} : am_W G (am_M G d) 69 K 1 lv (.int a :: st) h nc ns = (am_W G (am_M G d) 69 K 2 (am_st1 lv 2 (.int a)) st h nc ns) := (am_u e_69_1).trans (f_t (by decide +kernel))
theorem e_69_2 : pg_code 69 2 = some (.iconst 0, 1, 0, 0) := by decide +kernel
theorem u_69_2 {lv : am_L} {st : List Value} : am_W G (am_M G d) 69 K 2 lv st h nc ns = (am_W G (am_M G d) 69 K 3 lv (.int 0 :: st) h nc ns) := am_u e_69_2
theorem e_69_3 : pg_code 69 3 = some (.istore_n 3, 1, 0, 0) := by decide +kernel
theorem u_69_3 {a : Int32} {lv : am_L} {st : List Value} : am_W G (am_M G d) 69 K 3 lv (.int a :: st) h nc ns = (am_W G (am_M G d) 69 K 4 (am_st1 lv 3 (.int a)) st h nc ns) := (am_u e_69_3).trans (f_t (by decide +kernel))
theorem e_69_4 : pg_code 69 4 = some (.iload_n 3, 1, 0, 0) := by decide +kernel
theorem u_69_4 {a : Int32} {z0 : Option Value} {z1 : Option Value} {z2 : Option Value} {lv : am_L} {st : List Value} : am_W G (am_M G d) 69 K 4 (z0 :: z1 :: z2 :: some (.int a) :: lv) st h nc ns = (am_W G (am_M G d) 69 K 5 (z0 :: z1 :: z2 :: some (.int a) :: lv) (.int a :: st) h nc ns) := am_u e_69_4
theorem e_69_5 : pg_code 69 5 = some (.aload_n 0, 1, 0, 0) := by decide +kernel
theorem u_69_5 {a : Nat} {lv : am_L} {st : List Value} : am_W G (am_M G d) 69 K 5 (some (.ref a) :: lv) st h nc ns = (am_W G (am_M G d) 69 K 6 (some (.ref a) :: lv) (.ref a :: st) h nc ns) := am_u e_69_5
theorem e_69_6 : pg_code 69 6 = some (.getfield 16, 3, 1, 1) := by decide +kernel
theorem u_69_6 {a : Nat} {lv : am_L} {st : List Value} : am_W G (am_M G d) 69 K 6 lv (.ref a :: st) h nc ns = (f_gf G d 69 K 9 lv st h nc ns (h a) 1 1) := am_u e_69_6
theorem e_69_9 : pg_code 69 9 = some (.getfield 27, 3, 2, 3) := by decide +kernel
theorem u_69_9 {a : Nat} {lv : am_L} {st : List Value} : am_W G (am_M G d) 69 K 9 lv (.ref a :: st) h nc ns = (f_gf G d 69 K 12 lv st h nc ns (h a) 2 3) := am_u e_69_9
theorem e_69_12 : pg_code 69 12 = some (.if_icmp .ge 44, 3, 56, 0) := by decide +kernel
theorem u_69_12 {a b : Int32} {lv : am_L} {st : List Value} : am_W G (am_M G d) 69 K 12 lv (.int b :: .int a :: st) h nc ns = (am_br (b ≤ a) (am_W G (am_M G d) 69 K 56 lv st h nc ns) (am_W G (am_M G d) 69 K 15 lv st h nc ns)) := am_u e_69_12
theorem e_69_15 : pg_code 69 15 = some (.aload_n 0, 1, 0, 0) := by decide +kernel
theorem u_69_15 {a : Nat} {lv : am_L} {st : List Value} : am_W G (am_M G d) 69 K 15 (some (.ref a) :: lv) st h nc ns = (am_W G (am_M G d) 69 K 16 (some (.ref a) :: lv) (.ref a :: st) h nc ns) := am_u e_69_15
theorem e_69_16 : pg_code 69 16 = some (.iload_n 3, 1, 0, 0) := by decide +kernel
theorem u_69_16 {a : Int32} {z0 : Option Value} {z1 : Option Value} {z2 : Option Value} {lv : am_L} {st : List Value} : am_W G (am_M G d) 69 K 16 (z0 :: z1 :: z2 :: some (.int a) :: lv) st h nc ns = (am_W G (am_M G d) 69 K 17 (z0 :: z1 :: z2 :: some (.int a) :: lv) (.int a :: st) h nc ns) := am_u e_69_16
theorem e_69_17 : pg_code 69 17 = some (.invokevirtual 31, 3, 70, 2) := by decide +kernel
theorem u_69_17 {a : Nat} {v0 : Value} {lv : am_L} {st : List Value} : am_W G (am_M G d) 69 K 17 lv (v0 :: .ref a :: st) h nc ns = ((am_words st ≤ 8 ∧ nc + 0 ≤ 0 ∧ ns + 0 ≤ 0 ∧ f_rc (h a) 1) ∧ am_M G d 70 [.ref a, v0] h (am_back 69 K (am_W G (am_M G d) 69 K) 70 17 lv st nc ns)) := (am_u e_69_17).trans (f_iv_eq (a := a) (G := G) (d := d) (k := 69) (K := K) (pc := 17) (lv := lv) (st := st) (h := h) (nc := nc) (ns := ns) (x := 70) (X := am_W G (am_M G d) 69 K) [v0] (by decide) rfl)
theorem e_69_20 : pg_code 69 20 = some (.ifCond .eq 30, 3, 50, 0) := by decide +kernel
theorem u_69_20 {a : Int32} {lv : am_L} {st : List Value} : am_W G (am_M G d) 69 K 20 lv (.int a :: st) h nc ns = (am_br (a = 0) (am_W G (am_M G d) 69 K 50 lv st h nc ns) (am_W G (am_M G d) 69 K 23 lv st h nc ns)) := am_u e_69_20
theorem e_69_23 : pg_code 69 23 = some (.aload_n 1, 1, 0, 0) := by decide +kernel
theorem u_69_23 {a : Nat} {z0 : Option Value} {lv : am_L} {st : List Value} : am_W G (am_M G d) 69 K 23 (z0 :: some (.ref a) :: lv) st h nc ns = (am_W G (am_M G d) 69 K 24 (z0 :: some (.ref a) :: lv) (.ref a :: st) h nc ns) := am_u e_69_23
theorem e_69_24 : pg_code 69 24 = some (.iload_n 3, 1, 0, 0) := by decide +kernel
theorem u_69_24 {a : Int32} {z0 : Option Value} {z1 : Option Value} {z2 : Option Value} {lv : am_L} {st : List Value} : am_W G (am_M G d) 69 K 24 (z0 :: z1 :: z2 :: some (.int a) :: lv) st h nc ns = (am_W G (am_M G d) 69 K 25 (z0 :: z1 :: z2 :: some (.int a) :: lv) (.int a :: st) h nc ns) := am_u e_69_24
theorem e_69_25 : pg_code 69 25 = some (.aload_n 0, 1, 0, 0) := by decide +kernel
theorem u_69_25 {a : Nat} {lv : am_L} {st : List Value} : am_W G (am_M G d) 69 K 25 (some (.ref a) :: lv) st h nc ns = (am_W G (am_M G d) 69 K 26 (some (.ref a) :: lv) (.ref a :: st) h nc ns) := am_u e_69_25
theorem e_69_26 : pg_code 69 26 = some (.getfield 10, 3, 1, 0) := by decide +kernel
theorem u_69_26 {a : Nat} {lv : am_L} {st : List Value} : am_W G (am_M G d) 69 K 26 lv (.ref a :: st) h nc ns = (f_gf G d 69 K 29 lv st h nc ns (h a) 1 0) := am_u e_69_26
theorem e_69_29 : pg_code 69 29 = some (.invokevirtual 23, 3, 25, 3) := by decide +kernel
theorem u_69_29 {a : Nat} {v0 v1 : Value} {lv : am_L} {st : List Value} : am_W G (am_M G d) 69 K 29 lv (v1 :: v0 :: .ref a :: st) h nc ns = ((am_words st ≤ 8 ∧ nc + 0 ≤ 0 ∧ ns + 0 ≤ 0 ∧ f_rc (h a) 2) ∧ am_M G d 25 [.ref a, v0, v1] h (am_back 69 K (am_W G (am_M G d) 69 K) 25 29 lv st nc ns)) := (am_u e_69_29).trans (f_iv_eq (a := a) (G := G) (d := d) (k := 69) (K := K) (pc := 29) (lv := lv) (st := st) (h := h) (nc := nc) (ns := ns) (x := 25) (X := am_W G (am_M G d) 69 K) [v0, v1] (by decide) rfl)
theorem e_69_32 : pg_code 69 32 = some (.ifCond .ne 18, 3, 50, 0) := by decide +kernel
theorem u_69_32 {a : Int32} {lv : am_L} {st : List Value} : am_W G (am_M G d) 69 K 32 lv (.int a :: st) h nc ns = (am_br (¬ a = 0) (am_W G (am_M G d) 69 K 50 lv st h nc ns) (am_W G (am_M G d) 69 K 35 lv st h nc ns)) := am_u e_69_32
theorem e_69_35 : pg_code 69 35 = some (.aload_n 1, 1, 0, 0) := by decide +kernel
theorem u_69_35 {a : Nat} {z0 : Option Value} {lv : am_L} {st : List Value} : am_W G (am_M G d) 69 K 35 (z0 :: some (.ref a) :: lv) st h nc ns = (am_W G (am_M G d) 69 K 36 (z0 :: some (.ref a) :: lv) (.ref a :: st) h nc ns) := am_u e_69_35
theorem e_69_36 : pg_code 69 36 = some (.iload_n 3, 1, 0, 0) := by decide +kernel
theorem u_69_36 {a : Int32} {z0 : Option Value} {z1 : Option Value} {z2 : Option Value} {lv : am_L} {st : List Value} : am_W G (am_M G d) 69 K 36 (z0 :: z1 :: z2 :: some (.int a) :: lv) st h nc ns = (am_W G (am_M G d) 69 K 37 (z0 :: z1 :: z2 :: some (.int a) :: lv) (.int a :: st) h nc ns) := am_u e_69_36
theorem e_69_37 : pg_code 69 37 = some (.aload_n 0, 1, 0, 0) := by decide +kernel
theorem u_69_37 {a : Nat} {lv : am_L} {st : List Value} : am_W G (am_M G d) 69 K 37 (some (.ref a) :: lv) st h nc ns = (am_W G (am_M G d) 69 K 38 (some (.ref a) :: lv) (.ref a :: st) h nc ns) := am_u e_69_37
theorem e_69_38 : pg_code 69 38 = some (.getfield 16, 3, 1, 1) := by decide +kernel
theorem u_69_38 {a : Nat} {lv : am_L} {st : List Value} : am_W G (am_M G d) 69 K 38 lv (.ref a :: st) h nc ns = (f_gf G d 69 K 41 lv st h nc ns (h a) 1 1) := am_u e_69_38
theorem e_69_41 : pg_code 69 41 = some (.invokevirtual 23, 3, 25, 3) := by decide +kernel
theorem u_69_41 {a : Nat} {v0 v1 : Value} {lv : am_L} {st : List Value} : am_W G (am_M G d) 69 K 41 lv (v1 :: v0 :: .ref a :: st) h nc ns = ((am_words st ≤ 8 ∧ nc + 0 ≤ 0 ∧ ns + 0 ≤ 0 ∧ f_rc (h a) 2) ∧ am_M G d 25 [.ref a, v0, v1] h (am_back 69 K (am_W G (am_M G d) 69 K) 25 41 lv st nc ns)) := (am_u e_69_41).trans (f_iv_eq (a := a) (G := G) (d := d) (k := 69) (K := K) (pc := 41) (lv := lv) (st := st) (h := h) (nc := nc) (ns := ns) (x := 25) (X := am_W G (am_M G d) 69 K) [v0, v1] (by decide) rfl)
theorem e_69_44 : pg_code 69 44 = some (.ifCond .ne 6, 3, 50, 0) := by decide +kernel
theorem u_69_44 {a : Int32} {lv : am_L} {st : List Value} : am_W G (am_M G d) 69 K 44 lv (.int a :: st) h nc ns = (am_br (¬ a = 0) (am_W G (am_M G d) 69 K 50 lv st h nc ns) (am_W G (am_M G d) 69 K 47 lv st h nc ns)) := am_u e_69_44
theorem e_69_47 : pg_code 69 47 = some (.iinc 2 1, 3, 0, 0) := by decide +kernel
theorem u_69_47 {a : Int32} {z0 : Option Value} {z1 : Option Value} {lv : am_L} {st : List Value} : am_W G (am_M G d) 69 K 47 (z0 :: z1 :: some (.int a) :: lv) st h nc ns = (am_W G (am_M G d) 69 K 50 (am_st1 (z0 :: z1 :: some (.int a) :: lv) 2 (.int (a + Int32.ofInt 1))) st h nc ns) := (am_u e_69_47).trans (f_t (by decide +kernel))
theorem e_69_50 : pg_code 69 50 = some (.iinc 3 1, 3, 0, 0) := by decide +kernel
theorem u_69_50 {a : Int32} {z0 : Option Value} {z1 : Option Value} {z2 : Option Value} {lv : am_L} {st : List Value} : am_W G (am_M G d) 69 K 50 (z0 :: z1 :: z2 :: some (.int a) :: lv) st h nc ns = (am_W G (am_M G d) 69 K 53 (am_st1 (z0 :: z1 :: z2 :: some (.int a) :: lv) 3 (.int (a + Int32.ofInt 1))) st h nc ns) := (am_u e_69_50).trans (f_t (by decide +kernel))
theorem e_69_53 : pg_code 69 53 = some (.goto (-49), 3, 4, 0) := by decide +kernel
theorem u_69_53 {lv : am_L} {st : List Value} : am_W G (am_M G d) 69 K 53 lv st h nc ns = (am_W G (am_M G d) 69 K 4 lv st h nc ns) := am_u e_69_53
theorem e_69_56 : pg_code 69 56 = some (.iload_n 2, 1, 0, 0) := by decide +kernel
theorem u_69_56 {a : Int32} {z0 : Option Value} {z1 : Option Value} {lv : am_L} {st : List Value} : am_W G (am_M G d) 69 K 56 (z0 :: z1 :: some (.int a) :: lv) st h nc ns = (am_W G (am_M G d) 69 K 57 (z0 :: z1 :: some (.int a) :: lv) (.int a :: st) h nc ns) := am_u e_69_56
theorem e_69_57 : pg_code 69 57 = some (.ireturn, 1, 0, 0) := by decide +kernel
theorem u_69_57 {a : Int32} {lv : am_L} : am_W G (am_M G d) 69 K 57 lv [.int a] h nc ns = (K (.inl (some (.int a))) h) := (am_u e_69_57).trans (f_t ⟨rfl, .int, rfl, rfl⟩)
theorem e_70_0 : pg_code 70 0 = some (.aload_n 0, 1, 0, 0) := by decide +kernel
theorem u_70_0 {a : Nat} {lv : am_L} {st : List Value} : am_W G (am_M G d) 70 K 0 (some (.ref a) :: lv) st h nc ns = (am_W G (am_M G d) 70 K 1 (some (.ref a) :: lv) (.ref a :: st) h nc ns) := am_u e_70_0
theorem e_70_1 : pg_code 70 1 = some (.getfield 16, 3, 1, 1) := by decide +kernel
theorem u_70_1 {a : Nat} {lv : am_L} {st : List Value} : am_W G (am_M G d) 70 K 1 lv (.ref a :: st) h nc ns = (f_gf G d 70 K 4 lv st h nc ns (h a) 1 1) := am_u e_70_1
theorem e_70_4 : pg_code 70 4 = some (.iload_n 1, 1, 0, 0) := by decide +kernel
theorem u_70_4 {a : Int32} {z0 : Option Value} {lv : am_L} {st : List Value} : am_W G (am_M G d) 70 K 4 (z0 :: some (.int a) :: lv) st h nc ns = (am_W G (am_M G d) 70 K 5 (z0 :: some (.int a) :: lv) (.int a :: st) h nc ns) := am_u e_70_4
theorem e_70_5 : pg_code 70 5 = some (.aload_n 0, 1, 0, 0) := by decide +kernel
theorem u_70_5 {a : Nat} {lv : am_L} {st : List Value} : am_W G (am_M G d) 70 K 5 (some (.ref a) :: lv) st h nc ns = (am_W G (am_M G d) 70 K 6 (some (.ref a) :: lv) (.ref a :: st) h nc ns) := am_u e_70_5
theorem e_70_6 : pg_code 70 6 = some (.getfield 10, 3, 1, 0) := by decide +kernel
theorem u_70_6 {a : Nat} {lv : am_L} {st : List Value} : am_W G (am_M G d) 70 K 6 lv (.ref a :: st) h nc ns = (f_gf G d 70 K 9 lv st h nc ns (h a) 1 0) := am_u e_70_6
theorem e_70_9 : pg_code 70 9 = some (.invokevirtual 23, 3, 25, 3) := by decide +kernel
theorem u_70_9 {a : Nat} {v0 v1 : Value} {lv : am_L} {st : List Value} : am_W G (am_M G d) 70 K 9 lv (v1 :: v0 :: .ref a :: st) h nc ns = ((am_words st ≤ 8 ∧ nc + 0 ≤ 0 ∧ ns + 0 ≤ 0 ∧ f_rc (h a) 2) ∧ am_M G d 25 [.ref a, v0, v1] h (am_back 70 K (am_W G (am_M G d) 70 K) 25 9 lv st nc ns)) := (am_u e_70_9).trans (f_iv_eq (a := a) (G := G) (d := d) (k := 70) (K := K) (pc := 9) (lv := lv) (st := st) (h := h) (nc := nc) (ns := ns) (x := 25) (X := am_W G (am_M G d) 70 K) [v0, v1] (by decide) rfl)
theorem e_70_12 : pg_code 70 12 = some (.ifCond .ne 7, 3, 19, 0) := by decide +kernel
theorem u_70_12 {a : Int32} {lv : am_L} {st : List Value} : am_W G (am_M G d) 70 K 12 lv (.int a :: st) h nc ns = (am_br (¬ a = 0) (am_W G (am_M G d) 70 K 19 lv st h nc ns) (am_W G (am_M G d) 70 K 15 lv st h nc ns)) := am_u e_70_12
theorem e_70_15 : pg_code 70 15 = some (.iconst 1, 1, 0, 0) := by decide +kernel
theorem u_70_15 {lv : am_L} {st : List Value} : am_W G (am_M G d) 70 K 15 lv st h nc ns = (am_W G (am_M G d) 70 K 16 lv (.int 1 :: st) h nc ns) := am_u e_70_15
theorem e_70_16 : pg_code 70 16 = some (.goto 4, 3, 20, 0) := by decide +kernel
theorem u_70_16 {lv : am_L} {st : List Value} : am_W G (am_M G d) 70 K 16 lv st h nc ns = (am_W G (am_M G d) 70 K 20 lv st h nc ns) := am_u e_70_16
theorem e_70_19 : pg_code 70 19 = some (.iconst 0, 1, 0, 0) := by decide +kernel
theorem u_70_19 {lv : am_L} {st : List Value} : am_W G (am_M G d) 70 K 19 lv st h nc ns = (am_W G (am_M G d) 70 K 20 lv (.int 0 :: st) h nc ns) := am_u e_70_19
theorem e_70_20 : pg_code 70 20 = some (.ireturn, 1, 0, 0) := by decide +kernel
theorem u_70_20 {a : Int32} {lv : am_L} : am_W G (am_M G d) 70 K 20 lv [.int a] h nc ns = (narrow .boolean (.int a) = .int a ∧ K (.inl (some (.int a))) h) := (am_u e_70_20).trans (f_z_eq rfl)
theorem e_71_0 : pg_code 71 0 = some (.iconst 0, 1, 0, 0) := by decide +kernel
theorem u_71_0 {lv : am_L} {st : List Value} : am_W G (am_M G d) 71 K 0 lv st h nc ns = (am_W G (am_M G d) 71 K 1 lv (.int 0 :: st) h nc ns) := am_u e_71_0
theorem e_71_1 : pg_code 71 1 = some (.istore_n 2, 1, 0, 0) := by decide +kernel
theorem u_71_1 {a : Int32} {lv : am_L} {st : List Value} : am_W G (am_M G d) 71 K 1 lv (.int a :: st) h nc ns = (am_W G (am_M G d) 71 K 2 (am_st1 lv 2 (.int a)) st h nc ns) := (am_u e_71_1).trans (f_t (by decide +kernel))
theorem e_71_2 : pg_code 71 2 = some (.iload_n 2, 1, 0, 0) := by decide +kernel
theorem u_71_2 {a : Int32} {z0 : Option Value} {z1 : Option Value} {lv : am_L} {st : List Value} : am_W G (am_M G d) 71 K 2 (z0 :: z1 :: some (.int a) :: lv) st h nc ns = (am_W G (am_M G d) 71 K 3 (z0 :: z1 :: some (.int a) :: lv) (.int a :: st) h nc ns) := am_u e_71_2
theorem e_71_3 : pg_code 71 3 = some (.aload_n 0, 1, 0, 0) := by decide +kernel
theorem u_71_3 {a : Nat} {lv : am_L} {st : List Value} : am_W G (am_M G d) 71 K 3 (some (.ref a) :: lv) st h nc ns = (am_W G (am_M G d) 71 K 4 (some (.ref a) :: lv) (.ref a :: st) h nc ns) := am_u e_71_3
theorem e_71_4 : pg_code 71 4 = some (.getfield 16, 3, 1, 1) := by decide +kernel
theorem u_71_4 {a : Nat} {lv : am_L} {st : List Value} : am_W G (am_M G d) 71 K 4 lv (.ref a :: st) h nc ns = (f_gf G d 71 K 7 lv st h nc ns (h a) 1 1) := am_u e_71_4
theorem e_71_7 : pg_code 71 7 = some (.getfield 27, 3, 2, 3) := by decide +kernel
theorem u_71_7 {a : Nat} {lv : am_L} {st : List Value} : am_W G (am_M G d) 71 K 7 lv (.ref a :: st) h nc ns = (f_gf G d 71 K 10 lv st h nc ns (h a) 2 3) := am_u e_71_7
theorem e_71_10 : pg_code 71 10 = some (.if_icmp .ge 26, 3, 36, 0) := by decide +kernel
theorem u_71_10 {a b : Int32} {lv : am_L} {st : List Value} : am_W G (am_M G d) 71 K 10 lv (.int b :: .int a :: st) h nc ns = (am_br (b ≤ a) (am_W G (am_M G d) 71 K 36 lv st h nc ns) (am_W G (am_M G d) 71 K 13 lv st h nc ns)) := am_u e_71_10
theorem e_71_13 : pg_code 71 13 = some (.aload_n 0, 1, 0, 0) := by decide +kernel
theorem u_71_13 {a : Nat} {lv : am_L} {st : List Value} : am_W G (am_M G d) 71 K 13 (some (.ref a) :: lv) st h nc ns = (am_W G (am_M G d) 71 K 14 (some (.ref a) :: lv) (.ref a :: st) h nc ns) := am_u e_71_13
theorem e_71_14 : pg_code 71 14 = some (.iload_n 2, 1, 0, 0) := by decide +kernel
theorem u_71_14 {a : Int32} {z0 : Option Value} {z1 : Option Value} {lv : am_L} {st : List Value} : am_W G (am_M G d) 71 K 14 (z0 :: z1 :: some (.int a) :: lv) st h nc ns = (am_W G (am_M G d) 71 K 15 (z0 :: z1 :: some (.int a) :: lv) (.int a :: st) h nc ns) := am_u e_71_14
theorem e_71_15 : pg_code 71 15 = some (.invokevirtual 31, 3, 70, 2) := by decide +kernel
theorem u_71_15 {a : Nat} {v0 : Value} {lv : am_L} {st : List Value} : am_W G (am_M G d) 71 K 15 lv (v0 :: .ref a :: st) h nc ns = ((am_words st ≤ 8 ∧ nc + 0 ≤ 0 ∧ ns + 0 ≤ 0 ∧ f_rc (h a) 1) ∧ am_M G d 70 [.ref a, v0] h (am_back 71 K (am_W G (am_M G d) 71 K) 70 15 lv st nc ns)) := (am_u e_71_15).trans (f_iv_eq (a := a) (G := G) (d := d) (k := 71) (K := K) (pc := 15) (lv := lv) (st := st) (h := h) (nc := nc) (ns := ns) (x := 70) (X := am_W G (am_M G d) 71 K) [v0] (by decide) rfl)
theorem e_71_18 : pg_code 71 18 = some (.ifCond .eq 12, 3, 30, 0) := by decide +kernel
theorem u_71_18 {a : Int32} {lv : am_L} {st : List Value} : am_W G (am_M G d) 71 K 18 lv (.int a :: st) h nc ns = (am_br (a = 0) (am_W G (am_M G d) 71 K 30 lv st h nc ns) (am_W G (am_M G d) 71 K 21 lv st h nc ns)) := am_u e_71_18
theorem e_71_21 : pg_code 71 21 = some (.aload_n 1, 1, 0, 0) := by decide +kernel
theorem u_71_21 {a : Nat} {z0 : Option Value} {lv : am_L} {st : List Value} : am_W G (am_M G d) 71 K 21 (z0 :: some (.ref a) :: lv) st h nc ns = (am_W G (am_M G d) 71 K 22 (z0 :: some (.ref a) :: lv) (.ref a :: st) h nc ns) := am_u e_71_21
theorem e_71_22 : pg_code 71 22 = some (.iload_n 2, 1, 0, 0) := by decide +kernel
theorem u_71_22 {a : Int32} {z0 : Option Value} {z1 : Option Value} {lv : am_L} {st : List Value} : am_W G (am_M G d) 71 K 22 (z0 :: z1 :: some (.int a) :: lv) st h nc ns = (am_W G (am_M G d) 71 K 23 (z0 :: z1 :: some (.int a) :: lv) (.int a :: st) h nc ns) := am_u e_71_22
theorem e_71_23 : pg_code 71 23 = some (.aload_n 0, 1, 0, 0) := by decide +kernel
theorem u_71_23 {a : Nat} {lv : am_L} {st : List Value} : am_W G (am_M G d) 71 K 23 (some (.ref a) :: lv) st h nc ns = (am_W G (am_M G d) 71 K 24 (some (.ref a) :: lv) (.ref a :: st) h nc ns) := am_u e_71_23
theorem e_71_24 : pg_code 71 24 = some (.getfield 16, 3, 1, 1) := by decide +kernel
theorem u_71_24 {a : Nat} {lv : am_L} {st : List Value} : am_W G (am_M G d) 71 K 24 lv (.ref a :: st) h nc ns = (f_gf G d 71 K 27 lv st h nc ns (h a) 1 1) := am_u e_71_24
theorem e_71_27 : pg_code 71 27 = some (.invokevirtual 35, 3, 28, 3) := by decide +kernel
theorem u_71_27 {a : Nat} {v0 v1 : Value} {lv : am_L} {st : List Value} : am_W G (am_M G d) 71 K 27 lv (v1 :: v0 :: .ref a :: st) h nc ns = ((am_words st ≤ 8 ∧ nc + 0 ≤ 0 ∧ ns + 0 ≤ 0 ∧ f_rc (h a) 2) ∧ am_M G d 28 [.ref a, v0, v1] h (am_back 71 K (am_W G (am_M G d) 71 K) 28 27 lv st nc ns)) := (am_u e_71_27).trans (f_iv_eq (a := a) (G := G) (d := d) (k := 71) (K := K) (pc := 27) (lv := lv) (st := st) (h := h) (nc := nc) (ns := ns) (x := 28) (X := am_W G (am_M G d) 71 K) [v0, v1] (by decide) rfl)
theorem e_71_30 : pg_code 71 30 = some (.iinc 2 1, 3, 0, 0) := by decide +kernel
theorem u_71_30 {a : Int32} {z0 : Option Value} {z1 : Option Value} {lv : am_L} {st : List Value} : am_W G (am_M G d) 71 K 30 (z0 :: z1 :: some (.int a) :: lv) st h nc ns = (am_W G (am_M G d) 71 K 33 (am_st1 (z0 :: z1 :: some (.int a) :: lv) 2 (.int (a + Int32.ofInt 1))) st h nc ns) := (am_u e_71_30).trans (f_t (by decide +kernel))
theorem e_71_33 : pg_code 71 33 = some (.goto (-31), 3, 2, 0) := by decide +kernel
theorem u_71_33 {lv : am_L} {st : List Value} : am_W G (am_M G d) 71 K 33 lv st h nc ns = (am_W G (am_M G d) 71 K 2 lv st h nc ns) := am_u e_71_33
theorem e_71_36 : pg_code 71 36 = some (.return_, 1, 0, 0) := by decide +kernel
theorem u_71_36 {lv : am_L} : am_W G (am_M G d) 71 K 36 lv [] h nc ns = (K (.inl none) h) := (am_u e_71_36).trans (f_t ⟨rfl, rfl⟩)
theorem e_72_0 : pg_code 72 0 = some (.aload_n 2, 1, 0, 0) := by decide +kernel
theorem u_72_0 {a : Nat} {z0 : Option Value} {z1 : Option Value} {lv : am_L} {st : List Value} : am_W G (am_M G d) 72 K 0 (z0 :: z1 :: some (.ref a) :: lv) st h nc ns = (am_W G (am_M G d) 72 K 1 (z0 :: z1 :: some (.ref a) :: lv) (.ref a :: st) h nc ns) := am_u e_72_0
theorem e_72_1 : pg_code 72 1 = some (.iconst 0, 1, 0, 0) := by decide +kernel
theorem u_72_1 {lv : am_L} {st : List Value} : am_W G (am_M G d) 72 K 1 lv st h nc ns = (am_W G (am_M G d) 72 K 2 lv (.int 0 :: st) h nc ns) := am_u e_72_1
theorem e_72_2 : pg_code 72 2 = some (.aload_n 0, 1, 0, 0) := by decide +kernel
theorem u_72_2 {a : Nat} {lv : am_L} {st : List Value} : am_W G (am_M G d) 72 K 2 (some (.ref a) :: lv) st h nc ns = (am_W G (am_M G d) 72 K 3 (some (.ref a) :: lv) (.ref a :: st) h nc ns) := am_u e_72_2
theorem e_72_3 : pg_code 72 3 = some (.iload_n 1, 1, 0, 0) := by decide +kernel
theorem u_72_3 {a : Int32} {z0 : Option Value} {lv : am_L} {st : List Value} : am_W G (am_M G d) 72 K 3 (z0 :: some (.int a) :: lv) st h nc ns = (am_W G (am_M G d) 72 K 4 (z0 :: some (.int a) :: lv) (.int a :: st) h nc ns) := am_u e_72_3
theorem e_72_4 : pg_code 72 4 = some (.invokevirtual 63, 3, 73, 2) := by decide +kernel
theorem u_72_4 {a : Nat} {v0 : Value} {lv : am_L} {st : List Value} : am_W G (am_M G d) 72 K 4 lv (v0 :: .ref a :: st) h nc ns = ((am_words st ≤ 8 ∧ nc + 1 ≤ 1 ∧ ns + 6 ≤ 6 ∧ f_rc (h a) 0) ∧ am_M G d 73 [.ref a, v0] h (am_back 72 K (am_W G (am_M G d) 72 K) 73 4 lv st nc ns)) := (am_u e_72_4).trans (f_iv_eq (a := a) (G := G) (d := d) (k := 72) (K := K) (pc := 4) (lv := lv) (st := st) (h := h) (nc := nc) (ns := ns) (x := 73) (X := am_W G (am_M G d) 72 K) [v0] (by decide) rfl)
theorem e_72_7 : pg_code 72 7 = some (.i2l, 1, 0, 0) := by decide +kernel
theorem u_72_7 {a : Int32} {lv : am_L} {st : List Value} : am_W G (am_M G d) 72 K 7 lv (.int a :: st) h nc ns = (am_W G (am_M G d) 72 K 8 lv (.long a.toInt64 :: st) h nc ns) := am_u e_72_7
theorem e_72_8 : pg_code 72 8 = some (.lastore, 1, 0, 0) := by decide +kernel
theorem u_72_8 {a : Nat} {j : Int32} {b : Int64} {lv : am_L} {st : List Value} : am_W G (am_M G d) 72 K 8 lv (.long b :: .int j :: .ref a :: st) h nc ns = (f_ls G d 72 K 9 lv st h nc ns (h a) a j b) := am_u e_72_8
theorem e_72_9 : pg_code 72 9 = some (.goto 6, 3, 15, 0) := by decide +kernel
theorem u_72_9 {lv : am_L} {st : List Value} : am_W G (am_M G d) 72 K 9 lv st h nc ns = (am_W G (am_M G d) 72 K 15 lv st h nc ns) := am_u e_72_9
theorem e_72_12 : pg_code 72 12 = some (.astore_n 3, 1, 0, 0) := by decide +kernel
theorem u_72_12 {a : Nat} {lv : am_L} {st : List Value} : am_W G (am_M G d) 72 K 12 lv (.ref a :: st) h nc ns = (am_W G (am_M G d) 72 K 13 (am_st1 lv 3 (.ref a)) st h nc ns) := (am_u e_72_12).trans (f_t (by decide +kernel))
theorem e_72_13 : pg_code 72 13 = some (.iconst 1, 1, 0, 0) := by decide +kernel
theorem u_72_13 {lv : am_L} {st : List Value} : am_W G (am_M G d) 72 K 13 lv st h nc ns = (am_W G (am_M G d) 72 K 14 lv (.int 1 :: st) h nc ns) := am_u e_72_13
theorem e_72_14 : pg_code 72 14 = some (.ireturn, 1, 0, 0) := by decide +kernel
theorem u_72_14 {a : Int32} {lv : am_L} : am_W G (am_M G d) 72 K 14 lv [.int a] h nc ns = (K (.inl (some (.int a))) h) := (am_u e_72_14).trans (f_t ⟨rfl, .int, rfl, rfl⟩)
theorem e_72_15 : pg_code 72 15 = some (.iconst 0, 1, 0, 0) := by decide +kernel
theorem u_72_15 {lv : am_L} {st : List Value} : am_W G (am_M G d) 72 K 15 lv st h nc ns = (am_W G (am_M G d) 72 K 16 lv (.int 0 :: st) h nc ns) := am_u e_72_15
theorem e_72_16 : pg_code 72 16 = some (.ireturn, 1, 0, 0) := by decide +kernel
theorem u_72_16 {a : Int32} {lv : am_L} : am_W G (am_M G d) 72 K 16 lv [.int a] h nc ns = (K (.inl (some (.int a))) h) := (am_u e_72_16).trans (f_t ⟨rfl, .int, rfl, rfl⟩)
theorem e_73_0 : pg_code 73 0 = some (.aload_n 0, 1, 0, 0) := by decide +kernel
theorem u_73_0 {a : Nat} {lv : am_L} {st : List Value} : am_W G (am_M G d) 73 K 0 (some (.ref a) :: lv) st h nc ns = (am_W G (am_M G d) 73 K 1 (some (.ref a) :: lv) (.ref a :: st) h nc ns) := am_u e_73_0
theorem e_73_1 : pg_code 73 1 = some (.iload_n 1, 1, 0, 0) := by decide +kernel
theorem u_73_1 {a : Int32} {z0 : Option Value} {lv : am_L} {st : List Value} : am_W G (am_M G d) 73 K 1 (z0 :: some (.int a) :: lv) st h nc ns = (am_W G (am_M G d) 73 K 2 (z0 :: some (.int a) :: lv) (.int a :: st) h nc ns) := am_u e_73_1
theorem e_73_2 : pg_code 73 2 = some (.invokevirtual 170, 3, 66, 2) := by decide +kernel
theorem u_73_2 {a : Nat} {v0 : Value} {lv : am_L} {st : List Value} : am_W G (am_M G d) 73 K 2 lv (v0 :: .ref a :: st) h nc ns = ((am_words st ≤ 8 ∧ nc + 1 ≤ 1 ∧ ns + 6 ≤ 6 ∧ f_rc (h a) 0) ∧ am_M G d 66 [.ref a, v0] h (am_back 73 K (am_W G (am_M G d) 73 K) 66 2 lv st nc ns)) := (am_u e_73_2).trans (f_iv_eq (a := a) (G := G) (d := d) (k := 73) (K := K) (pc := 2) (lv := lv) (st := st) (h := h) (nc := nc) (ns := ns) (x := 66) (X := am_W G (am_M G d) 73 K) [v0] (by decide) rfl)
theorem e_73_5 : pg_code 73 5 = some (.aload_n 0, 1, 0, 0) := by decide +kernel
theorem u_73_5 {a : Nat} {lv : am_L} {st : List Value} : am_W G (am_M G d) 73 K 5 (some (.ref a) :: lv) st h nc ns = (am_W G (am_M G d) 73 K 6 (some (.ref a) :: lv) (.ref a :: st) h nc ns) := am_u e_73_5
theorem e_73_6 : pg_code 73 6 = some (.getfield 37, 3, 0, 3) := by decide +kernel
theorem u_73_6 {a : Nat} {lv : am_L} {st : List Value} : am_W G (am_M G d) 73 K 6 lv (.ref a :: st) h nc ns = (f_gf G d 73 K 9 lv st h nc ns (h a) 0 3) := am_u e_73_6
theorem e_73_9 : pg_code 73 9 = some (.iload_n 1, 1, 0, 0) := by decide +kernel
theorem u_73_9 {a : Int32} {z0 : Option Value} {lv : am_L} {st : List Value} : am_W G (am_M G d) 73 K 9 (z0 :: some (.int a) :: lv) st h nc ns = (am_W G (am_M G d) 73 K 10 (z0 :: some (.int a) :: lv) (.int a :: st) h nc ns) := am_u e_73_9
theorem e_73_10 : pg_code 73 10 = some (.aaload, 1, 0, 0) := by decide +kernel
theorem u_73_10 {a : Nat} {j : Int32} {lv : am_L} {st : List Value} : am_W G (am_M G d) 73 K 10 lv (.int j :: .ref a :: st) h nc ns = (f_aa G d 73 K 11 lv st h nc ns (h a) j) := am_u e_73_10
theorem e_73_11 : pg_code 73 11 = some (.invokevirtual 187, 3, 74, 1) := by decide +kernel
theorem u_73_11 {a : Nat} {lv : am_L} {st : List Value} : am_W G (am_M G d) 73 K 11 lv (.ref a :: st) h nc ns = ((am_words st ≤ 8 ∧ nc + 0 ≤ 1 ∧ ns + 0 ≤ 6 ∧ f_rc (h a) 1) ∧ am_M G d 74 [.ref a] h (am_back 73 K (am_W G (am_M G d) 73 K) 74 11 lv st nc ns)) := (am_u e_73_11).trans (f_iv_eq (a := a) (G := G) (d := d) (k := 73) (K := K) (pc := 11) (lv := lv) (st := st) (h := h) (nc := nc) (ns := ns) (x := 74) (X := am_W G (am_M G d) 73 K) [] (by decide) rfl)
theorem e_73_14 : pg_code 73 14 = some (.ireturn, 1, 0, 0) := by decide +kernel
theorem u_73_14 {a : Int32} {lv : am_L} : am_W G (am_M G d) 73 K 14 lv [.int a] h nc ns = (K (.inl (some (.int a))) h) := (am_u e_73_14).trans (f_t ⟨rfl, .int, rfl, rfl⟩)
theorem e_74_0 : pg_code 74 0 = some (.iconst 0, 1, 0, 0) := by decide +kernel
theorem u_74_0 {lv : am_L} {st : List Value} : am_W G (am_M G d) 74 K 0 lv st h nc ns = (am_W G (am_M G d) 74 K 1 lv (.int 0 :: st) h nc ns) := am_u e_74_0
theorem e_74_1 : pg_code 74 1 = some (.istore_n 1, 1, 0, 0) := by decide +kernel
theorem u_74_1 {a : Int32} {lv : am_L} {st : List Value} : am_W G (am_M G d) 74 K 1 lv (.int a :: st) h nc ns = (am_W G (am_M G d) 74 K 2 (am_st1 lv 1 (.int a)) st h nc ns) := (am_u e_74_1).trans (f_t (by decide +kernel))
theorem e_74_2 : pg_code 74 2 = some (.iconst 0, 1, 0, 0) := by decide +kernel
theorem u_74_2 {lv : am_L} {st : List Value} : am_W G (am_M G d) 74 K 2 lv st h nc ns = (am_W G (am_M G d) 74 K 3 lv (.int 0 :: st) h nc ns) := am_u e_74_2
theorem e_74_3 : pg_code 74 3 = some (.istore_n 2, 1, 0, 0) := by decide +kernel
theorem u_74_3 {a : Int32} {lv : am_L} {st : List Value} : am_W G (am_M G d) 74 K 3 lv (.int a :: st) h nc ns = (am_W G (am_M G d) 74 K 4 (am_st1 lv 2 (.int a)) st h nc ns) := (am_u e_74_3).trans (f_t (by decide +kernel))
theorem e_74_4 : pg_code 74 4 = some (.iload_n 2, 1, 0, 0) := by decide +kernel
theorem u_74_4 {a : Int32} {z0 : Option Value} {z1 : Option Value} {lv : am_L} {st : List Value} : am_W G (am_M G d) 74 K 4 (z0 :: z1 :: some (.int a) :: lv) st h nc ns = (am_W G (am_M G d) 74 K 5 (z0 :: z1 :: some (.int a) :: lv) (.int a :: st) h nc ns) := am_u e_74_4
theorem e_74_5 : pg_code 74 5 = some (.aload_n 0, 1, 0, 0) := by decide +kernel
theorem u_74_5 {a : Nat} {lv : am_L} {st : List Value} : am_W G (am_M G d) 74 K 5 (some (.ref a) :: lv) st h nc ns = (am_W G (am_M G d) 74 K 6 (some (.ref a) :: lv) (.ref a :: st) h nc ns) := am_u e_74_5
theorem e_74_6 : pg_code 74 6 = some (.getfield 16, 3, 1, 1) := by decide +kernel
theorem u_74_6 {a : Nat} {lv : am_L} {st : List Value} : am_W G (am_M G d) 74 K 6 lv (.ref a :: st) h nc ns = (f_gf G d 74 K 9 lv st h nc ns (h a) 1 1) := am_u e_74_6
theorem e_74_9 : pg_code 74 9 = some (.getfield 27, 3, 2, 3) := by decide +kernel
theorem u_74_9 {a : Nat} {lv : am_L} {st : List Value} : am_W G (am_M G d) 74 K 9 lv (.ref a :: st) h nc ns = (f_gf G d 74 K 12 lv st h nc ns (h a) 2 3) := am_u e_74_9
theorem e_74_12 : pg_code 74 12 = some (.if_icmp .ge 20, 3, 32, 0) := by decide +kernel
theorem u_74_12 {a b : Int32} {lv : am_L} {st : List Value} : am_W G (am_M G d) 74 K 12 lv (.int b :: .int a :: st) h nc ns = (am_br (b ≤ a) (am_W G (am_M G d) 74 K 32 lv st h nc ns) (am_W G (am_M G d) 74 K 15 lv st h nc ns)) := am_u e_74_12
theorem e_74_15 : pg_code 74 15 = some (.aload_n 0, 1, 0, 0) := by decide +kernel
theorem u_74_15 {a : Nat} {lv : am_L} {st : List Value} : am_W G (am_M G d) 74 K 15 (some (.ref a) :: lv) st h nc ns = (am_W G (am_M G d) 74 K 16 (some (.ref a) :: lv) (.ref a :: st) h nc ns) := am_u e_74_15
theorem e_74_16 : pg_code 74 16 = some (.iload_n 2, 1, 0, 0) := by decide +kernel
theorem u_74_16 {a : Int32} {z0 : Option Value} {z1 : Option Value} {lv : am_L} {st : List Value} : am_W G (am_M G d) 74 K 16 (z0 :: z1 :: some (.int a) :: lv) st h nc ns = (am_W G (am_M G d) 74 K 17 (z0 :: z1 :: some (.int a) :: lv) (.int a :: st) h nc ns) := am_u e_74_16
theorem e_74_17 : pg_code 74 17 = some (.invokevirtual 31, 3, 70, 2) := by decide +kernel
theorem u_74_17 {a : Nat} {v0 : Value} {lv : am_L} {st : List Value} : am_W G (am_M G d) 74 K 17 lv (v0 :: .ref a :: st) h nc ns = ((am_words st ≤ 8 ∧ nc + 0 ≤ 0 ∧ ns + 0 ≤ 0 ∧ f_rc (h a) 1) ∧ am_M G d 70 [.ref a, v0] h (am_back 74 K (am_W G (am_M G d) 74 K) 70 17 lv st nc ns)) := (am_u e_74_17).trans (f_iv_eq (a := a) (G := G) (d := d) (k := 74) (K := K) (pc := 17) (lv := lv) (st := st) (h := h) (nc := nc) (ns := ns) (x := 70) (X := am_W G (am_M G d) 74 K) [v0] (by decide) rfl)
theorem e_74_20 : pg_code 74 20 = some (.ifCond .eq 6, 3, 26, 0) := by decide +kernel
theorem u_74_20 {a : Int32} {lv : am_L} {st : List Value} : am_W G (am_M G d) 74 K 20 lv (.int a :: st) h nc ns = (am_br (a = 0) (am_W G (am_M G d) 74 K 26 lv st h nc ns) (am_W G (am_M G d) 74 K 23 lv st h nc ns)) := am_u e_74_20
theorem e_74_23 : pg_code 74 23 = some (.iinc 1 1, 3, 0, 0) := by decide +kernel
theorem u_74_23 {a : Int32} {z0 : Option Value} {lv : am_L} {st : List Value} : am_W G (am_M G d) 74 K 23 (z0 :: some (.int a) :: lv) st h nc ns = (am_W G (am_M G d) 74 K 26 (am_st1 (z0 :: some (.int a) :: lv) 1 (.int (a + Int32.ofInt 1))) st h nc ns) := (am_u e_74_23).trans (f_t (by decide +kernel))
theorem e_74_26 : pg_code 74 26 = some (.iinc 2 1, 3, 0, 0) := by decide +kernel
theorem u_74_26 {a : Int32} {z0 : Option Value} {z1 : Option Value} {lv : am_L} {st : List Value} : am_W G (am_M G d) 74 K 26 (z0 :: z1 :: some (.int a) :: lv) st h nc ns = (am_W G (am_M G d) 74 K 29 (am_st1 (z0 :: z1 :: some (.int a) :: lv) 2 (.int (a + Int32.ofInt 1))) st h nc ns) := (am_u e_74_26).trans (f_t (by decide +kernel))
theorem e_74_29 : pg_code 74 29 = some (.goto (-25), 3, 4, 0) := by decide +kernel
theorem u_74_29 {lv : am_L} {st : List Value} : am_W G (am_M G d) 74 K 29 lv st h nc ns = (am_W G (am_M G d) 74 K 4 lv st h nc ns) := am_u e_74_29
theorem e_74_32 : pg_code 74 32 = some (.iload_n 1, 1, 0, 0) := by decide +kernel
theorem u_74_32 {a : Int32} {z0 : Option Value} {lv : am_L} {st : List Value} : am_W G (am_M G d) 74 K 32 (z0 :: some (.int a) :: lv) st h nc ns = (am_W G (am_M G d) 74 K 33 (z0 :: some (.int a) :: lv) (.int a :: st) h nc ns) := am_u e_74_32
theorem e_74_33 : pg_code 74 33 = some (.ireturn, 1, 0, 0) := by decide +kernel
theorem u_74_33 {a : Int32} {lv : am_L} : am_W G (am_M G d) 74 K 33 lv [.int a] h nc ns = (K (.inl (some (.int a))) h) := (am_u e_74_33).trans (f_t ⟨rfl, .int, rfl, rfl⟩)
theorem e_75_0 : pg_code 75 0 = some (.aload_n 3, 1, 0, 0) := by decide +kernel
theorem u_75_0 {a : Nat} {z0 : Option Value} {z1 : Option Value} {z2 : Option Value} {lv : am_L} {st : List Value} : am_W G (am_M G d) 75 K 0 (z0 :: z1 :: z2 :: some (.ref a) :: lv) st h nc ns = (am_W G (am_M G d) 75 K 1 (z0 :: z1 :: z2 :: some (.ref a) :: lv) (.ref a :: st) h nc ns) := am_u e_75_0
theorem e_75_1 : pg_code 75 1 = some (.iconst 0, 1, 0, 0) := by decide +kernel
theorem u_75_1 {lv : am_L} {st : List Value} : am_W G (am_M G d) 75 K 1 lv st h nc ns = (am_W G (am_M G d) 75 K 2 lv (.int 0 :: st) h nc ns) := am_u e_75_1
theorem e_75_2 : pg_code 75 2 = some (.aload_n 0, 1, 0, 0) := by decide +kernel
theorem u_75_2 {a : Nat} {lv : am_L} {st : List Value} : am_W G (am_M G d) 75 K 2 (some (.ref a) :: lv) st h nc ns = (am_W G (am_M G d) 75 K 3 (some (.ref a) :: lv) (.ref a :: st) h nc ns) := am_u e_75_2
theorem e_75_3 : pg_code 75 3 = some (.iload_n 1, 1, 0, 0) := by decide +kernel
theorem u_75_3 {a : Int32} {z0 : Option Value} {lv : am_L} {st : List Value} : am_W G (am_M G d) 75 K 3 (z0 :: some (.int a) :: lv) st h nc ns = (am_W G (am_M G d) 75 K 4 (z0 :: some (.int a) :: lv) (.int a :: st) h nc ns) := am_u e_75_3
theorem e_75_4 : pg_code 75 4 = some (.iload_n 2, 1, 0, 0) := by decide +kernel
theorem u_75_4 {a : Int32} {z0 : Option Value} {z1 : Option Value} {lv : am_L} {st : List Value} : am_W G (am_M G d) 75 K 4 (z0 :: z1 :: some (.int a) :: lv) st h nc ns = (am_W G (am_M G d) 75 K 5 (z0 :: z1 :: some (.int a) :: lv) (.int a :: st) h nc ns) := am_u e_75_4
theorem e_75_5 : pg_code 75 5 = some (.invokevirtual 66, 3, 76, 3) := by decide +kernel
theorem u_75_5 {a : Nat} {v0 v1 : Value} {lv : am_L} {st : List Value} : am_W G (am_M G d) 75 K 5 lv (v1 :: v0 :: .ref a :: st) h nc ns = ((am_words st ≤ 8 ∧ nc + 2 ≤ 2 ∧ ns + 12 ≤ 12 ∧ f_rc (h a) 0) ∧ am_M G d 76 [.ref a, v0, v1] h (am_back 75 K (am_W G (am_M G d) 75 K) 76 5 lv st nc ns)) := (am_u e_75_5).trans (f_iv_eq (a := a) (G := G) (d := d) (k := 75) (K := K) (pc := 5) (lv := lv) (st := st) (h := h) (nc := nc) (ns := ns) (x := 76) (X := am_W G (am_M G d) 75 K) [v0, v1] (by decide) rfl)
theorem e_75_8 : pg_code 75 8 = some (.i2l, 1, 0, 0) := by decide +kernel
theorem u_75_8 {a : Int32} {lv : am_L} {st : List Value} : am_W G (am_M G d) 75 K 8 lv (.int a :: st) h nc ns = (am_W G (am_M G d) 75 K 9 lv (.long a.toInt64 :: st) h nc ns) := am_u e_75_8
theorem e_75_9 : pg_code 75 9 = some (.lastore, 1, 0, 0) := by decide +kernel
theorem u_75_9 {a : Nat} {j : Int32} {b : Int64} {lv : am_L} {st : List Value} : am_W G (am_M G d) 75 K 9 lv (.long b :: .int j :: .ref a :: st) h nc ns = (f_ls G d 75 K 10 lv st h nc ns (h a) a j b) := am_u e_75_9
theorem e_75_10 : pg_code 75 10 = some (.goto 7, 3, 17, 0) := by decide +kernel
theorem u_75_10 {lv : am_L} {st : List Value} : am_W G (am_M G d) 75 K 10 lv st h nc ns = (am_W G (am_M G d) 75 K 17 lv st h nc ns) := am_u e_75_10
theorem e_75_13 : pg_code 75 13 = some (.astore 4, 2, 0, 0) := by decide +kernel
theorem u_75_13 {a : Nat} {lv : am_L} {st : List Value} : am_W G (am_M G d) 75 K 13 lv (.ref a :: st) h nc ns = (am_W G (am_M G d) 75 K 15 (am_st1 lv 4 (.ref a)) st h nc ns) := (am_u e_75_13).trans (f_t (by decide +kernel))
theorem e_75_15 : pg_code 75 15 = some (.iconst 1, 1, 0, 0) := by decide +kernel
theorem u_75_15 {lv : am_L} {st : List Value} : am_W G (am_M G d) 75 K 15 lv st h nc ns = (am_W G (am_M G d) 75 K 16 lv (.int 1 :: st) h nc ns) := am_u e_75_15
theorem e_75_16 : pg_code 75 16 = some (.ireturn, 1, 0, 0) := by decide +kernel
theorem u_75_16 {a : Int32} {lv : am_L} : am_W G (am_M G d) 75 K 16 lv [.int a] h nc ns = (K (.inl (some (.int a))) h) := (am_u e_75_16).trans (f_t ⟨rfl, .int, rfl, rfl⟩)
theorem e_75_17 : pg_code 75 17 = some (.iconst 0, 1, 0, 0) := by decide +kernel
theorem u_75_17 {lv : am_L} {st : List Value} : am_W G (am_M G d) 75 K 17 lv st h nc ns = (am_W G (am_M G d) 75 K 18 lv (.int 0 :: st) h nc ns) := am_u e_75_17
theorem e_75_18 : pg_code 75 18 = some (.ireturn, 1, 0, 0) := by decide +kernel
theorem u_75_18 {a : Int32} {lv : am_L} : am_W G (am_M G d) 75 K 18 lv [.int a] h nc ns = (K (.inl (some (.int a))) h) := (am_u e_75_18).trans (f_t ⟨rfl, .int, rfl, rfl⟩)
theorem e_76_0 : pg_code 76 0 = some (.aload_n 0, 1, 0, 0) := by decide +kernel
theorem u_76_0 {a : Nat} {lv : am_L} {st : List Value} : am_W G (am_M G d) 76 K 0 (some (.ref a) :: lv) st h nc ns = (am_W G (am_M G d) 76 K 1 (some (.ref a) :: lv) (.ref a :: st) h nc ns) := am_u e_76_0
theorem e_76_1 : pg_code 76 1 = some (.iload_n 1, 1, 0, 0) := by decide +kernel
theorem u_76_1 {a : Int32} {z0 : Option Value} {lv : am_L} {st : List Value} : am_W G (am_M G d) 76 K 1 (z0 :: some (.int a) :: lv) st h nc ns = (am_W G (am_M G d) 76 K 2 (z0 :: some (.int a) :: lv) (.int a :: st) h nc ns) := am_u e_76_1
theorem e_76_2 : pg_code 76 2 = some (.invokevirtual 100, 3, 50, 2) := by decide +kernel
theorem u_76_2 {a : Nat} {v0 : Value} {lv : am_L} {st : List Value} : am_W G (am_M G d) 76 K 2 lv (v0 :: .ref a :: st) h nc ns = ((am_words st ≤ 8 ∧ nc + 1 ≤ 2 ∧ ns + 6 ≤ 12 ∧ f_rc (h a) 0) ∧ am_M G d 50 [.ref a, v0] h (am_back 76 K (am_W G (am_M G d) 76 K) 50 2 lv st nc ns)) := (am_u e_76_2).trans (f_iv_eq (a := a) (G := G) (d := d) (k := 76) (K := K) (pc := 2) (lv := lv) (st := st) (h := h) (nc := nc) (ns := ns) (x := 50) (X := am_W G (am_M G d) 76 K) [v0] (by decide) rfl)
theorem e_76_5 : pg_code 76 5 = some (.aload_n 0, 1, 0, 0) := by decide +kernel
theorem u_76_5 {a : Nat} {lv : am_L} {st : List Value} : am_W G (am_M G d) 76 K 5 (some (.ref a) :: lv) st h nc ns = (am_W G (am_M G d) 76 K 6 (some (.ref a) :: lv) (.ref a :: st) h nc ns) := am_u e_76_5
theorem e_76_6 : pg_code 76 6 = some (.getfield 31, 3, 0, 2) := by decide +kernel
theorem u_76_6 {a : Nat} {lv : am_L} {st : List Value} : am_W G (am_M G d) 76 K 6 lv (.ref a :: st) h nc ns = (f_gf G d 76 K 9 lv st h nc ns (h a) 0 2) := am_u e_76_6
theorem e_76_9 : pg_code 76 9 = some (.getfield 195, 3, 4, 1) := by decide +kernel
theorem u_76_9 {a : Nat} {lv : am_L} {st : List Value} : am_W G (am_M G d) 76 K 9 lv (.ref a :: st) h nc ns = (f_gf G d 76 K 12 lv st h nc ns (h a) 4 1) := am_u e_76_9
theorem e_76_12 : pg_code 76 12 = some (.iload_n 1, 1, 0, 0) := by decide +kernel
theorem u_76_12 {a : Int32} {z0 : Option Value} {lv : am_L} {st : List Value} : am_W G (am_M G d) 76 K 12 (z0 :: some (.int a) :: lv) st h nc ns = (am_W G (am_M G d) 76 K 13 (z0 :: some (.int a) :: lv) (.int a :: st) h nc ns) := am_u e_76_12
theorem e_76_13 : pg_code 76 13 = some (.iload_n 2, 1, 0, 0) := by decide +kernel
theorem u_76_13 {a : Int32} {z0 : Option Value} {z1 : Option Value} {lv : am_L} {st : List Value} : am_W G (am_M G d) 76 K 13 (z0 :: z1 :: some (.int a) :: lv) st h nc ns = (am_W G (am_M G d) 76 K 14 (z0 :: z1 :: some (.int a) :: lv) (.int a :: st) h nc ns) := am_u e_76_13
theorem e_76_14 : pg_code 76 14 = some (.aload_n 0, 1, 0, 0) := by decide +kernel
theorem u_76_14 {a : Nat} {lv : am_L} {st : List Value} : am_W G (am_M G d) 76 K 14 (some (.ref a) :: lv) st h nc ns = (am_W G (am_M G d) 76 K 15 (some (.ref a) :: lv) (.ref a :: st) h nc ns) := am_u e_76_14
theorem e_76_15 : pg_code 76 15 = some (.getfield 15, 3, 0, 0) := by decide +kernel
theorem u_76_15 {a : Nat} {lv : am_L} {st : List Value} : am_W G (am_M G d) 76 K 15 lv (.ref a :: st) h nc ns = (f_gf G d 76 K 18 lv st h nc ns (h a) 0 0) := am_u e_76_15
theorem e_76_18 : pg_code 76 18 = some (.getfield 46, 3, 5, 2) := by decide +kernel
theorem u_76_18 {a : Nat} {lv : am_L} {st : List Value} : am_W G (am_M G d) 76 K 18 lv (.ref a :: st) h nc ns = (f_gf G d 76 K 21 lv st h nc ns (h a) 5 2) := am_u e_76_18
theorem e_76_21 : pg_code 76 21 = some (.invokevirtual 199, 3, 77, 4) := by decide +kernel
theorem u_76_21 {a : Nat} {v0 v1 v2 : Value} {lv : am_L} {st : List Value} : am_W G (am_M G d) 76 K 21 lv (v2 :: v1 :: v0 :: .ref a :: st) h nc ns = ((am_words st ≤ 8 ∧ nc + 0 ≤ 2 ∧ ns + 0 ≤ 12 ∧ f_rc (h a) 6) ∧ am_M G d 77 [.ref a, v0, v1, v2] h (am_back 76 K (am_W G (am_M G d) 76 K) 77 21 lv st nc ns)) := (am_u e_76_21).trans (f_iv_eq (a := a) (G := G) (d := d) (k := 76) (K := K) (pc := 21) (lv := lv) (st := st) (h := h) (nc := nc) (ns := ns) (x := 77) (X := am_W G (am_M G d) 76 K) [v0, v1, v2] (by decide) rfl)
theorem e_76_24 : pg_code 76 24 = some (.istore_n 3, 1, 0, 0) := by decide +kernel
theorem u_76_24 {a : Int32} {lv : am_L} {st : List Value} : am_W G (am_M G d) 76 K 24 lv (.int a :: st) h nc ns = (am_W G (am_M G d) 76 K 25 (am_st1 lv 3 (.int a)) st h nc ns) := (am_u e_76_24).trans (f_t (by decide +kernel))
theorem e_76_25 : pg_code 76 25 = some (.iload_n 3, 1, 0, 0) := by decide +kernel
theorem u_76_25 {a : Int32} {z0 : Option Value} {z1 : Option Value} {z2 : Option Value} {lv : am_L} {st : List Value} : am_W G (am_M G d) 76 K 25 (z0 :: z1 :: z2 :: some (.int a) :: lv) st h nc ns = (am_W G (am_M G d) 76 K 26 (z0 :: z1 :: z2 :: some (.int a) :: lv) (.int a :: st) h nc ns) := am_u e_76_25
theorem e_76_26 : pg_code 76 26 = some (.iconst (-1), 1, 0, 0) := by decide +kernel
theorem u_76_26 {lv : am_L} {st : List Value} : am_W G (am_M G d) 76 K 26 lv st h nc ns = (am_W G (am_M G d) 76 K 27 lv (.int (-1) :: st) h nc ns) := am_u e_76_26
theorem e_76_27 : pg_code 76 27 = some (.if_icmp .ne 13, 3, 40, 0) := by decide +kernel
theorem u_76_27 {a b : Int32} {lv : am_L} {st : List Value} : am_W G (am_M G d) 76 K 27 lv (.int b :: .int a :: st) h nc ns = (am_br (¬ a = b) (am_W G (am_M G d) 76 K 40 lv st h nc ns) (am_W G (am_M G d) 76 K 30 lv st h nc ns)) := am_u e_76_27
theorem e_76_30 : pg_code 76 30 = some (.new 87, 3, 502, 0) := by decide +kernel
theorem u_76_30 {lv : am_L} {st : List Value} : am_W G (am_M G d) 76 K 30 lv st h nc ns = ((nc + 1 ≤ 2 ∧ ns + 6 ≤ 12 ∧ am_words st ≤ 8) ∧ K (.inr 502) h) := am_u e_76_30
theorem e_76_40 : pg_code 76 40 = some (.iload_n 3, 1, 0, 0) := by decide +kernel
theorem u_76_40 {a : Int32} {z0 : Option Value} {z1 : Option Value} {z2 : Option Value} {lv : am_L} {st : List Value} : am_W G (am_M G d) 76 K 40 (z0 :: z1 :: z2 :: some (.int a) :: lv) st h nc ns = (am_W G (am_M G d) 76 K 41 (z0 :: z1 :: z2 :: some (.int a) :: lv) (.int a :: st) h nc ns) := am_u e_76_40
theorem e_76_41 : pg_code 76 41 = some (.ireturn, 1, 0, 0) := by decide +kernel
theorem u_76_41 {a : Int32} {lv : am_L} : am_W G (am_M G d) 76 K 41 lv [.int a] h nc ns = (K (.inl (some (.int a))) h) := (am_u e_76_41).trans (f_t ⟨rfl, .int, rfl, rfl⟩)
theorem e_77_0 : pg_code 77 0 = some (.aload_n 0, 1, 0, 0) := by decide +kernel
theorem u_77_0 {a : Nat} {lv : am_L} {st : List Value} : am_W G (am_M G d) 77 K 0 (some (.ref a) :: lv) st h nc ns = (am_W G (am_M G d) 77 K 1 (some (.ref a) :: lv) (.ref a :: st) h nc ns) := am_u e_77_0
theorem e_77_1 : pg_code 77 1 = some (.iload_n 1, 1, 0, 0) := by decide +kernel
theorem u_77_1 {a : Int32} {z0 : Option Value} {lv : am_L} {st : List Value} : am_W G (am_M G d) 77 K 1 (z0 :: some (.int a) :: lv) st h nc ns = (am_W G (am_M G d) 77 K 2 (z0 :: some (.int a) :: lv) (.int a :: st) h nc ns) := am_u e_77_1
theorem e_77_2 : pg_code 77 2 = some (.iload_n 3, 1, 0, 0) := by decide +kernel
theorem u_77_2 {a : Int32} {z0 : Option Value} {z1 : Option Value} {z2 : Option Value} {lv : am_L} {st : List Value} : am_W G (am_M G d) 77 K 2 (z0 :: z1 :: z2 :: some (.int a) :: lv) st h nc ns = (am_W G (am_M G d) 77 K 3 (z0 :: z1 :: z2 :: some (.int a) :: lv) (.int a :: st) h nc ns) := am_u e_77_2
theorem e_77_3 : pg_code 77 3 = some (.invokevirtual 49, 3, 78, 3) := by decide +kernel
theorem u_77_3 {a : Nat} {v0 v1 : Value} {lv : am_L} {st : List Value} : am_W G (am_M G d) 77 K 3 lv (v1 :: v0 :: .ref a :: st) h nc ns = ((am_words st ≤ 8 ∧ nc + 0 ≤ 0 ∧ ns + 0 ≤ 0 ∧ f_rc (h a) 6) ∧ am_M G d 78 [.ref a, v0, v1] h (am_back 77 K (am_W G (am_M G d) 77 K) 78 3 lv st nc ns)) := (am_u e_77_3).trans (f_iv_eq (a := a) (G := G) (d := d) (k := 77) (K := K) (pc := 3) (lv := lv) (st := st) (h := h) (nc := nc) (ns := ns) (x := 78) (X := am_W G (am_M G d) 77 K) [v0, v1] (by decide) rfl)
theorem e_77_6 : pg_code 77 6 = some (.iconst 0, 1, 0, 0) := by decide +kernel
theorem u_77_6 {lv : am_L} {st : List Value} : am_W G (am_M G d) 77 K 6 lv st h nc ns = (am_W G (am_M G d) 77 K 7 lv (.int 0 :: st) h nc ns) := am_u e_77_6
theorem e_77_7 : pg_code 77 7 = some (.istore 4, 2, 0, 0) := by decide +kernel
theorem u_77_7 {a : Int32} {lv : am_L} {st : List Value} : am_W G (am_M G d) 77 K 7 lv (.int a :: st) h nc ns = (am_W G (am_M G d) 77 K 9 (am_st1 lv 4 (.int a)) st h nc ns) := (am_u e_77_7).trans (f_t (by decide +kernel))
theorem e_77_9 : pg_code 77 9 = some (.iconst 0, 1, 0, 0) := by decide +kernel
theorem u_77_9 {lv : am_L} {st : List Value} : am_W G (am_M G d) 77 K 9 lv st h nc ns = (am_W G (am_M G d) 77 K 10 lv (.int 0 :: st) h nc ns) := am_u e_77_9
theorem e_77_10 : pg_code 77 10 = some (.istore 5, 2, 0, 0) := by decide +kernel
theorem u_77_10 {a : Int32} {lv : am_L} {st : List Value} : am_W G (am_M G d) 77 K 10 lv (.int a :: st) h nc ns = (am_W G (am_M G d) 77 K 12 (am_st1 lv 5 (.int a)) st h nc ns) := (am_u e_77_10).trans (f_t (by decide +kernel))
theorem e_77_12 : pg_code 77 12 = some (.iload 5, 2, 0, 0) := by decide +kernel
theorem u_77_12 {a : Int32} {z0 : Option Value} {z1 : Option Value} {z2 : Option Value} {z3 : Option Value} {z4 : Option Value} {lv : am_L} {st : List Value} : am_W G (am_M G d) 77 K 12 (z0 :: z1 :: z2 :: z3 :: z4 :: some (.int a) :: lv) st h nc ns = (am_W G (am_M G d) 77 K 14 (z0 :: z1 :: z2 :: z3 :: z4 :: some (.int a) :: lv) (.int a :: st) h nc ns) := am_u e_77_12
theorem e_77_14 : pg_code 77 14 = some (.iload_n 3, 1, 0, 0) := by decide +kernel
theorem u_77_14 {a : Int32} {z0 : Option Value} {z1 : Option Value} {z2 : Option Value} {lv : am_L} {st : List Value} : am_W G (am_M G d) 77 K 14 (z0 :: z1 :: z2 :: some (.int a) :: lv) st h nc ns = (am_W G (am_M G d) 77 K 15 (z0 :: z1 :: z2 :: some (.int a) :: lv) (.int a :: st) h nc ns) := am_u e_77_14
theorem e_77_15 : pg_code 77 15 = some (.if_icmp .ge 31, 3, 46, 0) := by decide +kernel
theorem u_77_15 {a b : Int32} {lv : am_L} {st : List Value} : am_W G (am_M G d) 77 K 15 lv (.int b :: .int a :: st) h nc ns = (am_br (b ≤ a) (am_W G (am_M G d) 77 K 46 lv st h nc ns) (am_W G (am_M G d) 77 K 18 lv st h nc ns)) := am_u e_77_15
theorem e_77_18 : pg_code 77 18 = some (.aload_n 0, 1, 0, 0) := by decide +kernel
theorem u_77_18 {a : Nat} {lv : am_L} {st : List Value} : am_W G (am_M G d) 77 K 18 (some (.ref a) :: lv) st h nc ns = (am_W G (am_M G d) 77 K 19 (some (.ref a) :: lv) (.ref a :: st) h nc ns) := am_u e_77_18
theorem e_77_19 : pg_code 77 19 = some (.getfield 18, 3, 6, 4) := by decide +kernel
theorem u_77_19 {a : Nat} {lv : am_L} {st : List Value} : am_W G (am_M G d) 77 K 19 lv (.ref a :: st) h nc ns = (f_gf G d 77 K 22 lv st h nc ns (h a) 6 4) := am_u e_77_19
theorem e_77_22 : pg_code 77 22 = some (.iload 5, 2, 0, 0) := by decide +kernel
theorem u_77_22 {a : Int32} {z0 : Option Value} {z1 : Option Value} {z2 : Option Value} {z3 : Option Value} {z4 : Option Value} {lv : am_L} {st : List Value} : am_W G (am_M G d) 77 K 22 (z0 :: z1 :: z2 :: z3 :: z4 :: some (.int a) :: lv) st h nc ns = (am_W G (am_M G d) 77 K 24 (z0 :: z1 :: z2 :: z3 :: z4 :: some (.int a) :: lv) (.int a :: st) h nc ns) := am_u e_77_22
theorem e_77_24 : pg_code 77 24 = some (.baload, 1, 0, 0) := by decide +kernel
theorem u_77_24 {a : Nat} {j : Int32} {lv : am_L} {st : List Value} : am_W G (am_M G d) 77 K 24 lv (.int j :: .ref a :: st) h nc ns = (f_ia G d 77 K 25 lv st h nc ns (h a) .boolean j) := am_u e_77_24
theorem e_77_25 : pg_code 77 25 = some (.ifCond .eq 15, 3, 40, 0) := by decide +kernel
theorem u_77_25 {a : Int32} {lv : am_L} {st : List Value} : am_W G (am_M G d) 77 K 25 lv (.int a :: st) h nc ns = (am_br (a = 0) (am_W G (am_M G d) 77 K 40 lv st h nc ns) (am_W G (am_M G d) 77 K 28 lv st h nc ns)) := am_u e_77_25
theorem e_77_28 : pg_code 77 28 = some (.iload 4, 2, 0, 0) := by decide +kernel
theorem u_77_28 {a : Int32} {z0 : Option Value} {z1 : Option Value} {z2 : Option Value} {z3 : Option Value} {lv : am_L} {st : List Value} : am_W G (am_M G d) 77 K 28 (z0 :: z1 :: z2 :: z3 :: some (.int a) :: lv) st h nc ns = (am_W G (am_M G d) 77 K 30 (z0 :: z1 :: z2 :: z3 :: some (.int a) :: lv) (.int a :: st) h nc ns) := am_u e_77_28
theorem e_77_30 : pg_code 77 30 = some (.iload_n 2, 1, 0, 0) := by decide +kernel
theorem u_77_30 {a : Int32} {z0 : Option Value} {z1 : Option Value} {lv : am_L} {st : List Value} : am_W G (am_M G d) 77 K 30 (z0 :: z1 :: some (.int a) :: lv) st h nc ns = (am_W G (am_M G d) 77 K 31 (z0 :: z1 :: some (.int a) :: lv) (.int a :: st) h nc ns) := am_u e_77_30
theorem e_77_31 : pg_code 77 31 = some (.if_icmp .ne 6, 3, 37, 0) := by decide +kernel
theorem u_77_31 {a b : Int32} {lv : am_L} {st : List Value} : am_W G (am_M G d) 77 K 31 lv (.int b :: .int a :: st) h nc ns = (am_br (¬ a = b) (am_W G (am_M G d) 77 K 37 lv st h nc ns) (am_W G (am_M G d) 77 K 34 lv st h nc ns)) := am_u e_77_31
theorem e_77_34 : pg_code 77 34 = some (.iload 5, 2, 0, 0) := by decide +kernel
theorem u_77_34 {a : Int32} {z0 : Option Value} {z1 : Option Value} {z2 : Option Value} {z3 : Option Value} {z4 : Option Value} {lv : am_L} {st : List Value} : am_W G (am_M G d) 77 K 34 (z0 :: z1 :: z2 :: z3 :: z4 :: some (.int a) :: lv) st h nc ns = (am_W G (am_M G d) 77 K 36 (z0 :: z1 :: z2 :: z3 :: z4 :: some (.int a) :: lv) (.int a :: st) h nc ns) := am_u e_77_34
theorem e_77_36 : pg_code 77 36 = some (.ireturn, 1, 0, 0) := by decide +kernel
theorem u_77_36 {a : Int32} {lv : am_L} : am_W G (am_M G d) 77 K 36 lv [.int a] h nc ns = (K (.inl (some (.int a))) h) := (am_u e_77_36).trans (f_t ⟨rfl, .int, rfl, rfl⟩)
theorem e_77_37 : pg_code 77 37 = some (.iinc 4 1, 3, 0, 0) := by decide +kernel
theorem u_77_37 {a : Int32} {z0 : Option Value} {z1 : Option Value} {z2 : Option Value} {z3 : Option Value} {lv : am_L} {st : List Value} : am_W G (am_M G d) 77 K 37 (z0 :: z1 :: z2 :: z3 :: some (.int a) :: lv) st h nc ns = (am_W G (am_M G d) 77 K 40 (am_st1 (z0 :: z1 :: z2 :: z3 :: some (.int a) :: lv) 4 (.int (a + Int32.ofInt 1))) st h nc ns) := (am_u e_77_37).trans (f_t (by decide +kernel))
theorem e_77_40 : pg_code 77 40 = some (.iinc 5 1, 3, 0, 0) := by decide +kernel
theorem u_77_40 {a : Int32} {z0 : Option Value} {z1 : Option Value} {z2 : Option Value} {z3 : Option Value} {z4 : Option Value} {lv : am_L} {st : List Value} : am_W G (am_M G d) 77 K 40 (z0 :: z1 :: z2 :: z3 :: z4 :: some (.int a) :: lv) st h nc ns = (am_W G (am_M G d) 77 K 43 (am_st1 (z0 :: z1 :: z2 :: z3 :: z4 :: some (.int a) :: lv) 5 (.int (a + Int32.ofInt 1))) st h nc ns) := (am_u e_77_40).trans (f_t (by decide +kernel))
theorem e_77_43 : pg_code 77 43 = some (.goto (-31), 3, 12, 0) := by decide +kernel
theorem u_77_43 {lv : am_L} {st : List Value} : am_W G (am_M G d) 77 K 43 lv st h nc ns = (am_W G (am_M G d) 77 K 12 lv st h nc ns) := am_u e_77_43
theorem e_77_46 : pg_code 77 46 = some (.iconst (-1), 1, 0, 0) := by decide +kernel
theorem u_77_46 {lv : am_L} {st : List Value} : am_W G (am_M G d) 77 K 46 lv st h nc ns = (am_W G (am_M G d) 77 K 47 lv (.int (-1) :: st) h nc ns) := am_u e_77_46
theorem e_77_47 : pg_code 77 47 = some (.ireturn, 1, 0, 0) := by decide +kernel
theorem u_77_47 {a : Int32} {lv : am_L} : am_W G (am_M G d) 77 K 47 lv [.int a] h nc ns = (K (.inl (some (.int a))) h) := (am_u e_77_47).trans (f_t ⟨rfl, .int, rfl, rfl⟩)
theorem e_78_0 : pg_code 78 0 = some (.iconst 0, 1, 0, 0) := by decide +kernel
theorem u_78_0 {lv : am_L} {st : List Value} : am_W G (am_M G d) 78 K 0 lv st h nc ns = (am_W G (am_M G d) 78 K 1 lv (.int 0 :: st) h nc ns) := am_u e_78_0
theorem e_78_1 : pg_code 78 1 = some (.istore_n 3, 1, 0, 0) := by decide +kernel
theorem u_78_1 {a : Int32} {lv : am_L} {st : List Value} : am_W G (am_M G d) 78 K 1 lv (.int a :: st) h nc ns = (am_W G (am_M G d) 78 K 2 (am_st1 lv 3 (.int a)) st h nc ns) := (am_u e_78_1).trans (f_t (by decide +kernel))
theorem e_78_2 : pg_code 78 2 = some (.iload_n 3, 1, 0, 0) := by decide +kernel
theorem u_78_2 {a : Int32} {z0 : Option Value} {z1 : Option Value} {z2 : Option Value} {lv : am_L} {st : List Value} : am_W G (am_M G d) 78 K 2 (z0 :: z1 :: z2 :: some (.int a) :: lv) st h nc ns = (am_W G (am_M G d) 78 K 3 (z0 :: z1 :: z2 :: some (.int a) :: lv) (.int a :: st) h nc ns) := am_u e_78_2
theorem e_78_3 : pg_code 78 3 = some (.iload_n 2, 1, 0, 0) := by decide +kernel
theorem u_78_3 {a : Int32} {z0 : Option Value} {z1 : Option Value} {lv : am_L} {st : List Value} : am_W G (am_M G d) 78 K 3 (z0 :: z1 :: some (.int a) :: lv) st h nc ns = (am_W G (am_M G d) 78 K 4 (z0 :: z1 :: some (.int a) :: lv) (.int a :: st) h nc ns) := am_u e_78_3
theorem e_78_4 : pg_code 78 4 = some (.if_icmp .ge 16, 3, 20, 0) := by decide +kernel
theorem u_78_4 {a b : Int32} {lv : am_L} {st : List Value} : am_W G (am_M G d) 78 K 4 lv (.int b :: .int a :: st) h nc ns = (am_br (b ≤ a) (am_W G (am_M G d) 78 K 20 lv st h nc ns) (am_W G (am_M G d) 78 K 7 lv st h nc ns)) := am_u e_78_4
theorem e_78_7 : pg_code 78 7 = some (.aload_n 0, 1, 0, 0) := by decide +kernel
theorem u_78_7 {a : Nat} {lv : am_L} {st : List Value} : am_W G (am_M G d) 78 K 7 (some (.ref a) :: lv) st h nc ns = (am_W G (am_M G d) 78 K 8 (some (.ref a) :: lv) (.ref a :: st) h nc ns) := am_u e_78_7
theorem e_78_8 : pg_code 78 8 = some (.getfield 18, 3, 6, 4) := by decide +kernel
theorem u_78_8 {a : Nat} {lv : am_L} {st : List Value} : am_W G (am_M G d) 78 K 8 lv (.ref a :: st) h nc ns = (f_gf G d 78 K 11 lv st h nc ns (h a) 6 4) := am_u e_78_8
theorem e_78_11 : pg_code 78 11 = some (.iload_n 3, 1, 0, 0) := by decide +kernel
theorem u_78_11 {a : Int32} {z0 : Option Value} {z1 : Option Value} {z2 : Option Value} {lv : am_L} {st : List Value} : am_W G (am_M G d) 78 K 11 (z0 :: z1 :: z2 :: some (.int a) :: lv) st h nc ns = (am_W G (am_M G d) 78 K 12 (z0 :: z1 :: z2 :: some (.int a) :: lv) (.int a :: st) h nc ns) := am_u e_78_11
theorem e_78_12 : pg_code 78 12 = some (.iconst 0, 1, 0, 0) := by decide +kernel
theorem u_78_12 {lv : am_L} {st : List Value} : am_W G (am_M G d) 78 K 12 lv st h nc ns = (am_W G (am_M G d) 78 K 13 lv (.int 0 :: st) h nc ns) := am_u e_78_12
theorem e_78_13 : pg_code 78 13 = some (.bastore, 1, 0, 0) := by decide +kernel
theorem u_78_13 {a : Nat} {j b : Int32} {lv : am_L} {st : List Value} : am_W G (am_M G d) 78 K 13 lv (.int b :: .int j :: .ref a :: st) h nc ns = (f_is G d 78 K 14 lv st h nc ns (h a) .boolean a j (vp_nar .boolean b)) := am_u e_78_13
theorem e_78_14 : pg_code 78 14 = some (.iinc 3 1, 3, 0, 0) := by decide +kernel
theorem u_78_14 {a : Int32} {z0 : Option Value} {z1 : Option Value} {z2 : Option Value} {lv : am_L} {st : List Value} : am_W G (am_M G d) 78 K 14 (z0 :: z1 :: z2 :: some (.int a) :: lv) st h nc ns = (am_W G (am_M G d) 78 K 17 (am_st1 (z0 :: z1 :: z2 :: some (.int a) :: lv) 3 (.int (a + Int32.ofInt 1))) st h nc ns) := (am_u e_78_14).trans (f_t (by decide +kernel))
theorem e_78_17 : pg_code 78 17 = some (.goto (-15), 3, 2, 0) := by decide +kernel
theorem u_78_17 {lv : am_L} {st : List Value} : am_W G (am_M G d) 78 K 17 lv st h nc ns = (am_W G (am_M G d) 78 K 2 lv st h nc ns) := am_u e_78_17
theorem e_78_20 : pg_code 78 20 = some (.aload_n 0, 1, 0, 0) := by decide +kernel
theorem u_78_20 {a : Nat} {lv : am_L} {st : List Value} : am_W G (am_M G d) 78 K 20 (some (.ref a) :: lv) st h nc ns = (am_W G (am_M G d) 78 K 21 (some (.ref a) :: lv) (.ref a :: st) h nc ns) := am_u e_78_20
theorem e_78_21 : pg_code 78 21 = some (.iload_n 1, 1, 0, 0) := by decide +kernel
theorem u_78_21 {a : Int32} {z0 : Option Value} {lv : am_L} {st : List Value} : am_W G (am_M G d) 78 K 21 (z0 :: some (.int a) :: lv) st h nc ns = (am_W G (am_M G d) 78 K 22 (z0 :: some (.int a) :: lv) (.int a :: st) h nc ns) := am_u e_78_21
theorem e_78_22 : pg_code 78 22 = some (.invokevirtual 45, 3, 17, 2) := by decide +kernel
theorem u_78_22 {a : Nat} {v0 : Value} {lv : am_L} {st : List Value} : am_W G (am_M G d) 78 K 22 lv (v0 :: .ref a :: st) h nc ns = ((am_words st ≤ 8 ∧ nc + 0 ≤ 0 ∧ ns + 0 ≤ 0 ∧ f_rc (h a) 6) ∧ am_M G d 17 [.ref a, v0] h (am_back 78 K (am_W G (am_M G d) 78 K) 17 22 lv st nc ns)) := (am_u e_78_22).trans (f_iv_eq (a := a) (G := G) (d := d) (k := 78) (K := K) (pc := 22) (lv := lv) (st := st) (h := h) (nc := nc) (ns := ns) (x := 17) (X := am_W G (am_M G d) 78 K) [v0] (by decide) rfl)
theorem e_78_25 : pg_code 78 25 = some (.iconst 0, 1, 0, 0) := by decide +kernel
theorem u_78_25 {lv : am_L} {st : List Value} : am_W G (am_M G d) 78 K 25 lv st h nc ns = (am_W G (am_M G d) 78 K 26 lv (.int 0 :: st) h nc ns) := am_u e_78_25
theorem e_78_26 : pg_code 78 26 = some (.istore_n 3, 1, 0, 0) := by decide +kernel
theorem u_78_26 {a : Int32} {lv : am_L} {st : List Value} : am_W G (am_M G d) 78 K 26 lv (.int a :: st) h nc ns = (am_W G (am_M G d) 78 K 27 (am_st1 lv 3 (.int a)) st h nc ns) := (am_u e_78_26).trans (f_t (by decide +kernel))
theorem e_78_27 : pg_code 78 27 = some (.iload_n 3, 1, 0, 0) := by decide +kernel
theorem u_78_27 {a : Int32} {z0 : Option Value} {z1 : Option Value} {z2 : Option Value} {lv : am_L} {st : List Value} : am_W G (am_M G d) 78 K 27 (z0 :: z1 :: z2 :: some (.int a) :: lv) st h nc ns = (am_W G (am_M G d) 78 K 28 (z0 :: z1 :: z2 :: some (.int a) :: lv) (.int a :: st) h nc ns) := am_u e_78_27
theorem e_78_28 : pg_code 78 28 = some (.aload_n 0, 1, 0, 0) := by decide +kernel
theorem u_78_28 {a : Nat} {lv : am_L} {st : List Value} : am_W G (am_M G d) 78 K 28 (some (.ref a) :: lv) st h nc ns = (am_W G (am_M G d) 78 K 29 (some (.ref a) :: lv) (.ref a :: st) h nc ns) := am_u e_78_28
theorem e_78_29 : pg_code 78 29 = some (.getfield 32, 3, 6, 2) := by decide +kernel
theorem u_78_29 {a : Nat} {lv : am_L} {st : List Value} : am_W G (am_M G d) 78 K 29 lv (.ref a :: st) h nc ns = (f_gf G d 78 K 32 lv st h nc ns (h a) 6 2) := am_u e_78_29
theorem e_78_32 : pg_code 78 32 = some (.if_icmp .ge 45, 3, 77, 0) := by decide +kernel
theorem u_78_32 {a b : Int32} {lv : am_L} {st : List Value} : am_W G (am_M G d) 78 K 32 lv (.int b :: .int a :: st) h nc ns = (am_br (b ≤ a) (am_W G (am_M G d) 78 K 77 lv st h nc ns) (am_W G (am_M G d) 78 K 35 lv st h nc ns)) := am_u e_78_32
theorem e_78_35 : pg_code 78 35 = some (.aload_n 0, 1, 0, 0) := by decide +kernel
theorem u_78_35 {a : Nat} {lv : am_L} {st : List Value} : am_W G (am_M G d) 78 K 35 (some (.ref a) :: lv) st h nc ns = (am_W G (am_M G d) 78 K 36 (some (.ref a) :: lv) (.ref a :: st) h nc ns) := am_u e_78_35
theorem e_78_36 : pg_code 78 36 = some (.aload_n 0, 1, 0, 0) := by decide +kernel
theorem u_78_36 {a : Nat} {lv : am_L} {st : List Value} : am_W G (am_M G d) 78 K 36 (some (.ref a) :: lv) st h nc ns = (am_W G (am_M G d) 78 K 37 (some (.ref a) :: lv) (.ref a :: st) h nc ns) := am_u e_78_36
theorem e_78_37 : pg_code 78 37 = some (.getfield 22, 3, 6, 0) := by decide +kernel
theorem u_78_37 {a : Nat} {lv : am_L} {st : List Value} : am_W G (am_M G d) 78 K 37 lv (.ref a :: st) h nc ns = (f_gf G d 78 K 40 lv st h nc ns (h a) 6 0) := am_u e_78_37
theorem e_78_40 : pg_code 78 40 = some (.getfield 39, 3, 2, 1) := by decide +kernel
theorem u_78_40 {a : Nat} {lv : am_L} {st : List Value} : am_W G (am_M G d) 78 K 40 lv (.ref a :: st) h nc ns = (f_gf G d 78 K 43 lv st h nc ns (h a) 2 1) := am_u e_78_40
theorem e_78_43 : pg_code 78 43 = some (.aload_n 0, 1, 0, 0) := by decide +kernel
theorem u_78_43 {a : Nat} {lv : am_L} {st : List Value} : am_W G (am_M G d) 78 K 43 (some (.ref a) :: lv) st h nc ns = (am_W G (am_M G d) 78 K 44 (some (.ref a) :: lv) (.ref a :: st) h nc ns) := am_u e_78_43
theorem e_78_44 : pg_code 78 44 = some (.getfield 9, 3, 6, 1) := by decide +kernel
theorem u_78_44 {a : Nat} {lv : am_L} {st : List Value} : am_W G (am_M G d) 78 K 44 lv (.ref a :: st) h nc ns = (f_gf G d 78 K 47 lv st h nc ns (h a) 6 1) := am_u e_78_44
theorem e_78_47 : pg_code 78 47 = some (.iload_n 3, 1, 0, 0) := by decide +kernel
theorem u_78_47 {a : Int32} {z0 : Option Value} {z1 : Option Value} {z2 : Option Value} {lv : am_L} {st : List Value} : am_W G (am_M G d) 78 K 47 (z0 :: z1 :: z2 :: some (.int a) :: lv) st h nc ns = (am_W G (am_M G d) 78 K 48 (z0 :: z1 :: z2 :: some (.int a) :: lv) (.int a :: st) h nc ns) := am_u e_78_47
theorem e_78_48 : pg_code 78 48 = some (.iaload, 1, 0, 0) := by decide +kernel
theorem u_78_48 {a : Nat} {j : Int32} {lv : am_L} {st : List Value} : am_W G (am_M G d) 78 K 48 lv (.int j :: .ref a :: st) h nc ns = (f_ia G d 78 K 49 lv st h nc ns (h a) .int j) := am_u e_78_48
theorem e_78_49 : pg_code 78 49 = some (.iaload, 1, 0, 0) := by decide +kernel
theorem u_78_49 {a : Nat} {j : Int32} {lv : am_L} {st : List Value} : am_W G (am_M G d) 78 K 49 lv (.int j :: .ref a :: st) h nc ns = (f_ia G d 78 K 50 lv st h nc ns (h a) .int j) := am_u e_78_49
theorem e_78_50 : pg_code 78 50 = some (.invokevirtual 52, 3, 79, 2) := by decide +kernel
theorem u_78_50 {a : Nat} {v0 : Value} {lv : am_L} {st : List Value} : am_W G (am_M G d) 78 K 50 lv (v0 :: .ref a :: st) h nc ns = ((am_words st ≤ 8 ∧ nc + 0 ≤ 0 ∧ ns + 0 ≤ 0 ∧ f_rc (h a) 6) ∧ am_M G d 79 [.ref a, v0] h (am_back 78 K (am_W G (am_M G d) 78 K) 79 50 lv st nc ns)) := (am_u e_78_50).trans (f_iv_eq (a := a) (G := G) (d := d) (k := 78) (K := K) (pc := 50) (lv := lv) (st := st) (h := h) (nc := nc) (ns := ns) (x := 79) (X := am_W G (am_M G d) 78 K) [v0] (by decide) rfl)
theorem e_78_53 : pg_code 78 53 = some (.aload_n 0, 1, 0, 0) := by decide +kernel
theorem u_78_53 {a : Nat} {lv : am_L} {st : List Value} : am_W G (am_M G d) 78 K 53 (some (.ref a) :: lv) st h nc ns = (am_W G (am_M G d) 78 K 54 (some (.ref a) :: lv) (.ref a :: st) h nc ns) := am_u e_78_53
theorem e_78_54 : pg_code 78 54 = some (.aload_n 0, 1, 0, 0) := by decide +kernel
theorem u_78_54 {a : Nat} {lv : am_L} {st : List Value} : am_W G (am_M G d) 78 K 54 (some (.ref a) :: lv) st h nc ns = (am_W G (am_M G d) 78 K 55 (some (.ref a) :: lv) (.ref a :: st) h nc ns) := am_u e_78_54
theorem e_78_55 : pg_code 78 55 = some (.getfield 22, 3, 6, 0) := by decide +kernel
theorem u_78_55 {a : Nat} {lv : am_L} {st : List Value} : am_W G (am_M G d) 78 K 55 lv (.ref a :: st) h nc ns = (f_gf G d 78 K 58 lv st h nc ns (h a) 6 0) := am_u e_78_55
theorem e_78_58 : pg_code 78 58 = some (.getfield 42, 3, 2, 2) := by decide +kernel
theorem u_78_58 {a : Nat} {lv : am_L} {st : List Value} : am_W G (am_M G d) 78 K 58 lv (.ref a :: st) h nc ns = (f_gf G d 78 K 61 lv st h nc ns (h a) 2 2) := am_u e_78_58
theorem e_78_61 : pg_code 78 61 = some (.aload_n 0, 1, 0, 0) := by decide +kernel
theorem u_78_61 {a : Nat} {lv : am_L} {st : List Value} : am_W G (am_M G d) 78 K 61 (some (.ref a) :: lv) st h nc ns = (am_W G (am_M G d) 78 K 62 (some (.ref a) :: lv) (.ref a :: st) h nc ns) := am_u e_78_61
theorem e_78_62 : pg_code 78 62 = some (.getfield 9, 3, 6, 1) := by decide +kernel
theorem u_78_62 {a : Nat} {lv : am_L} {st : List Value} : am_W G (am_M G d) 78 K 62 lv (.ref a :: st) h nc ns = (f_gf G d 78 K 65 lv st h nc ns (h a) 6 1) := am_u e_78_62
theorem e_78_65 : pg_code 78 65 = some (.iload_n 3, 1, 0, 0) := by decide +kernel
theorem u_78_65 {a : Int32} {z0 : Option Value} {z1 : Option Value} {z2 : Option Value} {lv : am_L} {st : List Value} : am_W G (am_M G d) 78 K 65 (z0 :: z1 :: z2 :: some (.int a) :: lv) st h nc ns = (am_W G (am_M G d) 78 K 66 (z0 :: z1 :: z2 :: some (.int a) :: lv) (.int a :: st) h nc ns) := am_u e_78_65
theorem e_78_66 : pg_code 78 66 = some (.iaload, 1, 0, 0) := by decide +kernel
theorem u_78_66 {a : Nat} {j : Int32} {lv : am_L} {st : List Value} : am_W G (am_M G d) 78 K 66 lv (.int j :: .ref a :: st) h nc ns = (f_ia G d 78 K 67 lv st h nc ns (h a) .int j) := am_u e_78_66
theorem e_78_67 : pg_code 78 67 = some (.iaload, 1, 0, 0) := by decide +kernel
theorem u_78_67 {a : Nat} {j : Int32} {lv : am_L} {st : List Value} : am_W G (am_M G d) 78 K 67 lv (.int j :: .ref a :: st) h nc ns = (f_ia G d 78 K 68 lv st h nc ns (h a) .int j) := am_u e_78_67
theorem e_78_68 : pg_code 78 68 = some (.invokevirtual 52, 3, 79, 2) := by decide +kernel
theorem u_78_68 {a : Nat} {v0 : Value} {lv : am_L} {st : List Value} : am_W G (am_M G d) 78 K 68 lv (v0 :: .ref a :: st) h nc ns = ((am_words st ≤ 8 ∧ nc + 0 ≤ 0 ∧ ns + 0 ≤ 0 ∧ f_rc (h a) 6) ∧ am_M G d 79 [.ref a, v0] h (am_back 78 K (am_W G (am_M G d) 78 K) 79 68 lv st nc ns)) := (am_u e_78_68).trans (f_iv_eq (a := a) (G := G) (d := d) (k := 78) (K := K) (pc := 68) (lv := lv) (st := st) (h := h) (nc := nc) (ns := ns) (x := 79) (X := am_W G (am_M G d) 78 K) [v0] (by decide) rfl)
theorem e_78_71 : pg_code 78 71 = some (.iinc 3 1, 3, 0, 0) := by decide +kernel
theorem u_78_71 {a : Int32} {z0 : Option Value} {z1 : Option Value} {z2 : Option Value} {lv : am_L} {st : List Value} : am_W G (am_M G d) 78 K 71 (z0 :: z1 :: z2 :: some (.int a) :: lv) st h nc ns = (am_W G (am_M G d) 78 K 74 (am_st1 (z0 :: z1 :: z2 :: some (.int a) :: lv) 3 (.int (a + Int32.ofInt 1))) st h nc ns) := (am_u e_78_71).trans (f_t (by decide +kernel))
theorem e_78_74 : pg_code 78 74 = some (.goto (-47), 3, 27, 0) := by decide +kernel
theorem u_78_74 {lv : am_L} {st : List Value} : am_W G (am_M G d) 78 K 74 lv st h nc ns = (am_W G (am_M G d) 78 K 27 lv st h nc ns) := am_u e_78_74
theorem e_78_77 : pg_code 78 77 = some (.return_, 1, 0, 0) := by decide +kernel
theorem u_78_77 {lv : am_L} : am_W G (am_M G d) 78 K 77 lv [] h nc ns = (K (.inl none) h) := (am_u e_78_77).trans (f_t ⟨rfl, rfl⟩)
theorem e_79_0 : pg_code 79 0 = some (.iload_n 1, 1, 0, 0) := by decide +kernel
theorem u_79_0 {a : Int32} {z0 : Option Value} {lv : am_L} {st : List Value} : am_W G (am_M G d) 79 K 0 (z0 :: some (.int a) :: lv) st h nc ns = (am_W G (am_M G d) 79 K 1 (z0 :: some (.int a) :: lv) (.int a :: st) h nc ns) := am_u e_79_0
theorem e_79_1 : pg_code 79 1 = some (.ifCond .ge 12, 3, 13, 0) := by decide +kernel
theorem u_79_1 {a : Int32} {lv : am_L} {st : List Value} : am_W G (am_M G d) 79 K 1 lv (.int a :: st) h nc ns = (am_br (0 ≤ a) (am_W G (am_M G d) 79 K 13 lv st h nc ns) (am_W G (am_M G d) 79 K 4 lv st h nc ns)) := am_u e_79_1
theorem e_79_4 : pg_code 79 4 = some (.aload_n 0, 1, 0, 0) := by decide +kernel
theorem u_79_4 {a : Nat} {lv : am_L} {st : List Value} : am_W G (am_M G d) 79 K 4 (some (.ref a) :: lv) st h nc ns = (am_W G (am_M G d) 79 K 5 (some (.ref a) :: lv) (.ref a :: st) h nc ns) := am_u e_79_4
theorem e_79_5 : pg_code 79 5 = some (.getfield 18, 3, 6, 4) := by decide +kernel
theorem u_79_5 {a : Nat} {lv : am_L} {st : List Value} : am_W G (am_M G d) 79 K 5 lv (.ref a :: st) h nc ns = (f_gf G d 79 K 8 lv st h nc ns (h a) 6 4) := am_u e_79_5
theorem e_79_8 : pg_code 79 8 = some (.iconst (-1), 1, 0, 0) := by decide +kernel
theorem u_79_8 {lv : am_L} {st : List Value} : am_W G (am_M G d) 79 K 8 lv st h nc ns = (am_W G (am_M G d) 79 K 9 lv (.int (-1) :: st) h nc ns) := am_u e_79_8
theorem e_79_9 : pg_code 79 9 = some (.iload_n 1, 1, 0, 0) := by decide +kernel
theorem u_79_9 {a : Int32} {z0 : Option Value} {lv : am_L} {st : List Value} : am_W G (am_M G d) 79 K 9 (z0 :: some (.int a) :: lv) st h nc ns = (am_W G (am_M G d) 79 K 10 (z0 :: some (.int a) :: lv) (.int a :: st) h nc ns) := am_u e_79_9
theorem e_79_10 : pg_code 79 10 = some (.isub, 1, 0, 0) := by decide +kernel
theorem u_79_10 {a b : Int32} {lv : am_L} {st : List Value} : am_W G (am_M G d) 79 K 10 lv (.int b :: .int a :: st) h nc ns = (am_W G (am_M G d) 79 K 11 lv (.int (a - b) :: st) h nc ns) := am_u e_79_10
theorem e_79_11 : pg_code 79 11 = some (.iconst 1, 1, 0, 0) := by decide +kernel
theorem u_79_11 {lv : am_L} {st : List Value} : am_W G (am_M G d) 79 K 11 lv st h nc ns = (am_W G (am_M G d) 79 K 12 lv (.int 1 :: st) h nc ns) := am_u e_79_11
theorem e_79_12 : pg_code 79 12 = some (.bastore, 1, 0, 0) := by decide +kernel
theorem u_79_12 {a : Nat} {j b : Int32} {lv : am_L} {st : List Value} : am_W G (am_M G d) 79 K 12 lv (.int b :: .int j :: .ref a :: st) h nc ns = (f_is G d 79 K 13 lv st h nc ns (h a) .boolean a j (vp_nar .boolean b)) := am_u e_79_12
theorem e_79_13 : pg_code 79 13 = some (.return_, 1, 0, 0) := by decide +kernel
theorem u_79_13 {lv : am_L} : am_W G (am_M G d) 79 K 13 lv [] h nc ns = (K (.inl none) h) := (am_u e_79_13).trans (f_t ⟨rfl, rfl⟩)
theorem e_80_0 : pg_code 80 0 = some (.aload_n 2, 1, 0, 0) := by decide +kernel
theorem u_80_0 {a : Nat} {z0 : Option Value} {z1 : Option Value} {lv : am_L} {st : List Value} : am_W G (am_M G d) 80 K 0 (z0 :: z1 :: some (.ref a) :: lv) st h nc ns = (am_W G (am_M G d) 80 K 1 (z0 :: z1 :: some (.ref a) :: lv) (.ref a :: st) h nc ns) := am_u e_80_0
theorem e_80_1 : pg_code 80 1 = some (.iconst 0, 1, 0, 0) := by decide +kernel
theorem u_80_1 {lv : am_L} {st : List Value} : am_W G (am_M G d) 80 K 1 lv st h nc ns = (am_W G (am_M G d) 80 K 2 lv (.int 0 :: st) h nc ns) := am_u e_80_1
theorem e_80_2 : pg_code 80 2 = some (.aload_n 0, 1, 0, 0) := by decide +kernel
theorem u_80_2 {a : Nat} {lv : am_L} {st : List Value} : am_W G (am_M G d) 80 K 2 (some (.ref a) :: lv) st h nc ns = (am_W G (am_M G d) 80 K 3 (some (.ref a) :: lv) (.ref a :: st) h nc ns) := am_u e_80_2
theorem e_80_3 : pg_code 80 3 = some (.iload_n 1, 1, 0, 0) := by decide +kernel
theorem u_80_3 {a : Int32} {z0 : Option Value} {lv : am_L} {st : List Value} : am_W G (am_M G d) 80 K 3 (z0 :: some (.int a) :: lv) st h nc ns = (am_W G (am_M G d) 80 K 4 (z0 :: some (.int a) :: lv) (.int a :: st) h nc ns) := am_u e_80_3
theorem e_80_4 : pg_code 80 4 = some (.invokevirtual 69, 3, 81, 2) := by decide +kernel
theorem u_80_4 {a : Nat} {v0 : Value} {lv : am_L} {st : List Value} : am_W G (am_M G d) 80 K 4 lv (v0 :: .ref a :: st) h nc ns = ((am_words st ≤ 8 ∧ nc + 1 ≤ 1 ∧ ns + 6 ≤ 6 ∧ f_rc (h a) 0) ∧ am_M G d 81 [.ref a, v0] h (am_back 80 K (am_W G (am_M G d) 80 K) 81 4 lv st nc ns)) := (am_u e_80_4).trans (f_iv_eq (a := a) (G := G) (d := d) (k := 80) (K := K) (pc := 4) (lv := lv) (st := st) (h := h) (nc := nc) (ns := ns) (x := 81) (X := am_W G (am_M G d) 80 K) [v0] (by decide) rfl)
theorem e_80_7 : pg_code 80 7 = some (.i2l, 1, 0, 0) := by decide +kernel
theorem u_80_7 {a : Int32} {lv : am_L} {st : List Value} : am_W G (am_M G d) 80 K 7 lv (.int a :: st) h nc ns = (am_W G (am_M G d) 80 K 8 lv (.long a.toInt64 :: st) h nc ns) := am_u e_80_7
theorem e_80_8 : pg_code 80 8 = some (.lastore, 1, 0, 0) := by decide +kernel
theorem u_80_8 {a : Nat} {j : Int32} {b : Int64} {lv : am_L} {st : List Value} : am_W G (am_M G d) 80 K 8 lv (.long b :: .int j :: .ref a :: st) h nc ns = (f_ls G d 80 K 9 lv st h nc ns (h a) a j b) := am_u e_80_8
theorem e_80_9 : pg_code 80 9 = some (.goto 6, 3, 15, 0) := by decide +kernel
theorem u_80_9 {lv : am_L} {st : List Value} : am_W G (am_M G d) 80 K 9 lv st h nc ns = (am_W G (am_M G d) 80 K 15 lv st h nc ns) := am_u e_80_9
theorem e_80_12 : pg_code 80 12 = some (.astore_n 3, 1, 0, 0) := by decide +kernel
theorem u_80_12 {a : Nat} {lv : am_L} {st : List Value} : am_W G (am_M G d) 80 K 12 lv (.ref a :: st) h nc ns = (am_W G (am_M G d) 80 K 13 (am_st1 lv 3 (.ref a)) st h nc ns) := (am_u e_80_12).trans (f_t (by decide +kernel))
theorem e_80_13 : pg_code 80 13 = some (.iconst 1, 1, 0, 0) := by decide +kernel
theorem u_80_13 {lv : am_L} {st : List Value} : am_W G (am_M G d) 80 K 13 lv st h nc ns = (am_W G (am_M G d) 80 K 14 lv (.int 1 :: st) h nc ns) := am_u e_80_13
theorem e_80_14 : pg_code 80 14 = some (.ireturn, 1, 0, 0) := by decide +kernel
theorem u_80_14 {a : Int32} {lv : am_L} : am_W G (am_M G d) 80 K 14 lv [.int a] h nc ns = (K (.inl (some (.int a))) h) := (am_u e_80_14).trans (f_t ⟨rfl, .int, rfl, rfl⟩)
theorem e_80_15 : pg_code 80 15 = some (.iconst 0, 1, 0, 0) := by decide +kernel
theorem u_80_15 {lv : am_L} {st : List Value} : am_W G (am_M G d) 80 K 15 lv st h nc ns = (am_W G (am_M G d) 80 K 16 lv (.int 0 :: st) h nc ns) := am_u e_80_15
theorem e_80_16 : pg_code 80 16 = some (.ireturn, 1, 0, 0) := by decide +kernel
theorem u_80_16 {a : Int32} {lv : am_L} : am_W G (am_M G d) 80 K 16 lv [.int a] h nc ns = (K (.inl (some (.int a))) h) := (am_u e_80_16).trans (f_t ⟨rfl, .int, rfl, rfl⟩)
theorem e_81_0 : pg_code 81 0 = some (.aload_n 0, 1, 0, 0) := by decide +kernel
theorem u_81_0 {a : Nat} {lv : am_L} {st : List Value} : am_W G (am_M G d) 81 K 0 (some (.ref a) :: lv) st h nc ns = (am_W G (am_M G d) 81 K 1 (some (.ref a) :: lv) (.ref a :: st) h nc ns) := am_u e_81_0
theorem e_81_1 : pg_code 81 1 = some (.getfield 31, 3, 0, 2) := by decide +kernel
theorem u_81_1 {a : Nat} {lv : am_L} {st : List Value} : am_W G (am_M G d) 81 K 1 lv (.ref a :: st) h nc ns = (f_gf G d 81 K 4 lv st h nc ns (h a) 0 2) := am_u e_81_1
theorem e_81_4 : pg_code 81 4 = some (.invokevirtual 113, 3, 11, 1) := by decide +kernel
theorem u_81_4 {a : Nat} {lv : am_L} {st : List Value} : am_W G (am_M G d) 81 K 4 lv (.ref a :: st) h nc ns = ((am_words st ≤ 8 ∧ nc + 0 ≤ 1 ∧ ns + 0 ≤ 6 ∧ f_rc (h a) 4) ∧ am_M G d 11 [.ref a] h (am_back 81 K (am_W G (am_M G d) 81 K) 11 4 lv st nc ns)) := (am_u e_81_4).trans (f_iv_eq (a := a) (G := G) (d := d) (k := 81) (K := K) (pc := 4) (lv := lv) (st := st) (h := h) (nc := nc) (ns := ns) (x := 11) (X := am_W G (am_M G d) 81 K) [] (by decide) rfl)
theorem e_81_7 : pg_code 81 7 = some (.iload_n 1, 1, 0, 0) := by decide +kernel
theorem u_81_7 {a : Int32} {z0 : Option Value} {lv : am_L} {st : List Value} : am_W G (am_M G d) 81 K 7 (z0 :: some (.int a) :: lv) st h nc ns = (am_W G (am_M G d) 81 K 8 (z0 :: some (.int a) :: lv) (.int a :: st) h nc ns) := am_u e_81_7
theorem e_81_8 : pg_code 81 8 = some (.ifCond .lt 14, 3, 22, 0) := by decide +kernel
theorem u_81_8 {a : Int32} {lv : am_L} {st : List Value} : am_W G (am_M G d) 81 K 8 lv (.int a :: st) h nc ns = (am_br (a < 0) (am_W G (am_M G d) 81 K 22 lv st h nc ns) (am_W G (am_M G d) 81 K 11 lv st h nc ns)) := am_u e_81_8
theorem e_81_11 : pg_code 81 11 = some (.iload_n 1, 1, 0, 0) := by decide +kernel
theorem u_81_11 {a : Int32} {z0 : Option Value} {lv : am_L} {st : List Value} : am_W G (am_M G d) 81 K 11 (z0 :: some (.int a) :: lv) st h nc ns = (am_W G (am_M G d) 81 K 12 (z0 :: some (.int a) :: lv) (.int a :: st) h nc ns) := am_u e_81_11
theorem e_81_12 : pg_code 81 12 = some (.aload_n 0, 1, 0, 0) := by decide +kernel
theorem u_81_12 {a : Nat} {lv : am_L} {st : List Value} : am_W G (am_M G d) 81 K 12 (some (.ref a) :: lv) st h nc ns = (am_W G (am_M G d) 81 K 13 (some (.ref a) :: lv) (.ref a :: st) h nc ns) := am_u e_81_12
theorem e_81_13 : pg_code 81 13 = some (.getfield 31, 3, 0, 2) := by decide +kernel
theorem u_81_13 {a : Nat} {lv : am_L} {st : List Value} : am_W G (am_M G d) 81 K 13 lv (.ref a :: st) h nc ns = (f_gf G d 81 K 16 lv st h nc ns (h a) 0 2) := am_u e_81_13
theorem e_81_16 : pg_code 81 16 = some (.getfield 207, 3, 4, 7) := by decide +kernel
theorem u_81_16 {a : Nat} {lv : am_L} {st : List Value} : am_W G (am_M G d) 81 K 16 lv (.ref a :: st) h nc ns = (f_gf G d 81 K 19 lv st h nc ns (h a) 4 7) := am_u e_81_16
theorem e_81_19 : pg_code 81 19 = some (.if_icmp .lt 13, 3, 32, 0) := by decide +kernel
theorem u_81_19 {a b : Int32} {lv : am_L} {st : List Value} : am_W G (am_M G d) 81 K 19 lv (.int b :: .int a :: st) h nc ns = (am_br (a < b) (am_W G (am_M G d) 81 K 32 lv st h nc ns) (am_W G (am_M G d) 81 K 22 lv st h nc ns)) := am_u e_81_19
theorem e_81_22 : pg_code 81 22 = some (.new 87, 3, 502, 0) := by decide +kernel
theorem u_81_22 {lv : am_L} {st : List Value} : am_W G (am_M G d) 81 K 22 lv st h nc ns = ((nc + 1 ≤ 1 ∧ ns + 6 ≤ 6 ∧ am_words st ≤ 8) ∧ K (.inr 502) h) := am_u e_81_22
theorem e_81_32 : pg_code 81 32 = some (.aload_n 0, 1, 0, 0) := by decide +kernel
theorem u_81_32 {a : Nat} {lv : am_L} {st : List Value} : am_W G (am_M G d) 81 K 32 (some (.ref a) :: lv) st h nc ns = (am_W G (am_M G d) 81 K 33 (some (.ref a) :: lv) (.ref a :: st) h nc ns) := am_u e_81_32
theorem e_81_33 : pg_code 81 33 = some (.getfield 31, 3, 0, 2) := by decide +kernel
theorem u_81_33 {a : Nat} {lv : am_L} {st : List Value} : am_W G (am_M G d) 81 K 33 lv (.ref a :: st) h nc ns = (f_gf G d 81 K 36 lv st h nc ns (h a) 0 2) := am_u e_81_33
theorem e_81_36 : pg_code 81 36 = some (.getfield 212, 3, 4, 6) := by decide +kernel
theorem u_81_36 {a : Nat} {lv : am_L} {st : List Value} : am_W G (am_M G d) 81 K 36 lv (.ref a :: st) h nc ns = (f_gf G d 81 K 39 lv st h nc ns (h a) 4 6) := am_u e_81_36
theorem e_81_39 : pg_code 81 39 = some (.iload_n 1, 1, 0, 0) := by decide +kernel
theorem u_81_39 {a : Int32} {z0 : Option Value} {lv : am_L} {st : List Value} : am_W G (am_M G d) 81 K 39 (z0 :: some (.int a) :: lv) st h nc ns = (am_W G (am_M G d) 81 K 40 (z0 :: some (.int a) :: lv) (.int a :: st) h nc ns) := am_u e_81_39
theorem e_81_40 : pg_code 81 40 = some (.iaload, 1, 0, 0) := by decide +kernel
theorem u_81_40 {a : Nat} {j : Int32} {lv : am_L} {st : List Value} : am_W G (am_M G d) 81 K 40 lv (.int j :: .ref a :: st) h nc ns = (f_ia G d 81 K 41 lv st h nc ns (h a) .int j) := am_u e_81_40
theorem e_81_41 : pg_code 81 41 = some (.ireturn, 1, 0, 0) := by decide +kernel
theorem u_81_41 {a : Int32} {lv : am_L} : am_W G (am_M G d) 81 K 41 lv [.int a] h nc ns = (K (.inl (some (.int a))) h) := (am_u e_81_41).trans (f_t ⟨rfl, .int, rfl, rfl⟩)
end Steps

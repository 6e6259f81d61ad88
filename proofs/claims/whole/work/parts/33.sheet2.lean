-- what a Sheet answers, and what it does to one cell
theorem lc0 {a b : Int64} : (lg_cmp a b = 0) = (a = b) := propext (lg_cmp_eq a b)
def opnd (m : Nat) (c x : Int32) : Prop := (x < 0 ∧ -1 - x < nI m) ∨ (¬ x < 0 ∧ x < c)
def okop (m : Nat) (c o a b : Int32) : Prop := (¬ o < 0 ∧ o < 6) ∧ opnd m c a ∧ opnd m c b
section Sh2
variable {G : am_G} {d : Nat} {K : am_K} {h : am_H} {ad : Nat → Nat} {s f t n m w : Nat} {z : Sl}
theorem c_isThere {x c : Int32} (ho : h (ad s) = SHo ad f t m) (hy : opnd m c x → K (.inl (some (.int 1))) h) (hn : ¬ opnd m c x → K (.inl (some (.int 0))) h) : am_M G (d + 1) 44 [.ref (ad s), .int x, .int c] h K := by
  refine n_44 ?_
  simp only [u_44_0, u_44_1, u_44_4, u_44_5, u_44_6, u_44_7, u_44_8, u_44_11, u_44_14, u_44_15, u_44_18, u_44_19, u_44_22, u_44_23, u_44_24, u_44_27, u_44_28, u_44_31, u_44_32, f_gf_some, f_gv_some, f_pf_some, f_ia_some, f_la_some, f_aa_some, f_is_some, f_ls_some, f_rc_some, f_at0, f_atS, f_st_0, f_st_1i, f_st_1r, f_st_1l, f_st_1n, f_st_S, f_s2_0, f_s2_1i, f_s2_1r, f_s2_1l, f_s2_1n, f_s2_S, true_and, and_true, List.set_cons_zero, List.set_cons_succ, List.length_cons, List.length_nil, Nat.reduceAdd, Nat.reduceEqDiff, reduceIte, Nat.left_eq_add, Nat.add_eq_left, Nat.reduceLT, ho, SHo, nz_0, nz_1]
  refine ⟨fun c1 => ⟨fun c2 => hn ?_, fun c2 => hy (Or.inr ⟨Int32.not_lt.mpr c1, Int32.not_le.mp c2⟩)⟩, fun c1 => ⟨fun c2 => hn ?_, fun c2 => hy (Or.inl ⟨Int32.not_le.mp c1, Int32.not_le.mp c2⟩)⟩⟩
  · rintro (⟨q, -⟩ | ⟨-, q⟩)
    · exact absurd c1 (Int32.not_le.mpr q)
    · exact absurd c2 (Int32.not_le.mpr q)
  · rintro (⟨-, q⟩ | ⟨q, -⟩)
    · exact absurd c2 (Int32.not_le.mpr q)
    · exact q (Int32.not_le.mp c1)
theorem c_allows {o a b c : Int32} (ho : h (ad s) = SHo ad f t m) (hy : okop m c o a b → K (.inl (some (.int 1))) h) (hn : ¬ okop m c o a b → K (.inl (some (.int 0))) h) : am_M G (d + 2) 43 [.ref (ad s), .int o, .int a, .int b, .int c] h K := by
  refine n_43 (d := d + 1) ?_
  simp only [u_43_0, u_43_1, u_43_4, u_43_5, u_43_7, u_43_10, u_43_11, u_43_12, u_43_14, u_43_17, u_43_20, u_43_21, u_43_22, u_43_24, u_43_27, u_43_30, u_43_31, u_43_34, u_43_35, f_gf_some, f_gv_some, f_pf_some, f_ia_some, f_la_some, f_aa_some, f_is_some, f_ls_some, f_rc_some, f_at0, f_atS, f_st_0, f_st_1i, f_st_1r, f_st_1l, f_st_1n, f_st_S, f_s2_0, f_s2_1i, f_s2_1r, f_s2_1l, f_s2_1n, f_s2_S, true_and, and_true, List.set_cons_zero, List.set_cons_succ, List.length_cons, List.length_nil, Nat.reduceAdd, Nat.reduceEqDiff, reduceIte, Nat.left_eq_add, Nat.add_eq_left, Nat.reduceLT, ho, SHo, nz_0, nz_1]
  refine ⟨fun c1 => hn (fun q => q.1.1 c1), fun c1 => ⟨fun c2 => hn (fun q => absurd c2 (Int32.not_le.mpr q.1.2)), fun c2 => ⟨by decide, c_isThere ho (fun c3 => ?_) (fun c3 => ?_)⟩⟩⟩
  · show am_W G (am_M G (d + 1)) 43 K _ _ _ _ _ _
    simp only [u_43_0, u_43_1, u_43_4, u_43_5, u_43_7, u_43_10, u_43_11, u_43_12, u_43_14, u_43_17, u_43_20, u_43_21, u_43_22, u_43_24, u_43_27, u_43_30, u_43_31, u_43_34, u_43_35, f_gf_some, f_gv_some, f_pf_some, f_ia_some, f_la_some, f_aa_some, f_is_some, f_ls_some, f_rc_some, f_at0, f_atS, f_st_0, f_st_1i, f_st_1r, f_st_1l, f_st_1n, f_st_S, f_s2_0, f_s2_1i, f_s2_1r, f_s2_1l, f_s2_1n, f_s2_S, true_and, and_true, List.set_cons_zero, List.set_cons_succ, List.length_cons, List.length_nil, Nat.reduceAdd, Nat.reduceEqDiff, reduceIte, Nat.left_eq_add, Nat.add_eq_left, Nat.reduceLT, ho, SHo, nz_0, nz_1, Option.toList, List.cons_append, List.nil_append]
    refine am_br_f (by decide) ⟨by decide, c_isThere ho (fun c4 => ?_) (fun c4 => ?_)⟩
    · show am_W G (am_M G (d + 1)) 43 K _ _ _ _ _ _
      simp only [u_43_0, u_43_1, u_43_4, u_43_5, u_43_7, u_43_10, u_43_11, u_43_12, u_43_14, u_43_17, u_43_20, u_43_21, u_43_22, u_43_24, u_43_27, u_43_30, u_43_31, u_43_34, u_43_35, f_gf_some, f_gv_some, f_pf_some, f_ia_some, f_la_some, f_aa_some, f_is_some, f_ls_some, f_rc_some, f_at0, f_atS, f_st_0, f_st_1i, f_st_1r, f_st_1l, f_st_1n, f_st_S, f_s2_0, f_s2_1i, f_s2_1r, f_s2_1l, f_s2_1n, f_s2_S, true_and, and_true, List.set_cons_zero, List.set_cons_succ, List.length_cons, List.length_nil, Nat.reduceAdd, Nat.reduceEqDiff, reduceIte, Nat.left_eq_add, Nat.add_eq_left, Nat.reduceLT, nz_0, nz_1, Option.toList, List.cons_append, List.nil_append]
      exact am_br_f (by decide) (hy ⟨⟨c1, Int32.not_le.mp c2⟩, c3, c4⟩)
    · show am_W G (am_M G (d + 1)) 43 K _ _ _ _ _ _
      simp only [u_43_0, u_43_1, u_43_4, u_43_5, u_43_7, u_43_10, u_43_11, u_43_12, u_43_14, u_43_17, u_43_20, u_43_21, u_43_22, u_43_24, u_43_27, u_43_30, u_43_31, u_43_34, u_43_35, f_gf_some, f_gv_some, f_pf_some, f_ia_some, f_la_some, f_aa_some, f_is_some, f_ls_some, f_rc_some, f_at0, f_atS, f_st_0, f_st_1i, f_st_1r, f_st_1l, f_st_1n, f_st_S, f_s2_0, f_s2_1i, f_s2_1r, f_s2_1l, f_s2_1n, f_s2_S, true_and, and_true, List.set_cons_zero, List.set_cons_succ, List.length_cons, List.length_nil, Nat.reduceAdd, Nat.reduceEqDiff, reduceIte, Nat.left_eq_add, Nat.add_eq_left, Nat.reduceLT, nz_0, nz_1, Option.toList, List.cons_append, List.nil_append]
      exact am_br_t (by decide) (hn (fun q => c4 q.2.2))
  · show am_W G (am_M G (d + 1)) 43 K _ _ _ _ _ _
    simp only [u_43_0, u_43_1, u_43_4, u_43_5, u_43_7, u_43_10, u_43_11, u_43_12, u_43_14, u_43_17, u_43_20, u_43_21, u_43_22, u_43_24, u_43_27, u_43_30, u_43_31, u_43_34, u_43_35, f_gf_some, f_gv_some, f_pf_some, f_ia_some, f_la_some, f_aa_some, f_is_some, f_ls_some, f_rc_some, f_at0, f_atS, f_st_0, f_st_1i, f_st_1r, f_st_1l, f_st_1n, f_st_S, f_s2_0, f_s2_1i, f_s2_1r, f_s2_1l, f_s2_1n, f_s2_S, true_and, and_true, List.set_cons_zero, List.set_cons_succ, List.length_cons, List.length_nil, Nat.reduceAdd, Nat.reduceEqDiff, reduceIte, Nat.left_eq_add, Nat.add_eq_left, Nat.reduceLT, ho, SHo, nz_0, nz_1, Option.toList, List.cons_append, List.nil_append]
    exact am_br_t (by decide) (hn (fun q => c3 q.2.1))
/-- an operand cell that is not good -/
def bad (z : Sl) (x : Int32) : Prop := ¬ x < 0 ∧ ¬ sl_st z x.toNatClampNeg = 0
theorem c_isBad {x : Int32} (hS : SH ad h s f t n m w z) (hx : ¬ x < 0 → vp_in x 150) (hy : bad z x → K (.inl (some (.int 1))) h) (hn : ¬ bad z x → K (.inl (some (.int 0))) h) : am_M G (d + 1) 23 [.ref (ad s), .int x] h K := by
  refine n_23 ?_
  simp only [u_23_0, u_23_1, u_23_4, u_23_5, u_23_8, u_23_9, u_23_10, u_23_13, u_23_14, u_23_17, u_23_18, f_gf_some, f_gv_some, f_pf_some, f_ia_some, f_la_some, f_aa_some, f_is_some, f_ls_some, f_rc_some, f_at0, f_atS, f_st_0, f_st_1i, f_st_1r, f_st_1l, f_st_1n, f_st_S, f_s2_0, f_s2_1i, f_s2_1r, f_s2_1l, f_s2_1n, f_s2_S, true_and, and_true, List.set_cons_zero, List.set_cons_succ, List.length_cons, List.length_nil, Nat.reduceAdd, Nat.reduceEqDiff, reduceIte, Nat.left_eq_add, Nat.add_eq_left, Nat.reduceLT, hS.2.2.2.1, SHo, hS.2.2.2.2.2.2.1, nz_0, nz_1]
  exact ⟨fun c1 => hn (fun q => q.1 c1), fun c1 => ⟨hx c1, fun c2 => hn (fun q => q.2 c2), fun c2 => hy ⟨c1, c2⟩⟩⟩
theorem c_hasBad {j : Nat} (hS : SH ad h s f t n m w z) (hj : j < 150) (ha : ¬ sl_a z j < 0 → vp_in (sl_a z j) 150) (hb : ¬ sl_b z j < 0 → vp_in (sl_b z j) 150) (hy : bad z (sl_a z j) ∨ bad z (sl_b z j) → K (.inl (some (.int 1))) h) (hn : ¬ (bad z (sl_a z j) ∨ bad z (sl_b z j)) → K (.inl (some (.int 0))) h) : am_M G (d + 2) 22 [.ref (ad s), .int (nI j)] h K := by
  refine n_22 (d := d + 1) ?_
  have hv : vp_in (nI j) 150 := vp_in_nI hj (by decide)
  have hc : (nI j).toNatClampNeg = j := nI_clamp (by omega)
  simp only [u_22_0, u_22_1, u_22_2, u_22_5, u_22_8, u_22_9, u_22_10, u_22_13, u_22_16, u_22_17, u_22_18, u_22_21, u_22_24, u_22_25, u_22_26, u_22_29, u_22_32, u_22_33, u_22_36, u_22_37, f_gf_some, f_gv_some, f_pf_some, f_ia_some, f_la_some, f_aa_some, f_is_some, f_ls_some, f_rc_some, f_at0, f_atS, f_st_0, f_st_1i, f_st_1r, f_st_1l, f_st_1n, f_st_S, f_s2_0, f_s2_1i, f_s2_1r, f_s2_1l, f_s2_1n, f_s2_S, true_and, and_true, List.set_cons_zero, List.set_cons_succ, List.length_cons, List.length_nil, Nat.reduceAdd, Nat.reduceEqDiff, reduceIte, Nat.left_eq_add, Nat.add_eq_left, Nat.reduceLT, hS.2.2.2.1, SHo, hS.2.1.1, hS.2.1.2.2.1, hS.2.1.2.2.2, hv, hc, nz_0, nz_1]
  refine ⟨by decide, c_isBad hS ha (fun c1 => ?_) (fun c1 => ?_)⟩
  · show am_W G (am_M G (d + 1)) 22 K _ _ _ _ _ _
    simp only [u_22_0, u_22_1, u_22_2, u_22_5, u_22_8, u_22_9, u_22_10, u_22_13, u_22_16, u_22_17, u_22_18, u_22_21, u_22_24, u_22_25, u_22_26, u_22_29, u_22_32, u_22_33, u_22_36, u_22_37, f_gf_some, f_gv_some, f_pf_some, f_ia_some, f_la_some, f_aa_some, f_is_some, f_ls_some, f_rc_some, f_at0, f_atS, f_st_0, f_st_1i, f_st_1r, f_st_1l, f_st_1n, f_st_S, f_s2_0, f_s2_1i, f_s2_1r, f_s2_1l, f_s2_1n, f_s2_S, true_and, and_true, List.set_cons_zero, List.set_cons_succ, List.length_cons, List.length_nil, Nat.reduceAdd, Nat.reduceEqDiff, reduceIte, Nat.left_eq_add, Nat.add_eq_left, Nat.reduceLT, hS.2.2.2.1, SHo, hS.2.1.1, hS.2.1.2.2.1, hS.2.1.2.2.2, hv, hc, nz_0, nz_1, Option.toList, List.cons_append, List.nil_append]
    exact am_br_t (by decide) (hy (Or.inl c1))
  · show am_W G (am_M G (d + 1)) 22 K _ _ _ _ _ _
    simp only [u_22_0, u_22_1, u_22_2, u_22_5, u_22_8, u_22_9, u_22_10, u_22_13, u_22_16, u_22_17, u_22_18, u_22_21, u_22_24, u_22_25, u_22_26, u_22_29, u_22_32, u_22_33, u_22_36, u_22_37, f_gf_some, f_gv_some, f_pf_some, f_ia_some, f_la_some, f_aa_some, f_is_some, f_ls_some, f_rc_some, f_at0, f_atS, f_st_0, f_st_1i, f_st_1r, f_st_1l, f_st_1n, f_st_S, f_s2_0, f_s2_1i, f_s2_1r, f_s2_1l, f_s2_1n, f_s2_S, true_and, and_true, List.set_cons_zero, List.set_cons_succ, List.length_cons, List.length_nil, Nat.reduceAdd, Nat.reduceEqDiff, reduceIte, Nat.left_eq_add, Nat.add_eq_left, Nat.reduceLT, hS.2.2.2.1, SHo, hS.2.1.1, hS.2.1.2.2.1, hS.2.1.2.2.2, hv, hc, nz_0, nz_1, Option.toList, List.cons_append, List.nil_append]
    refine am_br_f (by decide) ⟨by decide, c_isBad hS hb (fun c2 => ?_) (fun c2 => ?_)⟩
    · show am_W G (am_M G (d + 1)) 22 K _ _ _ _ _ _
      simp only [u_22_0, u_22_1, u_22_2, u_22_5, u_22_8, u_22_9, u_22_10, u_22_13, u_22_16, u_22_17, u_22_18, u_22_21, u_22_24, u_22_25, u_22_26, u_22_29, u_22_32, u_22_33, u_22_36, u_22_37, f_gf_some, f_gv_some, f_pf_some, f_ia_some, f_la_some, f_aa_some, f_is_some, f_ls_some, f_rc_some, f_at0, f_atS, f_st_0, f_st_1i, f_st_1r, f_st_1l, f_st_1n, f_st_S, f_s2_0, f_s2_1i, f_s2_1r, f_s2_1l, f_s2_1n, f_s2_S, true_and, and_true, List.set_cons_zero, List.set_cons_succ, List.length_cons, List.length_nil, Nat.reduceAdd, Nat.reduceEqDiff, reduceIte, Nat.left_eq_add, Nat.add_eq_left, Nat.reduceLT, nz_0, nz_1, Option.toList, List.cons_append, List.nil_append]
      exact am_br_f (by decide) (hy (Or.inr c2))
    · show am_W G (am_M G (d + 1)) 22 K _ _ _ _ _ _
      simp only [u_22_0, u_22_1, u_22_2, u_22_5, u_22_8, u_22_9, u_22_10, u_22_13, u_22_16, u_22_17, u_22_18, u_22_21, u_22_24, u_22_25, u_22_26, u_22_29, u_22_32, u_22_33, u_22_36, u_22_37, f_gf_some, f_gv_some, f_pf_some, f_ia_some, f_la_some, f_aa_some, f_is_some, f_ls_some, f_rc_some, f_at0, f_atS, f_st_0, f_st_1i, f_st_1r, f_st_1l, f_st_1n, f_st_S, f_s2_0, f_s2_1i, f_s2_1r, f_s2_1l, f_s2_1n, f_s2_S, true_and, and_true, List.set_cons_zero, List.set_cons_succ, List.length_cons, List.length_nil, Nat.reduceAdd, Nat.reduceEqDiff, reduceIte, Nat.left_eq_add, Nat.add_eq_left, Nat.reduceLT, nz_0, nz_1, Option.toList, List.cons_append, List.nil_append]
      exact am_br_t (by decide) (hn (fun q => q.elim c1 c2))
/-- an operand's number -/
def nof (z : Sl) (x : Int32) : Int64 := if x < 0 then sl_src z (-1 - x).toNatClampNeg else sl_num z x.toNatClampNeg
theorem c_numberOf {x : Int32} (hS : SH ad h s f t n m w z) (hx : ¬ x < 0 → vp_in x 150) (hx2 : x < 0 → vp_in (-1 - x) 60) (hk : K (.inl (some (.long (nof z x)))) h) : am_M G (d + 1) 26 [.ref (ad s), .int x] h K := by
  refine n_26 ?_
  simp only [u_26_0, u_26_1, u_26_4, u_26_5, u_26_8, u_26_9, u_26_10, u_26_11, u_26_12, u_26_15, u_26_16, u_26_19, u_26_20, u_26_21, f_gf_some, f_gv_some, f_pf_some, f_ia_some, f_la_some, f_aa_some, f_is_some, f_ls_some, f_rc_some, f_at0, f_atS, f_st_0, f_st_1i, f_st_1r, f_st_1l, f_st_1n, f_st_S, f_s2_0, f_s2_1i, f_s2_1r, f_s2_1l, f_s2_1n, f_s2_S, true_and, and_true, List.set_cons_zero, List.set_cons_succ, List.length_cons, List.length_nil, Nat.reduceAdd, Nat.reduceEqDiff, reduceIte, Nat.left_eq_add, Nat.add_eq_left, Nat.reduceLT, hS.2.2.2.1, SHo, hS.2.2.2.2.1, hS.2.2.2.2.2.2.2.1]
  unfold nof at hk
  refine ⟨fun c1 => ⟨hx (Int32.not_lt.mpr c1), ?_⟩, fun c1 => ⟨hx2 (Int32.not_le.mp c1), ?_⟩⟩
  · rw [if_neg (Int32.not_lt.mpr c1)] at hk; exact hk
  · rw [if_pos (Int32.not_le.mp c1)] at hk; exact hk
/-- an op's number -/
def calcv (o : Int32) (a b : Int64) : Int64 := if o = 0 then a + b else if o = 1 then a - b else if o = 2 then a * b else if o = 3 then (if b = 0 then 0 else a / b) else if o = 4 then (if b < a then a else b) else if a = 0 then b else a
theorem tsw30 (o : Int32) : am_tsw 67 0 4 #[35, 39, 43, 47, 61] 1 o = if o = 0 then 36 else if o = 1 then 40 else if o = 2 then 44 else if o = 3 then 48 else if o = 4 then 62 else 68 := by
  by_cases h0 : o = 0
  · subst h0; decide
  by_cases h1 : o = 1
  · subst h1; decide
  by_cases h2 : o = 2
  · subst h2; decide
  by_cases h3 : o = 3
  · subst h3; decide
  by_cases h4 : o = 4
  · subst h4; decide
  rw [if_neg h0, if_neg h1, if_neg h2, if_neg h3, if_neg h4]
  unfold am_tsw
  rw [if_pos]
  · rfl
  · have e0 : o.toInt ≠ 0 := fun q => h0 (Int32.toInt_inj.mp q)
    have e1 : o.toInt ≠ 1 := fun q => h1 (Int32.toInt_inj.mp q)
    have e2 : o.toInt ≠ 2 := fun q => h2 (Int32.toInt_inj.mp q)
    have e3 : o.toInt ≠ 3 := fun q => h3 (Int32.toInt_inj.mp q)
    have e4 : o.toInt ≠ 4 := fun q => h4 (Int32.toInt_inj.mp q)
    omega
theorem c_calc {o : Int32} {a b : Int64} (hk : K (.inl (some (.long (calcv o a b)))) h) : am_M G (d + 1) 30 [.int o, .long a, .long b] h K := by
  refine n_30 ?_
  have hw : am_words [] ≤ 8 := by decide
  simp only [u_30_0, u_30_1, tsw30]
  unfold calcv at hk
  by_cases h0 : o = 0
  · rw [if_pos h0] at hk ⊢; simp only [u_30_0, u_30_36, u_30_37, u_30_38, u_30_39, u_30_40, u_30_41, u_30_42, u_30_43, u_30_44, u_30_45, u_30_46, u_30_47, u_30_48, u_30_49, u_30_50, u_30_51, u_30_54, u_30_55, u_30_58, u_30_59, u_30_60, u_30_61, u_30_62, u_30_63, u_30_64, u_30_67, u_30_68, u_30_69, u_30_70, u_30_71, u_30_74, u_30_75, u_30_78, u_30_79]; exact hk
  rw [if_neg h0] at hk ⊢
  by_cases h1 : o = 1
  · rw [if_pos h1] at hk ⊢; simp only [u_30_0, u_30_36, u_30_37, u_30_38, u_30_39, u_30_40, u_30_41, u_30_42, u_30_43, u_30_44, u_30_45, u_30_46, u_30_47, u_30_48, u_30_49, u_30_50, u_30_51, u_30_54, u_30_55, u_30_58, u_30_59, u_30_60, u_30_61, u_30_62, u_30_63, u_30_64, u_30_67, u_30_68, u_30_69, u_30_70, u_30_71, u_30_74, u_30_75, u_30_78, u_30_79]; exact hk
  rw [if_neg h1] at hk ⊢
  by_cases h2 : o = 2
  · rw [if_pos h2] at hk ⊢; simp only [u_30_0, u_30_36, u_30_37, u_30_38, u_30_39, u_30_40, u_30_41, u_30_42, u_30_43, u_30_44, u_30_45, u_30_46, u_30_47, u_30_48, u_30_49, u_30_50, u_30_51, u_30_54, u_30_55, u_30_58, u_30_59, u_30_60, u_30_61, u_30_62, u_30_63, u_30_64, u_30_67, u_30_68, u_30_69, u_30_70, u_30_71, u_30_74, u_30_75, u_30_78, u_30_79]; exact hk
  rw [if_neg h2] at hk ⊢
  by_cases h3 : o = 3
  · rw [if_pos h3] at hk ⊢
    simp only [u_30_0, u_30_36, u_30_37, u_30_38, u_30_39, u_30_40, u_30_41, u_30_42, u_30_43, u_30_44, u_30_45, u_30_46, u_30_47, u_30_48, u_30_49, u_30_50, u_30_51, u_30_54, u_30_55, u_30_58, u_30_59, u_30_60, u_30_61, u_30_62, u_30_63, u_30_64, u_30_67, u_30_68, u_30_69, u_30_70, u_30_71, u_30_74, u_30_75, u_30_78, u_30_79, lc0]
    refine ⟨fun c => ⟨c, ?_⟩, fun c => ?_⟩
    · rw [if_neg c] at hk; exact hk
    · rw [if_pos (Decidable.not_not.mp c)] at hk; exact hk
  rw [if_neg h3] at hk ⊢
  by_cases h4 : o = 4
  · rw [if_pos h4] at hk ⊢; simp only [u_30_0, u_30_36, u_30_37, u_30_38, u_30_39, u_30_40, u_30_41, u_30_42, u_30_43, u_30_44, u_30_45, u_30_46, u_30_47, u_30_48, u_30_49, u_30_50, u_30_51, u_30_54, u_30_55, u_30_58, u_30_59, u_30_60, u_30_61, u_30_62, u_30_63, u_30_64, u_30_67, u_30_68, u_30_69, u_30_70, u_30_71, u_30_74, u_30_75, u_30_78, u_30_79, hw, true_and]; exact hk
  rw [if_neg h4] at hk ⊢
  simp only [u_30_0, u_30_36, u_30_37, u_30_38, u_30_39, u_30_40, u_30_41, u_30_42, u_30_43, u_30_44, u_30_45, u_30_46, u_30_47, u_30_48, u_30_49, u_30_50, u_30_51, u_30_54, u_30_55, u_30_58, u_30_59, u_30_60, u_30_61, u_30_62, u_30_63, u_30_64, u_30_67, u_30_68, u_30_69, u_30_70, u_30_71, u_30_74, u_30_75, u_30_78, u_30_79, lc0]
  refine ⟨fun c => ?_, fun c => ?_⟩
  · rw [if_pos c] at hk; exact hk
  · rw [if_neg c] at hk; exact hk
/-- a cell with good operands must be worked -/
def due (z : Sl) (j : Nat) : Prop := (¬ sl_st z j = 0 ∧ ¬ sl_st z j = 1) ∨ ¬ sl_told z j = sl_wt z j ∨ ¬ fsame (sl_o z) (sl_a z) (sl_b z) (sl_wo z) (sl_wa z) (sl_wb z) j ∨ ¬ nof z (sl_a z j) = sl_wf z j ∨ ¬ nof z (sl_b z j) = sl_ws z j
set_option maxHeartbeats 2000000 in
theorem c_isDue {j : Nat} (hS : SH ad h s f t n m w z) (hj : j < 150) (ha : ¬ sl_a z j < 0 → vp_in (sl_a z j) 150) (ha2 : sl_a z j < 0 → vp_in (-1 - sl_a z j) 60) (hb : ¬ sl_b z j < 0 → vp_in (sl_b z j) 150) (hb2 : sl_b z j < 0 → vp_in (-1 - sl_b z j) 60) (hy : due z j → K (.inl (some (.int 1))) h) (hn : ¬ due z j → K (.inl (some (.int 0))) h) : am_M G (d + 2) 24 [.ref (ad s), .int (nI j)] h K := by
  refine n_24 (d := d + 1) ?_
  have hv : vp_in (nI j) 150 := vp_in_nI hj (by decide)
  have hc : (nI j).toNatClampNeg = j := nI_clamp (by omega)
  obtain ⟨hP, hF, hW, h3, h4, h5, h6, h7, h8, h9, h10, h11, h12⟩ := id hS
  simp only [u_24_0, u_24_1, u_24_4, u_24_5, u_24_6, u_24_9, u_24_10, u_24_13, u_24_14, u_24_15, u_24_16, u_24_19, u_24_20, u_24_21, u_24_22, u_24_25, u_24_26, u_24_27, u_24_28, u_24_31, u_24_32, u_24_33, u_24_36, u_24_37, u_24_40, u_24_41, u_24_42, u_24_45, u_24_48, u_24_51, u_24_52, u_24_53, u_24_56, u_24_59, u_24_60, u_24_61, u_24_64, u_24_65, u_24_68, u_24_69, u_24_70, u_24_71, u_24_74, u_24_75, u_24_76, u_24_79, u_24_82, u_24_83, u_24_84, u_24_87, u_24_88, u_24_91, u_24_92, u_24_93, u_24_94, u_24_97, u_24_98, u_24_101, u_24_102, f_gf_some, f_gv_some, f_pf_some, f_ia_some, f_la_some, f_aa_some, f_is_some, f_ls_some, f_rc_some, f_at0, f_atS, f_st_0, f_st_1i, f_st_1r, f_st_1l, f_st_1n, f_st_S, f_s2_0, f_s2_1i, f_s2_1r, f_s2_1l, f_s2_1n, f_s2_S, true_and, and_true, List.set_cons_zero, List.set_cons_succ, List.length_cons, List.length_nil, Nat.reduceAdd, Nat.reduceEqDiff, reduceIte, Nat.left_eq_add, Nat.add_eq_left, Nat.reduceLT, h3, SHo, h5, h6, h8, hF.1, hW.1, hv, hc, nz_0, nz_1]
  have ha' : vp_in (nI j) 150 := hv
  have tl : sl_st z j = 0 ∨ sl_st z j = 1 → am_br (¬ sl_told z j = sl_wt z j) (K (.inl (some (.int 1))) h) ((am_words [] ≤ 8 ∧ 0 ≤ 0 ∧ 0 ≤ 0) ∧ am_M G (d + 1) 25 [.ref (ad f), .int (nI j), .ref (ad (t + 4))] h (am_back 24 K (am_W G (am_M G (d + 1)) 24 K) 25 45 [some (.ref (ad s)), some (.int (nI j))] [] 0 0)) := by
    intro hst
    refine ⟨fun c1 => hy (Or.inr (Or.inl c1)), fun c1 => ⟨by decide, c_isSame hF hW hj (fun c2 => ?_) (fun c2 => ?_)⟩⟩
    · (show am_W G (am_M G (d + 1)) 24 K _ _ _ _ _ _; simp only [u_24_0, u_24_1, u_24_4, u_24_5, u_24_6, u_24_9, u_24_10, u_24_13, u_24_14, u_24_15, u_24_16, u_24_19, u_24_20, u_24_21, u_24_22, u_24_25, u_24_26, u_24_27, u_24_28, u_24_31, u_24_32, u_24_33, u_24_36, u_24_37, u_24_40, u_24_41, u_24_42, u_24_45, u_24_48, u_24_51, u_24_52, u_24_53, u_24_56, u_24_59, u_24_60, u_24_61, u_24_64, u_24_65, u_24_68, u_24_69, u_24_70, u_24_71, u_24_74, u_24_75, u_24_76, u_24_79, u_24_82, u_24_83, u_24_84, u_24_87, u_24_88, u_24_91, u_24_92, u_24_93, u_24_94, u_24_97, u_24_98, u_24_101, u_24_102, f_gf_some, f_gv_some, f_pf_some, f_ia_some, f_la_some, f_aa_some, f_is_some, f_ls_some, f_rc_some, f_at0, f_atS, f_st_0, f_st_1i, f_st_1r, f_st_1l, f_st_1n, f_st_S, f_s2_0, f_s2_1i, f_s2_1r, f_s2_1l, f_s2_1n, f_s2_S, true_and, and_true, List.set_cons_zero, List.set_cons_succ, List.length_cons, List.length_nil, Nat.reduceAdd, Nat.reduceEqDiff, reduceIte, Nat.left_eq_add, Nat.add_eq_left, Nat.reduceLT, h3, SHo, h5, h6, h8, h9, h10, hF.1, hF.2.2.1, hF.2.2.2, hW.1, hv, hc, nz_0, nz_1, Option.toList, List.cons_append, List.nil_append])
      refine am_br_f (by decide) ⟨by decide, c_numberOf hS ha ha2 ?_⟩
      (show am_W G (am_M G (d + 1)) 24 K _ _ _ _ _ _; simp only [u_24_0, u_24_1, u_24_4, u_24_5, u_24_6, u_24_9, u_24_10, u_24_13, u_24_14, u_24_15, u_24_16, u_24_19, u_24_20, u_24_21, u_24_22, u_24_25, u_24_26, u_24_27, u_24_28, u_24_31, u_24_32, u_24_33, u_24_36, u_24_37, u_24_40, u_24_41, u_24_42, u_24_45, u_24_48, u_24_51, u_24_52, u_24_53, u_24_56, u_24_59, u_24_60, u_24_61, u_24_64, u_24_65, u_24_68, u_24_69, u_24_70, u_24_71, u_24_74, u_24_75, u_24_76, u_24_79, u_24_82, u_24_83, u_24_84, u_24_87, u_24_88, u_24_91, u_24_92, u_24_93, u_24_94, u_24_97, u_24_98, u_24_101, u_24_102, f_gf_some, f_gv_some, f_pf_some, f_ia_some, f_la_some, f_aa_some, f_is_some, f_ls_some, f_rc_some, f_at0, f_atS, f_st_0, f_st_1i, f_st_1r, f_st_1l, f_st_1n, f_st_S, f_s2_0, f_s2_1i, f_s2_1r, f_s2_1l, f_s2_1n, f_s2_S, true_and, and_true, List.set_cons_zero, List.set_cons_succ, List.length_cons, List.length_nil, Nat.reduceAdd, Nat.reduceEqDiff, reduceIte, Nat.left_eq_add, Nat.add_eq_left, Nat.reduceLT, h3, SHo, h5, h6, h8, h9, h10, hF.1, hF.2.2.1, hF.2.2.2, hW.1, hv, hc, nz_0, nz_1, lc0, Option.toList, List.cons_append, List.nil_append])
      refine ⟨fun c3 => hy (Or.inr (Or.inr (Or.inr (Or.inl c3)))), fun c3 => ⟨by decide, c_numberOf hS hb hb2 ?_⟩⟩
      (show am_W G (am_M G (d + 1)) 24 K _ _ _ _ _ _; simp only [u_24_0, u_24_1, u_24_4, u_24_5, u_24_6, u_24_9, u_24_10, u_24_13, u_24_14, u_24_15, u_24_16, u_24_19, u_24_20, u_24_21, u_24_22, u_24_25, u_24_26, u_24_27, u_24_28, u_24_31, u_24_32, u_24_33, u_24_36, u_24_37, u_24_40, u_24_41, u_24_42, u_24_45, u_24_48, u_24_51, u_24_52, u_24_53, u_24_56, u_24_59, u_24_60, u_24_61, u_24_64, u_24_65, u_24_68, u_24_69, u_24_70, u_24_71, u_24_74, u_24_75, u_24_76, u_24_79, u_24_82, u_24_83, u_24_84, u_24_87, u_24_88, u_24_91, u_24_92, u_24_93, u_24_94, u_24_97, u_24_98, u_24_101, u_24_102, f_gf_some, f_gv_some, f_pf_some, f_ia_some, f_la_some, f_aa_some, f_is_some, f_ls_some, f_rc_some, f_at0, f_atS, f_st_0, f_st_1i, f_st_1r, f_st_1l, f_st_1n, f_st_S, f_s2_0, f_s2_1i, f_s2_1r, f_s2_1l, f_s2_1n, f_s2_S, true_and, and_true, List.set_cons_zero, List.set_cons_succ, List.length_cons, List.length_nil, Nat.reduceAdd, Nat.reduceEqDiff, reduceIte, Nat.left_eq_add, Nat.add_eq_left, Nat.reduceLT, h3, SHo, h5, h6, h8, h9, h10, hF.1, hF.2.2.1, hF.2.2.2, hW.1, hv, hc, nz_0, nz_1, lc0, Option.toList, List.cons_append, List.nil_append])
      refine ⟨fun c4 => hn (fun q => ?_), fun c4 => hy (Or.inr (Or.inr (Or.inr (Or.inr c4))))⟩
      rcases q with q | q | q | q | q
      · exact hst.elim q.1 q.2
      · exact q (Decidable.not_not.mp c1)
      · exact q c2
      · exact q (Decidable.not_not.mp c3)
      · exact q c4
    · (show am_W G (am_M G (d + 1)) 24 K _ _ _ _ _ _; simp only [u_24_0, u_24_1, u_24_4, u_24_5, u_24_6, u_24_9, u_24_10, u_24_13, u_24_14, u_24_15, u_24_16, u_24_19, u_24_20, u_24_21, u_24_22, u_24_25, u_24_26, u_24_27, u_24_28, u_24_31, u_24_32, u_24_33, u_24_36, u_24_37, u_24_40, u_24_41, u_24_42, u_24_45, u_24_48, u_24_51, u_24_52, u_24_53, u_24_56, u_24_59, u_24_60, u_24_61, u_24_64, u_24_65, u_24_68, u_24_69, u_24_70, u_24_71, u_24_74, u_24_75, u_24_76, u_24_79, u_24_82, u_24_83, u_24_84, u_24_87, u_24_88, u_24_91, u_24_92, u_24_93, u_24_94, u_24_97, u_24_98, u_24_101, u_24_102, f_gf_some, f_gv_some, f_pf_some, f_ia_some, f_la_some, f_aa_some, f_is_some, f_ls_some, f_rc_some, f_at0, f_atS, f_st_0, f_st_1i, f_st_1r, f_st_1l, f_st_1n, f_st_S, f_s2_0, f_s2_1i, f_s2_1r, f_s2_1l, f_s2_1n, f_s2_S, true_and, and_true, List.set_cons_zero, List.set_cons_succ, List.length_cons, List.length_nil, Nat.reduceAdd, Nat.reduceEqDiff, reduceIte, Nat.left_eq_add, Nat.add_eq_left, Nat.reduceLT, h3, SHo, h5, h6, h8, h9, h10, hF.1, hF.2.2.1, hF.2.2.2, hW.1, hv, hc, nz_0, nz_1, Option.toList, List.cons_append, List.nil_append])
      exact am_br_t (by decide) (hy (Or.inr (Or.inr (Or.inl c2))))
  exact ⟨fun c => tl (Or.inl c), fun c => ⟨fun c2 => tl (Or.inr c2), fun c2 => hy (Or.inl ⟨c, c2⟩)⟩⟩
end Sh2

-- the class's Formulas: its object at place f, its three rows behind it
def am_inj (ad : Nat → Nat) : Prop := ∀ i j : Nat, (ad i = ad j) = (i = j)
def FO (ad : Nat → Nat) (h : am_H) (f n : Nat) (o a b : Nat → Int32) : Prop :=
  h (ad f) = some (.inr (2, [.ref (ad (f + 1)), .ref (ad (f + 2)), .ref (ad (f + 3)), .int (nI n)])) ∧ h (ad (f + 1)) = some (.inl (.int, 150, .inl o)) ∧ h (ad (f + 2)) = some (.inl (.int, 150, .inl a)) ∧ h (ad (f + 3)) = some (.inl (.int, 150, .inl b))
theorem am_br_t {c A B : Prop} (hc : c) (a : A) : am_br c A B := ⟨fun _ => a, fun h => absurd hc h⟩
theorem am_br_f {c A B : Prop} (hc : ¬ c) (b : B) : am_br c A B := ⟨fun h => absurd h hc, fun _ => b⟩
theorem nz_0 : narrow .boolean (.int 0) = .int 0 := by decide
theorem nz_1 : narrow .boolean (.int 1) = .int 1 := by decide
def FO_put (ad : Nat → Nat) (h : am_H) (f : Nat) (o a b : Nat → Int32) (j : Nat) (x y z : Int32) : am_H :=
  am_set (am_set (am_set h (ad (f + 1)) (.inl (.int, 150, .inl (upd o j x)))) (ad (f + 2)) (.inl (.int, 150, .inl (upd a j y)))) (ad (f + 3)) (.inl (.int, 150, .inl (upd b j z)))
set_option maxHeartbeats 1000000 in
theorem c_put {G : am_G} {d : Nat} {K : am_K} {h : am_H} {ad : Nat → Nat} (hi : am_inj ad) {f n j : Nat} {o a b : Nat → Int32} {x y z : Int32} (hF : FO ad h f n o a b) (hj : j < 150)
    (hk : K (.inl (some (.int (if o j = x ∧ a j = y ∧ b j = z then 0 else 1)))) (FO_put ad h f o a b j x y z)) : am_M G (d + 1) 29 [.ref (ad f), .int (nI j), .int x, .int y, .int z] h K := by
  refine n_29 ?_
  obtain ⟨h1, h2, h3, h4⟩ := hF
  have hv : vp_in (nI j) 150 := vp_in_nI hj (by decide)
  have hc : (nI j).toNatClampNeg = j := nI_clamp (by omega)
  unfold FO_put at hk
  simp only [u_29_0, u_29_1, u_29_4, u_29_5, u_29_6, u_29_7, u_29_10, u_29_11, u_29_14, u_29_15, u_29_16, u_29_17, u_29_20, u_29_21, u_29_24, u_29_25, u_29_26, u_29_28, u_29_31, u_29_32, u_29_35, u_29_36, u_29_38, u_29_39, u_29_42, u_29_43, u_29_44, u_29_45, u_29_46, u_29_49, u_29_50, u_29_51, u_29_52, u_29_53, u_29_56, u_29_57, u_29_59, u_29_60, u_29_62, f_gf_some, f_gv_some, f_pf_some, f_ia_some, f_la_some, f_aa_some, f_is_some, f_ls_some, f_rc_some, f_at0, f_atS, f_st_0, f_st_1i, f_st_1r, f_st_1l, f_st_1n, f_st_S, f_s2_0, f_s2_1i, f_s2_1r, f_s2_1l, f_s2_1n, f_s2_S, true_and, and_true, List.set_cons_zero, List.set_cons_succ, List.length_cons, List.length_nil, Nat.reduceAdd, Nat.reduceEqDiff, reduceIte, Nat.left_eq_add, Nat.add_eq_left, Nat.reduceLT, h1, h2, h3, h4, hv, hc, f_set, hi f, hi (f + 1), hi (f + 2), hi (f + 3), nz_0, nz_1]
  refine ⟨fun c => by rw [if_neg (fun q => c q.1)] at hk; exact hk, fun c => ⟨fun c2 => by rw [if_neg (fun q => c2 q.2.1)] at hk; exact hk, fun c2 => ⟨fun c3 => ?_, fun c3 => by rw [if_neg (fun q => c3 q.2.2)] at hk; exact hk⟩⟩⟩
  rw [if_pos ⟨Decidable.not_not.mp c, Decidable.not_not.mp c2, c3⟩] at hk
  exact hk
def fsame (o a b o' a' b' : Nat → Int32) (j : Nat) : Prop := o j = o' j ∧ a j = a' j ∧ b j = b' j
set_option maxHeartbeats 1000000 in
theorem c_isSame {G : am_G} {d : Nat} {K : am_K} {h : am_H} {ad : Nat → Nat} {f f' n n' j : Nat} {o a b o' a' b' : Nat → Int32} (hF : FO ad h f n o a b) (hF' : FO ad h f' n' o' a' b') (hj : j < 150)
    (hy : fsame o a b o' a' b' j → K (.inl (some (.int 1))) h) (hn : ¬ fsame o a b o' a' b' j → K (.inl (some (.int 0))) h) : am_M G (d + 1) 25 [.ref (ad f), .int (nI j), .ref (ad f')] h K := by
  refine n_25 ?_
  obtain ⟨h1, h2, h3, h4⟩ := hF
  obtain ⟨g1, g2, g3, g4⟩ := hF'
  have hv : vp_in (nI j) 150 := vp_in_nI hj (by decide)
  have hc : (nI j).toNatClampNeg = j := nI_clamp (by omega)
  simp only [u_25_0, u_25_1, u_25_4, u_25_5, u_25_6, u_25_7, u_25_10, u_25_11, u_25_12, u_25_15, u_25_16, u_25_19, u_25_20, u_25_21, u_25_22, u_25_25, u_25_26, u_25_27, u_25_30, u_25_31, u_25_34, u_25_35, u_25_36, u_25_37, u_25_40, u_25_41, u_25_42, u_25_45, u_25_46, u_25_49, u_25_50, f_gf_some, f_gv_some, f_pf_some, f_ia_some, f_la_some, f_aa_some, f_is_some, f_ls_some, f_rc_some, f_at0, f_atS, f_st_0, f_st_1i, f_st_1r, f_st_1l, f_st_1n, f_st_S, f_s2_0, f_s2_1i, f_s2_1r, f_s2_1l, f_s2_1n, f_s2_S, true_and, and_true, List.set_cons_zero, List.set_cons_succ, List.length_cons, List.length_nil, Nat.reduceAdd, Nat.reduceEqDiff, reduceIte, Nat.left_eq_add, Nat.add_eq_left, Nat.reduceLT, h1, h2, h3, h4, g1, g2, g3, g4, hv, hc, nz_0, nz_1]
  exact ⟨fun c => hn (fun q => c q.1), fun c => ⟨fun c2 => hn (fun q => c2 q.2.1), fun c2 => ⟨fun c3 => hn (fun q => c3 q.2.2), fun c3 => hy ⟨Decidable.not_not.mp c, Decidable.not_not.mp c2, Decidable.not_not.mp c3⟩⟩⟩⟩
set_option maxHeartbeats 1000000 in
theorem c_takeOne {G : am_G} {d : Nat} {K : am_K} {h : am_H} {ad : Nat → Nat} (hi : am_inj ad) {f f' n n' j : Nat} {o a b o' a' b' : Nat → Int32} (hF : FO ad h f n o a b) (hF' : FO ad h f' n' o' a' b') (hj : j < 150)
    (hk : K (.inl none) (FO_put ad h f o a b j (o' j) (a' j) (b' j))) : am_M G (d + 2) 28 [.ref (ad f), .int (nI j), .ref (ad f')] h K := by
  refine n_28 (d := d + 1) ?_
  obtain ⟨g1, g2, g3, g4⟩ := hF'
  have hv : vp_in (nI j) 150 := vp_in_nI hj (by decide)
  have hc : (nI j).toNatClampNeg = j := nI_clamp (by omega)
  simp only [u_28_0, u_28_1, u_28_2, u_28_3, u_28_6, u_28_7, u_28_8, u_28_9, u_28_12, u_28_13, u_28_14, u_28_15, u_28_18, u_28_19, u_28_20, u_28_23, u_28_24, f_gf_some, f_gv_some, f_pf_some, f_ia_some, f_la_some, f_aa_some, f_is_some, f_ls_some, f_rc_some, f_at0, f_atS, f_st_0, f_st_1i, f_st_1r, f_st_1l, f_st_1n, f_st_S, f_s2_0, f_s2_1i, f_s2_1r, f_s2_1l, f_s2_1n, f_s2_S, true_and, and_true, List.set_cons_zero, List.set_cons_succ, List.length_cons, List.length_nil, Nat.reduceAdd, Nat.reduceEqDiff, reduceIte, Nat.left_eq_add, Nat.add_eq_left, Nat.reduceLT, hF.1, g1, g2, g3, g4, hv, hc]
  refine ⟨by decide, c_put hi hF hj ?_⟩
  show am_W G (am_M G (d + 1)) 28 K _ _ _ _ _ _
  simp only [u_28_0, u_28_1, u_28_2, u_28_3, u_28_6, u_28_7, u_28_8, u_28_9, u_28_12, u_28_13, u_28_14, u_28_15, u_28_18, u_28_19, u_28_20, u_28_23, u_28_24, f_gf_some, f_gv_some, f_pf_some, f_ia_some, f_la_some, f_aa_some, f_is_some, f_ls_some, f_rc_some, f_at0, f_atS, f_st_0, f_st_1i, f_st_1r, f_st_1l, f_st_1n, f_st_S, f_s2_0, f_s2_1i, f_s2_1r, f_s2_1l, f_s2_1n, f_s2_S, true_and, and_true, List.set_cons_zero, List.set_cons_succ, List.length_cons, List.length_nil, Nat.reduceAdd, Nat.reduceEqDiff, reduceIte, Nat.left_eq_add, Nat.add_eq_left, Nat.reduceLT, Option.toList, List.cons_append, List.nil_append]
  exact hk

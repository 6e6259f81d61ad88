-- copies of rows
theorem s_ne {ad : Nat → Nat} (hi : am_inj ad) {h : am_H} {e : am_E} {p q : Nat} (hpq : p ≠ q) : am_set h (ad q) e (ad p) = h (ad p) := f_set_ne _ _ (by rw [ne_eq, hi]; exact hpq)
theorem s_eq {ad : Nat → Nat} {h : am_H} {e : am_E} {q : Nat} : am_set h (ad q) e (ad q) = some e := f_set_same _ _ _
theorem FO.frame {ad : Nat → Nat} {h h' : am_H} {f n : Nat} {o a b : Nat → Int32} (hF : FO ad h f n o a b) (hk : ∀ p, f ≤ p → p < f + 4 → h' (ad p) = h (ad p)) : FO ad h' f n o a b :=
  ⟨(hk f (by omega) (by omega)).trans hF.1, (hk _ (by omega) (by omega)).trans hF.2.1, (hk _ (by omega) (by omega)).trans hF.2.2.1, (hk _ (by omega) (by omega)).trans hF.2.2.2⟩
theorem cl0 : (0 : Int32).toNatClampNeg = 0 := by decide
theorem fit_i (x : Int32) : fits .int (.int x) = true := rfl
set_option maxHeartbeats 1000000 in
theorem c_ftake {G : am_G} {d : Nat} {K : am_K} {h : am_H} {ad : Nat → Nat} (hi : am_inj ad) {f f' n n' : Nat} {o a b o' a' b' : Nat → Int32} (hF : FO ad h f n o a b) (hF' : FO ad h f' n' o' a' b') (hn : n' ≤ 150) (hd : f + 4 ≤ f' ∨ f' + 4 ≤ f)
    (hk : ∀ h', FO ad h' f n' (va_cpy o' o 0 0 n') (va_cpy a' a 0 0 n') (va_cpy b' b 0 0 n') → (∀ p, (p < f ∨ f + 4 ≤ p) → h' (ad p) = h (ad p)) → K (.inl none) h') : am_M G (d + 1) 10 [.ref (ad f), .ref (ad f')] h K := by
  refine n_10 ?_
  obtain ⟨h1, h2, h3, h4⟩ := hF
  obtain ⟨g1, g2, g3, g4⟩ := hF'
  have hw : am_words [] ≤ 8 := by decide
  have hc : (nI n').toNatClampNeg = n' := nI_clamp (by omega)
  have hp : ¬ nI n' < 0 := nI_pos (by omega)
  have hz : ¬ (0 : Int32) < 0 := by decide
  simp only [u_10_0, u_10_1, u_10_2, u_10_5, u_10_8, u_10_9, u_10_12, u_10_13, u_10_14, u_10_17, u_10_18, u_10_19, u_10_22, u_10_25, u_10_26, u_10_29, u_10_30, u_10_31, u_10_34, u_10_35, u_10_36, u_10_39, u_10_42, u_10_43, u_10_46, u_10_47, u_10_48, u_10_51, u_10_52, u_10_53, u_10_56, u_10_59, f_gf_some, f_gv_some, f_pf_some, f_ia_some, f_la_some, f_aa_some, f_is_some, f_ls_some, f_rc_some, f_at0, f_atS, f_st_0, f_st_1i, f_st_1r, f_st_1l, f_st_1n, f_st_S, f_s2_0, f_s2_1i, f_s2_1r, f_s2_1l, f_s2_1n, f_s2_S, true_and, and_true, List.set_cons_zero, List.set_cons_succ, List.length_cons, List.length_nil, Nat.reduceAdd, Nat.reduceEqDiff, reduceIte, Nat.left_eq_add, Nat.add_eq_left, Nat.reduceLT, h1, g1, hw]
  obtain ⟨q1, e1⟩ : ∃ q1, q1 = am_set h (ad f) (.inr (2, [.ref (ad (f + 1)), .ref (ad (f + 2)), .ref (ad (f + 3)), .int (nI n')])) := ⟨_, rfl⟩
  rw [← e1]
  have a1 : ∀ p, p ≠ f → q1 (ad p) = h (ad p) := fun p hp => by rw [e1]; exact s_ne hi hp
  have a0 : q1 (ad f) = some (.inr (2, [.ref (ad (f + 1)), .ref (ad (f + 2)), .ref (ad (f + 3)), .int (nI n')])) := by rw [e1]; exact s_eq
  have b1 := (a1 f' (by omega)).trans g1
  have b2 := (a1 (f' + 1) (by omega)).trans g2
  have b3 := (a1 (f' + 2) (by omega)).trans g3
  have b4 := (a1 (f' + 3) (by omega)).trans g4
  have c2 := (a1 (f + 1) (by omega)).trans h2
  have c3 := (a1 (f + 2) (by omega)).trans h3
  have c4 := (a1 (f + 3) (by omega)).trans h4
  simp only [u_10_0, u_10_1, u_10_2, u_10_5, u_10_8, u_10_9, u_10_12, u_10_13, u_10_14, u_10_17, u_10_18, u_10_19, u_10_22, u_10_25, u_10_26, u_10_29, u_10_30, u_10_31, u_10_34, u_10_35, u_10_36, u_10_39, u_10_42, u_10_43, u_10_46, u_10_47, u_10_48, u_10_51, u_10_52, u_10_53, u_10_56, u_10_59, f_gf_some, f_gv_some, f_pf_some, f_ia_some, f_la_some, f_aa_some, f_is_some, f_ls_some, f_rc_some, f_at0, f_atS, f_st_0, f_st_1i, f_st_1r, f_st_1l, f_st_1n, f_st_S, f_s2_0, f_s2_1i, f_s2_1r, f_s2_1l, f_s2_1n, f_s2_S, true_and, and_true, List.set_cons_zero, List.set_cons_succ, List.length_cons, List.length_nil, Nat.reduceAdd, Nat.reduceEqDiff, reduceIte, Nat.left_eq_add, Nat.add_eq_left, Nat.reduceLT, a0, b1, hw]
  rw [f_cp_i b2 c2]
  refine ⟨⟨rfl, rfl, hz, hz, hp, by rw [cl0, hc]; omega, by rw [cl0, hc]; omega, fun i _ => fit_i _⟩, ?_⟩
  rw [cl0, hc]
  obtain ⟨q2, e2⟩ : ∃ q2, q2 = am_set q1 (ad (f + 1)) (.inl (.int, 150, .inl (va_cpy o' o 0 0 n'))) := ⟨_, rfl⟩
  rw [← e2]
  have a2 : ∀ p, p ≠ f + 1 → q2 (ad p) = q1 (ad p) := fun p hp => by rw [e2]; exact s_ne hi hp
  simp only [u_10_0, u_10_1, u_10_2, u_10_5, u_10_8, u_10_9, u_10_12, u_10_13, u_10_14, u_10_17, u_10_18, u_10_19, u_10_22, u_10_25, u_10_26, u_10_29, u_10_30, u_10_31, u_10_34, u_10_35, u_10_36, u_10_39, u_10_42, u_10_43, u_10_46, u_10_47, u_10_48, u_10_51, u_10_52, u_10_53, u_10_56, u_10_59, f_gf_some, f_gv_some, f_pf_some, f_ia_some, f_la_some, f_aa_some, f_is_some, f_ls_some, f_rc_some, f_at0, f_atS, f_st_0, f_st_1i, f_st_1r, f_st_1l, f_st_1n, f_st_S, f_s2_0, f_s2_1i, f_s2_1r, f_s2_1l, f_s2_1n, f_s2_S, true_and, and_true, List.set_cons_zero, List.set_cons_succ, List.length_cons, List.length_nil, Nat.reduceAdd, Nat.reduceEqDiff, reduceIte, Nat.left_eq_add, Nat.add_eq_left, Nat.reduceLT, (a2 f (by omega)).trans a0, (a2 f' (by omega)).trans b1, hw]
  rw [f_cp_i ((a2 (f' + 2) (by omega)).trans b3) ((a2 (f + 2) (by omega)).trans c3)]
  refine ⟨⟨rfl, rfl, hz, hz, hp, by rw [cl0, hc]; omega, by rw [cl0, hc]; omega, fun i _ => fit_i _⟩, ?_⟩
  rw [cl0, hc]
  obtain ⟨q3, e3⟩ : ∃ q3, q3 = am_set q2 (ad (f + 2)) (.inl (.int, 150, .inl (va_cpy a' a 0 0 n'))) := ⟨_, rfl⟩
  rw [← e3]
  have a3 : ∀ p, p ≠ f + 2 → q3 (ad p) = q2 (ad p) := fun p hp => by rw [e3]; exact s_ne hi hp
  simp only [u_10_0, u_10_1, u_10_2, u_10_5, u_10_8, u_10_9, u_10_12, u_10_13, u_10_14, u_10_17, u_10_18, u_10_19, u_10_22, u_10_25, u_10_26, u_10_29, u_10_30, u_10_31, u_10_34, u_10_35, u_10_36, u_10_39, u_10_42, u_10_43, u_10_46, u_10_47, u_10_48, u_10_51, u_10_52, u_10_53, u_10_56, u_10_59, f_gf_some, f_gv_some, f_pf_some, f_ia_some, f_la_some, f_aa_some, f_is_some, f_ls_some, f_rc_some, f_at0, f_atS, f_st_0, f_st_1i, f_st_1r, f_st_1l, f_st_1n, f_st_S, f_s2_0, f_s2_1i, f_s2_1r, f_s2_1l, f_s2_1n, f_s2_S, true_and, and_true, List.set_cons_zero, List.set_cons_succ, List.length_cons, List.length_nil, Nat.reduceAdd, Nat.reduceEqDiff, reduceIte, Nat.left_eq_add, Nat.add_eq_left, Nat.reduceLT, (a3 f (by omega)).trans ((a2 f (by omega)).trans a0), (a3 f' (by omega)).trans ((a2 f' (by omega)).trans b1), hw]
  rw [f_cp_i ((a3 (f' + 3) (by omega)).trans ((a2 (f' + 3) (by omega)).trans b4)) ((a3 (f + 3) (by omega)).trans ((a2 (f + 3) (by omega)).trans c4))]
  refine ⟨⟨rfl, rfl, hz, hz, hp, by rw [cl0, hc]; omega, by rw [cl0, hc]; omega, fun i _ => fit_i _⟩, ?_⟩
  rw [cl0, hc]
  obtain ⟨q4, e4⟩ : ∃ q4, q4 = am_set q3 (ad (f + 3)) (.inl (.int, 150, .inl (va_cpy b' b 0 0 n'))) := ⟨_, rfl⟩
  rw [← e4]
  have a4 : ∀ p, p ≠ f + 3 → q4 (ad p) = q3 (ad p) := fun p hp => by rw [e4]; exact s_ne hi hp
  simp only [u_10_0, u_10_1, u_10_2, u_10_5, u_10_8, u_10_9, u_10_12, u_10_13, u_10_14, u_10_17, u_10_18, u_10_19, u_10_22, u_10_25, u_10_26, u_10_29, u_10_30, u_10_31, u_10_34, u_10_35, u_10_36, u_10_39, u_10_42, u_10_43, u_10_46, u_10_47, u_10_48, u_10_51, u_10_52, u_10_53, u_10_56, u_10_59]
  refine hk q4 ⟨?_, ?_, ?_, ?_⟩ (fun p hp => ?_)
  · rw [a4 f (by omega), a3 f (by omega), a2 f (by omega)]; exact a0
  · rw [a4 _ (by omega), a3 _ (by omega), e2]; exact s_eq
  · rw [a4 _ (by omega), e3]; exact s_eq
  · rw [e4]; exact s_eq
  · rw [a4 _ (by omega), a3 _ (by omega), a2 _ (by omega), a1 _ (by omega)]

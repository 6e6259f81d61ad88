-- the class's History: its object at place 17, its row at 18, its sheets behind
def HI (ad : Nat → Nat) (h : am_H) (nx sz : Nat) (N : Nat → Nat × Nat × Nat) (Z : Nat → Sl) : Prop :=
  h (ad 17) = some (.inr (3, [.ref (ad 18), .int (nI nx), .int (nI sz)])) ∧ (∃ g : Nat → Option Nat, h (ad 18) = some (.inl (.object "SheetNeeds$Sheet", 16, .inr (.inr (.inr (.inr g))))) ∧ ∀ i, i < 16 → g i = some (ad (19 + 16 * i))) ∧
    ∀ i, i < 16 → SH ad h (19 + 16 * i) (20 + 16 * i) (24 + 16 * i) (N i).1 (N i).2.1 (N i).2.2 (Z i)
theorem HI.frame {ad : Nat → Nat} {h h' : am_H} {nx sz : Nat} {N : Nat → Nat × Nat × Nat} {Z : Nat → Sl} (hH : HI ad h nx sz N Z) (hk : ∀ p, 17 ≤ p → p < 275 → h' (ad p) = h (ad p)) : HI ad h' nx sz N Z := by
  obtain ⟨h1, ⟨g, h2, h3⟩, h4⟩ := hH
  exact ⟨(hk 17 (by decide) (by decide)).trans h1, ⟨g, (hk 18 (by decide) (by decide)).trans h2, h3⟩, fun i hi => (h4 i hi).frame (fun p hp => hk p (by unfold inSH at hp; omega) (by unfold inSH at hp; omega))⟩
theorem rem16 : ∀ k : Fin 32, nI k.val - nI k.val / 16 * 16 = nI (k.val % 16) := by decide
theorem va_rf_some {a : Nat} : va_rf (some a) = .ref a := rfl
section Hi
variable {G : am_G} {d : Nat} {K : am_K} {ad : Nat → Nat} {h : am_H} {s f t n m w : Nat} {z : Sl} {nx sz : Nat} {N : Nat → Nat × Nat × Nat} {Z : Nat → Sl}
set_option maxHeartbeats 1000000 in
theorem c_keep (hi : am_inj ad) (hH : HI ad h nx sz N Z) (hS : SH ad h s f t n m w z) (hnx : nx < 16) (hsz : sz ≤ 16) (hn : n ≤ 150) (hm : m ≤ 60) (hw : w ≤ 150) (hd : ∀ p, 17 ≤ p → p < 275 → ¬ inSH s f t p)
    (hk : ∀ h', HI ad h' ((nx + 1) % 16) (if sz < 16 then sz + 1 else sz) (va_up N nx (n, m, w)) (va_up Z nx (sl_cpy n m w z (Z nx))) → (∀ p, (p < 17 ∨ 275 ≤ p) → h' (ad p) = h (ad p)) → K (.inl none) h') : am_M G (d + 3) 8 [.ref (ad 17), .ref (ad s)] h K := by
  refine n_8 (d := d + 2) ?_
  obtain ⟨h1, ⟨g, h2, h3⟩, h4⟩ := id hH
  have hv : vp_in (nI nx) 16 := vp_in_nI hnx (by decide)
  have hcl : (nI nx).toNatClampNeg = nx := nI_clamp (by omega)
  have hr := rem16 ⟨nx + 1, by omega⟩
  simp only at hr
  simp only [u_8_0, u_8_1, u_8_4, u_8_5, u_8_8, u_8_9, u_8_10, u_8_13, u_8_14, u_8_15, u_8_18, u_8_19, u_8_20, u_8_22, u_8_23, u_8_26, u_8_27, u_8_30, u_8_32, u_8_35, u_8_36, u_8_37, u_8_40, u_8_41, u_8_42, u_8_45, f_gf_some, f_gv_some, f_pf_some, f_ia_some, f_la_some, f_aa_some, f_is_some, f_ls_some, f_rc_some, f_at0, f_atS, f_st_0, f_st_1i, f_st_1r, f_st_1l, f_st_1n, f_st_S, f_s2_0, f_s2_1i, f_s2_1r, f_s2_1l, f_s2_1n, f_s2_S, true_and, and_true, List.set_cons_zero, List.set_cons_succ, List.length_cons, List.length_nil, Nat.reduceAdd, Nat.reduceEqDiff, reduceIte, Nat.left_eq_add, Nat.add_eq_left, Nat.reduceLT, h1, h2, h3 nx hnx, hv, hcl, va_rf_some, (h4 nx hnx).2.2.2.1, SHo]
  refine ⟨(by first | decide | exact ⟨Nat.le_of_ble_eq_true rfl, Nat.le_of_ble_eq_true rfl, Nat.le_of_ble_eq_true rfl⟩), c_stake hi (h4 nx hnx) hS hn hm hw (fun p hp => hd p (by unfold inSH at hp; omega) (by unfold inSH at hp; omega)) (fun q Q FR => ?_)⟩
  have fr : ∀ p, (p < 19 + 16 * nx ∨ 35 + 16 * nx ≤ p) → q (ad p) = h (ad p) := fun p hp => FR p (by unfold inSH; omega)
  have e1 := (fr 17 (by omega)).trans h1
  have e2 := (fr 18 (by omega)).trans h2
  (show am_W G (am_M G (d + 2)) 8 K _ _ _ _ _ _; simp (disch := omega) only [u_8_0, u_8_1, u_8_4, u_8_5, u_8_8, u_8_9, u_8_10, u_8_13, u_8_14, u_8_15, u_8_18, u_8_19, u_8_20, u_8_22, u_8_23, u_8_26, u_8_27, u_8_30, u_8_32, u_8_35, u_8_36, u_8_37, u_8_40, u_8_41, u_8_42, u_8_45, f_gf_some, f_gv_some, f_pf_some, f_ia_some, f_la_some, f_aa_some, f_is_some, f_ls_some, f_rc_some, f_at0, f_atS, f_st_0, f_st_1i, f_st_1r, f_st_1l, f_st_1n, f_st_S, f_s2_0, f_s2_1i, f_s2_1r, f_s2_1l, f_s2_1n, f_s2_S, true_and, and_true, List.set_cons_zero, List.set_cons_succ, List.length_cons, List.length_nil, Nat.reduceAdd, Nat.reduceEqDiff, reduceIte, Nat.left_eq_add, Nat.add_eq_left, Nat.reduceLT, e1, hr, i1, s_ne hi, s_eq, Option.toList, List.nil_append])
  have hs : ∀ (sz' : Nat) (q' : am_H), q' (ad 17) = some (.inr (3, [.ref (ad 18), .int (nI ((nx + 1) % 16)), .int (nI sz')])) → (∀ p, p ≠ 17 → q' (ad p) = q (ad p)) → HI ad q' ((nx + 1) % 16) sz' (va_up N nx (n, m, w)) (va_up Z nx (sl_cpy n m w z (Z nx))) := fun sz' q' a1 a2 => by
    refine ⟨a1, ⟨g, (a2 18 (by omega)).trans e2, h3⟩, fun i hi2 => ?_⟩
    by_cases e : i = nx
    · subst e
      rw [va_up_self, va_up_self]
      exact Q.frame (fun p hp => a2 p (by unfold inSH at hp; omega))
    · rw [va_up_ne _ _ e, va_up_ne _ _ e]
      exact (h4 i hi2).frame (fun p hp => (a2 p (by unfold inSH at hp; omega)).trans (fr p (by unfold inSH at hp; omega)))
  refine ⟨by decide, fun c => ?_, fun c => ?_⟩
  · have c' : ¬ sz < 16 := fun q => absurd c (nI_ge q (by decide))
    rw [if_neg c'] at hk
    exact hk _ (hs sz _ s_eq (fun p hp => s_ne hi hp)) (fun p hp => (s_ne hi (by omega)).trans (fr p (by omega)))
  · have c' : sz < 16 := Decidable.byContradiction fun q => c (nI_le (a := 16) (by omega) (by omega))
    rw [if_pos c'] at hk
    exact hk _ (hs (sz + 1) _ s_eq (fun p hp => (s_ne hi hp).trans (s_ne hi hp))) (fun p hp => (s_ne hi (by omega)).trans ((s_ne hi (by omega)).trans (fr p (by omega))))
set_option maxHeartbeats 1000000 in
theorem c_giveBack (hi : am_inj ad) (hH : HI ad h nx sz N Z) (hS : SH ad h s f t n m w z) (hnx : nx < 16) (hsz : sz ≤ 16) (hz : 0 < sz) (hN : ∀ i, i < 16 → (N i).1 ≤ 150 ∧ (N i).2.1 ≤ 60 ∧ (N i).2.2 ≤ 150) (hd : ∀ p, 17 ≤ p → p < 275 → ¬ inSH s f t p)
    (hk : ∀ h' j, j = (nx + 15) % 16 → HI ad h' j (sz - 1) N Z → SH ad h' s f t (N j).1 (N j).2.1 (N j).2.2 (sl_cpy (N j).1 (N j).2.1 (N j).2.2 (Z j) z) → (∀ p, ¬ inSH s f t p → p ≠ 17 → h' (ad p) = h (ad p)) → K (.inl none) h') : am_M G (d + 3) 32 [.ref (ad 17), .ref (ad s)] h K := by
  refine n_32 (d := d + 2) ?_
  obtain ⟨h1, ⟨g, h2, h3⟩, h4⟩ := id hH
  have hr := rem16 ⟨nx + 15, by omega⟩
  simp only at hr
  have h16 : nI nx + 16 - 1 = nI (nx + 15) := by rw [show (16 : Int32) = nI 16 from rfl, nI_add]; exact nI_pred (nx + 15)
  obtain ⟨j, hj⟩ : ∃ j, j = (nx + 15) % 16 := ⟨_, rfl⟩
  have hj2 : j < 16 := by omega
  rw [← hj] at hr
  have hv : vp_in (nI j) 16 := vp_in_nI hj2 (by decide)
  have hcl : (nI j).toNatClampNeg = j := nI_clamp (by omega)
  obtain ⟨sp, rfl⟩ : ∃ sp, sz = sp + 1 := ⟨sz - 1, by omega⟩
  have hp : nI (sp + 1) - 1 = nI sp := nI_pred sp
  have e3 : ∀ p, p ≠ 17 → am_set (am_set h (ad 17) (.inr (3, [.ref (ad 18), .int (nI j), .int (nI (sp + 1))]))) (ad 17) (.inr (3, [.ref (ad 18), .int (nI j), .int (nI sp)])) (ad p) = h (ad p) := fun p hp => (s_ne hi hp).trans (s_ne hi hp)
  simp (disch := omega) only [u_32_0, u_32_1, u_32_2, u_32_5, u_32_7, u_32_8, u_32_9, u_32_10, u_32_12, u_32_13, u_32_16, u_32_17, u_32_18, u_32_21, u_32_22, u_32_23, u_32_26, u_32_27, u_32_28, u_32_31, u_32_32, u_32_35, u_32_36, u_32_39, f_gf_some, f_gv_some, f_pf_some, f_ia_some, f_la_some, f_aa_some, f_is_some, f_ls_some, f_rc_some, f_at0, f_atS, f_st_0, f_st_1i, f_st_1r, f_st_1l, f_st_1n, f_st_S, f_s2_0, f_s2_1i, f_s2_1r, f_s2_1l, f_s2_1n, f_s2_S, true_and, and_true, List.set_cons_zero, List.set_cons_succ, List.length_cons, List.length_nil, Nat.reduceAdd, Nat.reduceEqDiff, reduceIte, Nat.left_eq_add, Nat.add_eq_left, Nat.reduceLT, h1, h2, h16, hr, hp, h3 j hj2, hv, hcl, va_rf_some, s_ne hi, s_eq, hS.2.2.2.1, SHo]
  have hHn : HI ad (am_set (am_set h (ad 17) (.inr (3, [.ref (ad 18), .int (nI j), .int (nI (sp + 1))]))) (ad 17) (.inr (3, [.ref (ad 18), .int (nI j), .int (nI sp)]))) j sp N Z := ⟨s_eq, ⟨g, (e3 18 (by omega)).trans h2, h3⟩, fun i hi2 => (h4 i hi2).frame (fun p hp => e3 p (by unfold inSH at hp; omega))⟩
  have hSn : SH ad (am_set (am_set h (ad 17) (.inr (3, [.ref (ad 18), .int (nI j), .int (nI (sp + 1))]))) (ad 17) (.inr (3, [.ref (ad 18), .int (nI j), .int (nI sp)]))) s f t n m w z := hS.frame (fun p hp => e3 p (fun q => hd p (by omega) (by omega) hp))
  generalize am_set (am_set h (ad 17) (.inr (3, [.ref (ad 18), .int (nI j), .int (nI (sp + 1))]))) (ad 17) (.inr (3, [.ref (ad 18), .int (nI j), .int (nI sp)])) = q at e3 hHn hSn ⊢
  have fs := hSn.2.2.2.1
  rw [SHo] at fs
  simp only [fs, f_rc_some]
  obtain ⟨b1, b2, b3⟩ := hN j hj2
  refine ⟨by decide, by decide, c_stake hi hSn (hHn.2.2 j hj2) b1 b2 b3 (fun p hp hp2 => hd p (by unfold inSH at hp2; omega) (by unfold inSH at hp2; omega) hp) (fun q2 Q FR => ?_)⟩
  (show am_W G (am_M G (d + 2)) 32 K _ _ _ _ _ _; simp only [u_32_0, u_32_1, u_32_2, u_32_5, u_32_7, u_32_8, u_32_9, u_32_10, u_32_12, u_32_13, u_32_16, u_32_17, u_32_18, u_32_21, u_32_22, u_32_23, u_32_26, u_32_27, u_32_28, u_32_31, u_32_32, u_32_35, u_32_36, u_32_39, f_gf_some, f_gv_some, f_pf_some, f_ia_some, f_la_some, f_aa_some, f_is_some, f_ls_some, f_rc_some, f_at0, f_atS, f_st_0, f_st_1i, f_st_1r, f_st_1l, f_st_1n, f_st_S, f_s2_0, f_s2_1i, f_s2_1r, f_s2_1l, f_s2_1n, f_s2_S, true_and, and_true, List.set_cons_zero, List.set_cons_succ, List.length_cons, List.length_nil, Nat.reduceAdd, Nat.reduceEqDiff, reduceIte, Nat.left_eq_add, Nat.add_eq_left, Nat.reduceLT, mz_7, sz_7, mz_8, sz_8, mz_9, sz_9, mz_10, sz_10, mz_11, sz_11, mz_12, sz_12, mz_13, sz_13, mz_14, sz_14, mz_15, sz_15, mz_16, sz_16, mz_17, sz_17, mz_18, sz_18, mz_19, sz_19, mz_20, sz_20, mz_21, sz_21, mz_22, sz_22, mz_23, sz_23, mz_24, sz_24, mz_25, sz_25, mz_26, sz_26, mz_27, sz_27, mz_28, sz_28, mz_29, sz_29, mz_30, sz_30, mz_31, sz_31, mz_32, sz_32, mz_33, sz_33, mz_34, sz_34, mz_35, sz_35, mz_36, sz_36, mz_39, sz_39, mz_40, sz_40, mz_43, sz_43, mz_44, sz_44, mz_45, sz_45, mz_63, sz_63, mz_69, sz_69, mz_70, sz_70, mz_71, sz_71, mz_74, sz_74, mz_77, sz_77, mz_78, sz_78, mz_79, sz_79, mz_83, sz_83, mz_84, sz_84, mz_85, sz_85, mz_86, sz_86, mz_87, sz_87, mz_88, sz_88, mz_89, sz_89, mz_90, sz_90, mz_91, sz_91, mz_92, sz_92, mz_93, sz_93, mz_94, sz_94, mz_95, sz_95, mz_96, sz_96, mz_97, sz_97, mz_98, sz_98, mz_99, sz_99, mz_100, sz_100, mz_101, sz_101, mz_102, sz_102, mz_103, sz_103, mz_104, sz_104, mz_105, sz_105, mz_106, sz_106, mz_107, sz_107, mz_108, sz_108, mz_109, sz_109, mz_110, sz_110, mz_111, sz_111, mz_112, sz_112, mz_113, sz_113, mz_114, sz_114, mz_115, sz_115, mz_116, sz_116, mz_117, sz_117, mz_118, sz_118, mz_119, sz_119, mz_120, sz_120, mz_121, sz_121, mz_122, sz_122, mz_123, sz_123, mz_124, sz_124, mz_125, sz_125, mz_126, sz_126, mz_127, sz_127, mz_128, sz_128, Nat.add_zero, Option.toList, List.cons_append, List.nil_append])
  exact hk q2 j hj (hHn.frame (fun p a b => FR p (hd p a b))) Q (fun p a b => (FR p a).trans (e3 p b))
theorem c_forget (hi : am_inj ad) (hH : HI ad h nx sz N Z) (hk : ∀ h', HI ad h' nx 0 N Z → (∀ p, p ≠ 17 → h' (ad p) = h (ad p)) → K (.inl none) h') : am_M G (d + 1) 39 [.ref (ad 17)] h K := by
  refine n_39 ?_
  obtain ⟨h1, ⟨g, h2, h3⟩, h4⟩ := id hH
  simp only [u_39_0, u_39_1, u_39_2, u_39_5, f_gf_some, f_gv_some, f_pf_some, f_ia_some, f_la_some, f_aa_some, f_is_some, f_ls_some, f_rc_some, f_at0, f_atS, f_st_0, f_st_1i, f_st_1r, f_st_1l, f_st_1n, f_st_S, f_s2_0, f_s2_1i, f_s2_1r, f_s2_1l, f_s2_1n, f_s2_S, true_and, and_true, List.set_cons_zero, List.set_cons_succ, List.length_cons, List.length_nil, Nat.reduceAdd, Nat.reduceEqDiff, reduceIte, Nat.left_eq_add, Nat.add_eq_left, Nat.reduceLT, h1]
  refine hk _ ⟨s_eq, ⟨g, (s_ne hi (by omega)).trans h2, h3⟩, fun i hi2 => (h4 i hi2).frame (fun p hp => s_ne hi (by unfold inSH at hp; omega))⟩ (fun p hp => s_ne hi hp)
end Hi

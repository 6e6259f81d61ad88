-- what the class's Walk answers
theorem m1m1 (x : Int32) : -1 - (-1 - x) = x := by
  rw [Int32.sub_eq_add_neg, Int32.sub_eq_add_neg (-1) x, Int32.neg_add, Int32.sub_eq_add_neg _ (-x), Int32.neg_neg, Int32.neg_neg, ← Int32.add_assoc]
  rw [show (-1 : Int32) + 1 = 0 by decide, Int32.zero_add]
theorem m1_eq {x y : Int32} : (-1 - x = y) = (x = -1 - y) := propext ⟨fun h => by rw [← h, m1m1], fun h => by rw [h, m1m1]⟩
theorem m1_neg : ∀ u : Fin 60, -1 - nI u.val < 0 := by decide
/-- source x is used by way of any from s on -/
def usd (T : FT) (n s x : Nat) : Prop := ∃ c e, c < n ∧ wk T n e s c ∧ (T.2.1 c = -1 - nI x ∨ T.2.2 c = -1 - nI x)
def mks (T : FT) (R : Nat → Nat) (i x : Nat) : Prop := ∃ j, j < i ∧ (T.2.1 (R j) = -1 - nI x ∨ T.2.2 (R j) = -1 - nI x)
section Wb
variable {G : am_G} {d : Nat} {K : am_K} {ad : Nat → Nat} {n m : Nat} {T : FT}
theorem l_cs {h : am_H} {s g : Nat} {k : Nat} {R D : Nat → Nat} {rc st su : Nat → Int32} (hn : n ≤ 150) (hF : FM ad h 1 n T) (hW : WA ad h k rc st su) (hB : BI T n s k k R D rc st) (hs : s < n) (hg : g < n)
    (hk1 : ∀ e, LD T n e s g → e ≤ n → K (.inl (some (.int (nI e)))) h) (hk2 : NW T n s g → K (.inl (some (.int (-1)))) h) :
    ∀ (r i : Nat) (v : Option Value), i + r = k → (∀ l, l < i → ¬ ed T (R l) g) → am_W G (am_M G d) 16 K 7 [some (.ref (ad 280)), some (.int (nI s)), some (.int (nI g)), some (.int (nI i)), v] [] h 0 0 := by
  intro r
  obtain ⟨h1, h2, h3, h4⟩ := id hW
  have hkn := hB.le
  induction r with
  | zero =>
    intro i v hr hf
    have e : i = k := by omega
    subst e
    simp only [u_16_0, u_16_1, u_16_2, u_16_5, u_16_6, u_16_7, u_16_8, u_16_9, u_16_12, u_16_15, u_16_16, u_16_19, u_16_20, u_16_21, u_16_23, u_16_24, u_16_27, u_16_30, u_16_32, u_16_33, u_16_34, u_16_37, u_16_38, u_16_41, u_16_44, u_16_46, u_16_47, u_16_48, u_16_51, u_16_52, u_16_55, u_16_57, u_16_58, u_16_59, u_16_60, u_16_61, u_16_64, u_16_67, u_16_68, f_gf_some, f_gv_some, f_pf_some, f_ia_some, f_la_some, f_aa_some, f_is_some, f_ls_some, f_rc_some, f_at0, f_atS, f_st_0, f_st_1i, f_st_1r, f_st_1l, f_st_1n, f_st_S, f_s2_0, f_s2_1i, f_s2_1r, f_s2_1l, f_s2_1n, f_s2_S, true_and, and_true, List.set_cons_zero, List.set_cons_succ, List.length_cons, List.length_nil, Nat.reduceAdd, Nat.reduceEqDiff, reduceIte, Nat.left_eq_add, Nat.add_eq_left, Nat.reduceLT, h1]
    exact am_br_t (Int32.le_refl _) (hk2 (hB.NW hs hf))
  | succ r ih =>
    intro i v hr hf
    have hv : vp_in (nI i) 150 := vp_in_nI (by omega) (by decide)
    have hcl : (nI i).toNatClampNeg = i := nI_clamp (by omega)
    obtain ⟨b1, b2, b3, b4, b5⟩ := hB.1 i (by omega)
    have hv2 : vp_in (nI (R i)) 150 := vp_in_nI (by omega) (by decide)
    have hcl2 : (nI (R i)).toNatClampNeg = R i := nI_clamp (by omega)
    rw [u_16_7]
    simp only [u_16_0, u_16_1, u_16_2, u_16_5, u_16_6, u_16_8, u_16_9, u_16_12, u_16_15, u_16_16, u_16_19, u_16_20, u_16_21, u_16_23, u_16_24, u_16_27, u_16_30, u_16_32, u_16_33, u_16_34, u_16_37, u_16_38, u_16_41, u_16_44, u_16_46, u_16_47, u_16_48, u_16_51, u_16_52, u_16_55, u_16_57, u_16_58, u_16_59, u_16_60, u_16_61, u_16_64, u_16_67, u_16_68, f_gf_some, f_gv_some, f_pf_some, f_ia_some, f_la_some, f_aa_some, f_is_some, f_ls_some, f_rc_some, f_at0, f_atS, f_st_0, f_st_1i, f_st_1r, f_st_1l, f_st_1n, f_st_S, f_s2_0, f_s2_1i, f_s2_1r, f_s2_1l, f_s2_1n, f_s2_S, true_and, and_true, List.set_cons_zero, List.set_cons_succ, List.length_cons, List.length_nil, Nat.reduceAdd, Nat.reduceEqDiff, reduceIte, Nat.left_eq_add, Nat.add_eq_left, Nat.reduceLT, h1, h2, h3, hF.1, hF.2.2.1, hF.2.2.2, hv, hcl, hv2, hcl2, b2, b3, o1, i1]
    have fin : ed T (R i) g → K (.inl (some (.int (nI (D i + 1))))) h := fun he => hk1 _ (hB.LD hs hg (by omega) he hf) (by omega)
    refine am_br_f (nI_ge (by omega) (by omega)) ⟨fun c => fin (Or.inl c), fun c => ⟨fun c2 => ih (i + 1) _ (by omega) (fun l hl => ?_), fun c2 => fin (Or.inr (Decidable.not_not.mp c2))⟩⟩
    by_cases e : l = i
    · subst e; exact fun q => q.elim c c2
    · exact hf l (by omega)
theorem c_countSteps (hi : am_inj ad) {h : am_H} {s g k : Nat} {rc st su : Nat → Int32} (hn : n ≤ 150) (hF : FM ad h 1 n T) (hw : wfg n m T) (hs : s < n) (hg : g < n) (hW : WA ad h k rc st su)
    (hk1 : ∀ e, LD T n e s g → e ≤ n → ∀ h' k' rc' st', WA ad h' k' rc' st' su → (∀ p, (p < 280 ∨ 284 ≤ p) → h' (ad p) = h (ad p)) → K (.inl (some (.int (nI e)))) h')
    (hk2 : NW T n s g → ∀ h' k' rc' st', WA ad h' k' rc' st' su → (∀ p, (p < 280 ∨ 284 ≤ p) → h' (ad p) = h (ad p)) → K (.inl (some (.int (-1)))) h') : am_M G (d + 3) 16 [.ref (ad 280), .int (nI s), .int (nI g)] h K := by
  refine n_16 (d := d + 2) ?_
  simp only [u_16_0, u_16_1, u_16_2, u_16_5, u_16_6, u_16_7, u_16_8, u_16_9, u_16_12, u_16_15, u_16_16, u_16_19, u_16_20, u_16_21, u_16_23, u_16_24, u_16_27, u_16_30, u_16_32, u_16_33, u_16_34, u_16_37, u_16_38, u_16_41, u_16_44, u_16_46, u_16_47, u_16_48, u_16_51, u_16_52, u_16_55, u_16_57, u_16_58, u_16_59, u_16_60, u_16_61, u_16_64, u_16_67, u_16_68, f_gf_some, f_gv_some, f_pf_some, f_ia_some, f_la_some, f_aa_some, f_is_some, f_ls_some, f_rc_some, f_at0, f_atS, f_st_0, f_st_1i, f_st_1r, f_st_1l, f_st_1n, f_st_S, f_s2_0, f_s2_1i, f_s2_1r, f_s2_1l, f_s2_1n, f_s2_S, true_and, and_true, List.set_cons_zero, List.set_cons_succ, List.length_cons, List.length_nil, Nat.reduceAdd, Nat.reduceEqDiff, reduceIte, Nat.left_eq_add, Nat.add_eq_left, Nat.reduceLT, hW.1]
  refine ⟨(by first | decide | exact ⟨Nat.le_of_ble_eq_true rfl, Nat.le_of_ble_eq_true rfl, Nat.le_of_ble_eq_true rfl⟩), c_goFrom hi hn hF hw hs hW (fun q k1 R D rc1 st1 W1 B1 FR => ?_)⟩
  (show am_W G (am_M G (d + 2)) 16 K _ _ _ _ _ _; simp only [u_16_0, u_16_1, u_16_2, u_16_5, u_16_6, u_16_8, u_16_9, u_16_12, u_16_15, u_16_16, u_16_19, u_16_20, u_16_21, u_16_23, u_16_24, u_16_27, u_16_30, u_16_32, u_16_33, u_16_34, u_16_37, u_16_38, u_16_41, u_16_44, u_16_46, u_16_47, u_16_48, u_16_51, u_16_52, u_16_55, u_16_57, u_16_58, u_16_59, u_16_60, u_16_61, u_16_64, u_16_67, u_16_68, f_gf_some, f_gv_some, f_pf_some, f_ia_some, f_la_some, f_aa_some, f_is_some, f_ls_some, f_rc_some, f_at0, f_atS, f_st_0, f_st_1i, f_st_1r, f_st_1l, f_st_1n, f_st_S, f_s2_0, f_s2_1i, f_s2_1r, f_s2_1l, f_s2_1n, f_s2_S, true_and, and_true, List.set_cons_zero, List.set_cons_succ, List.length_cons, List.length_nil, Nat.reduceAdd, Nat.reduceEqDiff, reduceIte, Nat.left_eq_add, Nat.add_eq_left, Nat.reduceLT, mz_7, sz_7, mz_8, sz_8, mz_9, sz_9, mz_10, sz_10, mz_11, sz_11, mz_12, sz_12, mz_13, sz_13, mz_14, sz_14, mz_15, sz_15, mz_16, sz_16, mz_17, sz_17, mz_18, sz_18, mz_19, sz_19, mz_20, sz_20, mz_21, sz_21, mz_22, sz_22, mz_23, sz_23, mz_24, sz_24, mz_25, sz_25, mz_26, sz_26, mz_27, sz_27, mz_28, sz_28, mz_29, sz_29, mz_30, sz_30, mz_31, sz_31, mz_32, sz_32, mz_33, sz_33, mz_34, sz_34, mz_35, sz_35, mz_36, sz_36, mz_39, sz_39, mz_40, sz_40, mz_43, sz_43, mz_44, sz_44, mz_45, sz_45, mz_63, sz_63, mz_69, sz_69, mz_70, sz_70, mz_71, sz_71, mz_74, sz_74, mz_77, sz_77, mz_78, sz_78, mz_79, sz_79, mz_83, sz_83, mz_84, sz_84, mz_85, sz_85, mz_86, sz_86, mz_87, sz_87, mz_88, sz_88, mz_89, sz_89, mz_90, sz_90, mz_91, sz_91, mz_92, sz_92, mz_93, sz_93, mz_94, sz_94, mz_95, sz_95, mz_96, sz_96, mz_97, sz_97, mz_98, sz_98, mz_99, sz_99, mz_100, sz_100, mz_101, sz_101, mz_102, sz_102, mz_103, sz_103, mz_104, sz_104, mz_105, sz_105, mz_106, sz_106, mz_107, sz_107, mz_108, sz_108, mz_109, sz_109, mz_110, sz_110, mz_111, sz_111, mz_112, sz_112, mz_113, sz_113, mz_114, sz_114, mz_115, sz_115, mz_116, sz_116, mz_117, sz_117, mz_118, sz_118, mz_119, sz_119, mz_120, sz_120, mz_121, sz_121, mz_122, sz_122, mz_123, sz_123, mz_124, sz_124, mz_125, sz_125, mz_126, sz_126, mz_127, sz_127, mz_128, sz_128, Nat.add_zero, Option.toList, List.cons_append, List.nil_append])
  exact l_cs hn (FO.frame hF (fun p a b => FR p (by omega))) W1 B1 hs hg (fun e he hle => hk1 e he hle q _ _ _ W1 FR) (fun he => hk2 he q _ _ _ W1 FR) k1 0 none (by omega) (fun l hl => absurd hl (Nat.not_lt_zero l))
theorem c_markSource (hi : am_inj ad) {h : am_H} {k : Nat} {rc st su : Nat → Int32} (hW : WA ad h k rc st su) {x : Int32} (hx : x < 0 → vp_in (-1 - x) 60) (hno : ¬ x < 0 → K (.inl none) h)
    (hys : x < 0 → ∀ h', WA ad h' k rc st (upd su (-1 - x).toNatClampNeg 1) → (∀ p, p ≠ 283 → h' (ad p) = h (ad p)) → K (.inl none) h') : am_M G (d + 1) 79 [.ref (ad 280), .int x] h K := by
  refine n_79 ?_
  obtain ⟨h1, h2, h3, h4⟩ := hW
  rw [u_79_0, u_79_1]
  refine ⟨fun c => ?_, fun c => ?_⟩
  · simp only [u_79_0, u_79_1, u_79_4, u_79_5, u_79_8, u_79_9, u_79_10, u_79_11, u_79_12, u_79_13]; exact hno (Int32.not_lt.mpr c)
  · have c' := Int32.not_le.mp c
    have hv := hx c'
    simp only [u_79_0, u_79_1, u_79_4, u_79_5, u_79_8, u_79_9, u_79_10, u_79_11, u_79_12, u_79_13, f_gf_some, f_gv_some, f_pf_some, f_ia_some, f_la_some, f_aa_some, f_is_some, f_ls_some, f_rc_some, f_at0, f_atS, f_st_0, f_st_1i, f_st_1r, f_st_1l, f_st_1n, f_st_S, f_s2_0, f_s2_1i, f_s2_1r, f_s2_1l, f_s2_1n, f_s2_S, true_and, and_true, List.set_cons_zero, List.set_cons_succ, List.length_cons, List.length_nil, Nat.reduceAdd, Nat.reduceEqDiff, reduceIte, Nat.left_eq_add, Nat.add_eq_left, Nat.reduceLT, h1, h4, hv, nar_z (Or.inr rfl)]
    exact hys c' _ ⟨(s_ne hi (by decide)).trans h1, (s_ne hi (by decide)).trans h2, (s_ne hi (by decide)).trans h3, s_eq⟩ (fun p hp => s_ne hi hp)
/-- one mark in the row of sources -/
theorem c_markB (hi : am_inj ad) {h : am_H} {k : Nat} {rc st su : Nat → Int32} (hn : n ≤ 150) (hm : m ≤ 60) (hW : WA ad h k rc st su) {x : Int32} (hx : okx n m x)
    (hk : ∀ h' su', WA ad h' k rc st su' → (∀ y, y < m → (x = -1 - nI y → su' y = 1) ∧ (¬ x = -1 - nI y → su' y = su y)) → (∀ p, p ≠ 283 → h' (ad p) = h (ad p)) → K (.inl none) h') : am_M G (d + 1) 79 [.ref (ad 280), .int x] h K := by
  rcases hx with ⟨q, hv⟩ | ⟨y, hy, e⟩
  · obtain ⟨u, hu, hu2⟩ := vp_in_of hv (by omega)
    refine c_markSource hi hW (fun _ => by rw [hu2]; exact vp_in_nI (by omega) (by decide)) (fun c => absurd q c) (fun _ h' W' FR => ?_)
    rw [hu2, nI_clamp (by omega)] at W'
    rw [m1_eq] at hu2
    refine hk h' _ W' (fun y hy => ⟨fun e => ?_, fun e => ?_⟩) FR
    · rw [hu2] at e
      have e2 : nI u = nI y := by rw [← m1m1 (nI u), e, m1m1]
      rw [(nI_eq (by omega) (by omega)).mp e2]; exact pk_us
    · exact pk_un (fun c => e (by rw [c]; exact hu2))
  · refine c_markSource hi hW (fun c => ?_) (fun c => hk h su hW (fun u hu => ⟨fun e2 => ?_, fun _ => rfl⟩) (fun _ _ => rfl)) (fun c => ?_)
    · rw [e] at c; exact absurd c (nI_pos (by omega))
    · rw [e] at e2
      have := m1_neg ⟨u, by omega⟩
      simp only at this
      rw [← e2] at this
      exact absurd this (nI_pos (by omega))
    · rw [e] at c; exact absurd c (nI_pos (by omega))
theorem l_ms1 (hi : am_inj ad) {h0 : am_H} {s : Nat} {k : Nat} {rc st : Nat → Int32} (hm : m ≤ 60)
    (hk : ∀ h su, WA ad h k rc st su → (∀ x, x < m → su x = 0) → (∀ p, (p < 280 ∨ 284 ≤ p) → h (ad p) = h0 (ad p)) → am_W G (am_M G (d + 2)) 78 K 20 [some (.ref (ad 280)), some (.int (nI s)), some (.int (nI m)), some (.int (nI m))] [] h 0 0) :
    ∀ (r i : Nat) (h : am_H) (su : Nat → Int32), i + r = m → WA ad h k rc st su → (∀ x, x < i → su x = 0) → (∀ p, (p < 280 ∨ 284 ≤ p) → h (ad p) = h0 (ad p)) → am_W G (am_M G (d + 2)) 78 K 2 [some (.ref (ad 280)), some (.int (nI s)), some (.int (nI m)), some (.int (nI i))] [] h 0 0 := by
  intro r
  induction r with
  | zero =>
    intro i h su hr hW hs FR
    have e : i = m := by omega
    subst e
    simp only [u_78_0, u_78_1, u_78_2, u_78_3, u_78_4, u_78_7, u_78_8, u_78_11, u_78_12, u_78_13, u_78_14, u_78_17, u_78_21, u_78_22, u_78_25, u_78_26, u_78_27, u_78_28, u_78_29, u_78_32, u_78_35, u_78_36, u_78_37, u_78_40, u_78_43, u_78_44, u_78_47, u_78_48, u_78_49, u_78_50, u_78_53, u_78_54, u_78_55, u_78_58, u_78_61, u_78_62, u_78_65, u_78_66, u_78_67, u_78_68, u_78_71, u_78_74, u_78_77, f_gf_some, f_gv_some, f_pf_some, f_ia_some, f_la_some, f_aa_some, f_is_some, f_ls_some, f_rc_some, f_at0, f_atS, f_st_0, f_st_1i, f_st_1r, f_st_1l, f_st_1n, f_st_S, f_s2_0, f_s2_1i, f_s2_1r, f_s2_1l, f_s2_1n, f_s2_S, true_and, and_true, List.set_cons_zero, List.set_cons_succ, List.length_cons, List.length_nil, Nat.reduceAdd, Nat.reduceEqDiff, reduceIte, Nat.left_eq_add, Nat.add_eq_left, Nat.reduceLT]
    exact am_br_t (Int32.le_refl _) (hk h su hW hs FR)
  | succ r ih =>
    intro i h su hr hW hs FR
    obtain ⟨h1, h2, h3, h4⟩ := id hW
    have hv : vp_in (nI i) 60 := vp_in_nI (by omega) (by decide)
    have hcl : (nI i).toNatClampNeg = i := nI_clamp (by omega)
    rw [u_78_2]
    simp only [u_78_0, u_78_1, u_78_3, u_78_4, u_78_7, u_78_8, u_78_11, u_78_12, u_78_13, u_78_14, u_78_17, u_78_21, u_78_22, u_78_25, u_78_26, u_78_27, u_78_28, u_78_29, u_78_32, u_78_35, u_78_36, u_78_37, u_78_40, u_78_43, u_78_44, u_78_47, u_78_48, u_78_49, u_78_50, u_78_53, u_78_54, u_78_55, u_78_58, u_78_61, u_78_62, u_78_65, u_78_66, u_78_67, u_78_68, u_78_71, u_78_74, u_78_77, f_gf_some, f_gv_some, f_pf_some, f_ia_some, f_la_some, f_aa_some, f_is_some, f_ls_some, f_rc_some, f_at0, f_atS, f_st_0, f_st_1i, f_st_1r, f_st_1l, f_st_1n, f_st_S, f_s2_0, f_s2_1i, f_s2_1r, f_s2_1l, f_s2_1n, f_s2_S, true_and, and_true, List.set_cons_zero, List.set_cons_succ, List.length_cons, List.length_nil, Nat.reduceAdd, Nat.reduceEqDiff, reduceIte, Nat.left_eq_add, Nat.add_eq_left, Nat.reduceLT, h1, h4, hv, hcl, o1, i1, nar_z (Or.inl rfl)]
    refine am_br_f (nI_ge (by omega) (by omega)) (ih (i + 1) _ (upd su i 0) (by omega) ⟨(s_ne hi (by decide)).trans h1, (s_ne hi (by decide)).trans h2, (s_ne hi (by decide)).trans h3, s_eq⟩ (fun x hx => ?_) (fun p hp => (s_ne hi (by omega)).trans (FR p hp)))
    by_cases e : x = i
    · subst e; exact pk_us
    · rw [pk_un e]; exact hs x (by omega)
theorem mks_s {T : FT} {R : Nat → Nat} {i x : Nat} : mks T R (i + 1) x ↔ mks T R i x ∨ T.2.1 (R i) = -1 - nI x ∨ T.2.2 (R i) = -1 - nI x := by
  constructor
  · rintro ⟨j, hj, h⟩
    by_cases e : j = i
    · subst e; exact Or.inr h
    · exact Or.inl ⟨j, by omega, h⟩
  · rintro (⟨j, hj, h⟩ | h)
    · exact ⟨j, by omega, h⟩
    · exact ⟨i, by omega, h⟩
theorem l_ms2 (hi : am_inj ad) {h0 : am_H} {s : Nat} {k : Nat} {R D : Nat → Nat} {rc st : Nat → Int32} (hn : n ≤ 150) (hm : m ≤ 60) (hF : FM ad h0 1 n T) (hw : wfg n m T) (hB : BI T n s k k R D rc st)
    (hk : ∀ h su, WA ad h k rc st su → (∀ x, x < m → (su x = 1 ∧ mks T R k x) ∨ (su x = 0 ∧ ¬ mks T R k x)) → (∀ p, (p < 280 ∨ 284 ≤ p) → h (ad p) = h0 (ad p)) → K (.inl none) h) :
    ∀ (r i : Nat) (h : am_H) (su : Nat → Int32), i + r = k → WA ad h k rc st su → (∀ x, x < m → (su x = 1 ∧ mks T R i x) ∨ (su x = 0 ∧ ¬ mks T R i x)) → (∀ p, (p < 280 ∨ 284 ≤ p) → h (ad p) = h0 (ad p)) → am_W G (am_M G (d + 2)) 78 K 27 [some (.ref (ad 280)), some (.int (nI s)), some (.int (nI m)), some (.int (nI i))] [] h 0 0 := by
  intro r
  have hkn := hB.le
  induction r with
  | zero =>
    intro i h su hr hW hs FR
    have e : i = k := by omega
    subst e
    simp only [u_78_0, u_78_1, u_78_2, u_78_3, u_78_4, u_78_7, u_78_8, u_78_11, u_78_12, u_78_13, u_78_14, u_78_17, u_78_20, u_78_21, u_78_22, u_78_25, u_78_26, u_78_27, u_78_28, u_78_29, u_78_32, u_78_35, u_78_36, u_78_37, u_78_40, u_78_43, u_78_44, u_78_47, u_78_48, u_78_49, u_78_50, u_78_53, u_78_54, u_78_55, u_78_58, u_78_61, u_78_62, u_78_65, u_78_66, u_78_67, u_78_68, u_78_71, u_78_74, u_78_77, f_gf_some, f_gv_some, f_pf_some, f_ia_some, f_la_some, f_aa_some, f_is_some, f_ls_some, f_rc_some, f_at0, f_atS, f_st_0, f_st_1i, f_st_1r, f_st_1l, f_st_1n, f_st_S, f_s2_0, f_s2_1i, f_s2_1r, f_s2_1l, f_s2_1n, f_s2_S, true_and, and_true, List.set_cons_zero, List.set_cons_succ, List.length_cons, List.length_nil, Nat.reduceAdd, Nat.reduceEqDiff, reduceIte, Nat.left_eq_add, Nat.add_eq_left, Nat.reduceLT, hW.1]
    exact am_br_t (Int32.le_refl _) (hk h su hW hs FR)
  | succ r ih =>
    intro i h su hr hW hs FR
    obtain ⟨h1, h2, h3, h4⟩ := id hW
    have hF' : FM ad h 1 n T := FO.frame hF (fun p a b => FR p (by omega))
    have hv : vp_in (nI i) 150 := vp_in_nI (by omega) (by decide)
    have hcl : (nI i).toNatClampNeg = i := nI_clamp (by omega)
    obtain ⟨b1, b2, b3, b4, b5⟩ := hB.1 i (by omega)
    have hv2 : vp_in (nI (R i)) 150 := vp_in_nI (by omega) (by decide)
    have hcl2 : (nI (R i)).toNatClampNeg = R i := nI_clamp (by omega)
    obtain ⟨w1, w2⟩ := hw (R i) b1
    rw [u_78_27]
    simp only [u_78_0, u_78_1, u_78_2, u_78_3, u_78_4, u_78_7, u_78_8, u_78_11, u_78_12, u_78_13, u_78_14, u_78_17, u_78_20, u_78_21, u_78_22, u_78_25, u_78_26, u_78_28, u_78_29, u_78_32, u_78_35, u_78_36, u_78_37, u_78_40, u_78_43, u_78_44, u_78_47, u_78_48, u_78_49, u_78_50, u_78_53, u_78_54, u_78_55, u_78_58, u_78_61, u_78_62, u_78_65, u_78_66, u_78_67, u_78_68, u_78_71, u_78_74, u_78_77, f_gf_some, f_gv_some, f_pf_some, f_ia_some, f_la_some, f_aa_some, f_is_some, f_ls_some, f_rc_some, f_at0, f_atS, f_st_0, f_st_1i, f_st_1r, f_st_1l, f_st_1n, f_st_S, f_s2_0, f_s2_1i, f_s2_1r, f_s2_1l, f_s2_1n, f_s2_S, true_and, and_true, List.set_cons_zero, List.set_cons_succ, List.length_cons, List.length_nil, Nat.reduceAdd, Nat.reduceEqDiff, reduceIte, Nat.left_eq_add, Nat.add_eq_left, Nat.reduceLT, h1, h2, hF'.1, hF'.2.2.1, hv, hcl, hv2, hcl2, b2]
    refine am_br_f (nI_ge (by omega) (by omega)) ⟨(by first | decide | exact ⟨Nat.le_of_ble_eq_true rfl, Nat.le_of_ble_eq_true rfl, Nat.le_of_ble_eq_true rfl⟩), c_markB hi hn hm hW w1 (fun q su1 W1 S1 FR1 => ?_)⟩
    have hF1 : FM ad q 1 n T := FO.frame hF' (fun p a b => FR1 p (by omega))
    (show am_W G (am_M G (d + 2)) 78 K _ _ _ _ _ _; simp only [u_78_0, u_78_1, u_78_2, u_78_3, u_78_4, u_78_7, u_78_8, u_78_11, u_78_12, u_78_13, u_78_14, u_78_17, u_78_20, u_78_21, u_78_22, u_78_25, u_78_26, u_78_28, u_78_29, u_78_32, u_78_35, u_78_36, u_78_37, u_78_40, u_78_43, u_78_44, u_78_47, u_78_48, u_78_49, u_78_50, u_78_53, u_78_54, u_78_55, u_78_58, u_78_61, u_78_62, u_78_65, u_78_66, u_78_67, u_78_68, u_78_71, u_78_74, u_78_77, f_gf_some, f_gv_some, f_pf_some, f_ia_some, f_la_some, f_aa_some, f_is_some, f_ls_some, f_rc_some, f_at0, f_atS, f_st_0, f_st_1i, f_st_1r, f_st_1l, f_st_1n, f_st_S, f_s2_0, f_s2_1i, f_s2_1r, f_s2_1l, f_s2_1n, f_s2_S, true_and, and_true, List.set_cons_zero, List.set_cons_succ, List.length_cons, List.length_nil, Nat.reduceAdd, Nat.reduceEqDiff, reduceIte, Nat.left_eq_add, Nat.add_eq_left, Nat.reduceLT, W1.1, W1.2.1, hF1.1, hF1.2.2.2, hv, hcl, hv2, hcl2, b2, mz_7, sz_7, mz_8, sz_8, mz_9, sz_9, mz_10, sz_10, mz_11, sz_11, mz_12, sz_12, mz_13, sz_13, mz_14, sz_14, mz_15, sz_15, mz_16, sz_16, mz_17, sz_17, mz_18, sz_18, mz_19, sz_19, mz_20, sz_20, mz_21, sz_21, mz_22, sz_22, mz_23, sz_23, mz_24, sz_24, mz_25, sz_25, mz_26, sz_26, mz_27, sz_27, mz_28, sz_28, mz_29, sz_29, mz_30, sz_30, mz_31, sz_31, mz_32, sz_32, mz_33, sz_33, mz_34, sz_34, mz_35, sz_35, mz_36, sz_36, mz_39, sz_39, mz_40, sz_40, mz_43, sz_43, mz_44, sz_44, mz_45, sz_45, mz_63, sz_63, mz_69, sz_69, mz_70, sz_70, mz_71, sz_71, mz_74, sz_74, mz_77, sz_77, mz_78, sz_78, mz_79, sz_79, mz_83, sz_83, mz_84, sz_84, mz_85, sz_85, mz_86, sz_86, mz_87, sz_87, mz_88, sz_88, mz_89, sz_89, mz_90, sz_90, mz_91, sz_91, mz_92, sz_92, mz_93, sz_93, mz_94, sz_94, mz_95, sz_95, mz_96, sz_96, mz_97, sz_97, mz_98, sz_98, mz_99, sz_99, mz_100, sz_100, mz_101, sz_101, mz_102, sz_102, mz_103, sz_103, mz_104, sz_104, mz_105, sz_105, mz_106, sz_106, mz_107, sz_107, mz_108, sz_108, mz_109, sz_109, mz_110, sz_110, mz_111, sz_111, mz_112, sz_112, mz_113, sz_113, mz_114, sz_114, mz_115, sz_115, mz_116, sz_116, mz_117, sz_117, mz_118, sz_118, mz_119, sz_119, mz_120, sz_120, mz_121, sz_121, mz_122, sz_122, mz_123, sz_123, mz_124, sz_124, mz_125, sz_125, mz_126, sz_126, mz_127, sz_127, mz_128, sz_128, Nat.add_zero, Option.toList, List.cons_append, List.nil_append])
    refine ⟨(by first | decide | exact ⟨Nat.le_of_ble_eq_true rfl, Nat.le_of_ble_eq_true rfl, Nat.le_of_ble_eq_true rfl⟩), c_markB hi hn hm W1 w2 (fun q2 su2 W2 S2 FR2 => ?_)⟩
    (show am_W G (am_M G (d + 2)) 78 K _ _ _ _ _ _; simp only [u_78_0, u_78_1, u_78_2, u_78_3, u_78_4, u_78_7, u_78_8, u_78_11, u_78_12, u_78_13, u_78_14, u_78_17, u_78_20, u_78_21, u_78_22, u_78_25, u_78_26, u_78_28, u_78_29, u_78_32, u_78_35, u_78_36, u_78_37, u_78_40, u_78_43, u_78_44, u_78_47, u_78_48, u_78_49, u_78_50, u_78_53, u_78_54, u_78_55, u_78_58, u_78_61, u_78_62, u_78_65, u_78_66, u_78_67, u_78_68, u_78_71, u_78_74, u_78_77, f_gf_some, f_gv_some, f_pf_some, f_ia_some, f_la_some, f_aa_some, f_is_some, f_ls_some, f_rc_some, f_at0, f_atS, f_st_0, f_st_1i, f_st_1r, f_st_1l, f_st_1n, f_st_S, f_s2_0, f_s2_1i, f_s2_1r, f_s2_1l, f_s2_1n, f_s2_S, true_and, and_true, List.set_cons_zero, List.set_cons_succ, List.length_cons, List.length_nil, Nat.reduceAdd, Nat.reduceEqDiff, reduceIte, Nat.left_eq_add, Nat.add_eq_left, Nat.reduceLT, o1, i1, mz_7, sz_7, mz_8, sz_8, mz_9, sz_9, mz_10, sz_10, mz_11, sz_11, mz_12, sz_12, mz_13, sz_13, mz_14, sz_14, mz_15, sz_15, mz_16, sz_16, mz_17, sz_17, mz_18, sz_18, mz_19, sz_19, mz_20, sz_20, mz_21, sz_21, mz_22, sz_22, mz_23, sz_23, mz_24, sz_24, mz_25, sz_25, mz_26, sz_26, mz_27, sz_27, mz_28, sz_28, mz_29, sz_29, mz_30, sz_30, mz_31, sz_31, mz_32, sz_32, mz_33, sz_33, mz_34, sz_34, mz_35, sz_35, mz_36, sz_36, mz_39, sz_39, mz_40, sz_40, mz_43, sz_43, mz_44, sz_44, mz_45, sz_45, mz_63, sz_63, mz_69, sz_69, mz_70, sz_70, mz_71, sz_71, mz_74, sz_74, mz_77, sz_77, mz_78, sz_78, mz_79, sz_79, mz_83, sz_83, mz_84, sz_84, mz_85, sz_85, mz_86, sz_86, mz_87, sz_87, mz_88, sz_88, mz_89, sz_89, mz_90, sz_90, mz_91, sz_91, mz_92, sz_92, mz_93, sz_93, mz_94, sz_94, mz_95, sz_95, mz_96, sz_96, mz_97, sz_97, mz_98, sz_98, mz_99, sz_99, mz_100, sz_100, mz_101, sz_101, mz_102, sz_102, mz_103, sz_103, mz_104, sz_104, mz_105, sz_105, mz_106, sz_106, mz_107, sz_107, mz_108, sz_108, mz_109, sz_109, mz_110, sz_110, mz_111, sz_111, mz_112, sz_112, mz_113, sz_113, mz_114, sz_114, mz_115, sz_115, mz_116, sz_116, mz_117, sz_117, mz_118, sz_118, mz_119, sz_119, mz_120, sz_120, mz_121, sz_121, mz_122, sz_122, mz_123, sz_123, mz_124, sz_124, mz_125, sz_125, mz_126, sz_126, mz_127, sz_127, mz_128, sz_128, Nat.add_zero, Option.toList, List.cons_append, List.nil_append])
    refine ih (i + 1) q2 su2 (by omega) W2 (fun x hx => ?_) (fun p hp => (FR2 p (by omega)).trans ((FR1 p (by omega)).trans (FR p hp)))
    rw [mks_s]
    obtain ⟨s1, s2⟩ := S1 x hx
    obtain ⟨s3, s4⟩ := S2 x hx
    by_cases c2 : T.2.2 (R i) = -1 - nI x
    · exact Or.inl ⟨s3 c2, Or.inr (Or.inr c2)⟩
    by_cases c1 : T.2.1 (R i) = -1 - nI x
    · exact Or.inl ⟨(s4 c2).trans (s1 c1), Or.inr (Or.inl c1)⟩
    rcases hs x hx with ⟨a, b⟩ | ⟨a, b⟩
    · exact Or.inl ⟨(s4 c2).trans ((s2 c1).trans a), Or.inl b⟩
    · refine Or.inr ⟨(s4 c2).trans ((s2 c1).trans a), ?_⟩
      rintro (q | q | q)
      · exact b q
      · exact c1 q
      · exact c2 q
theorem c_markSources (hi : am_inj ad) {h : am_H} {s k : Nat} {rc st su : Nat → Int32} (hn : n ≤ 150) (hm : m ≤ 60) (hF : FM ad h 1 n T) (hw : wfg n m T) (hs : s < n) (hW : WA ad h k rc st su)
    (hk : ∀ h' k' rc' st' su', WA ad h' k' rc' st' su' → (∀ x, x < m → (su' x = 1 ∧ usd T n s x) ∨ (su' x = 0 ∧ ¬ usd T n s x)) → (∀ p, (p < 280 ∨ 284 ≤ p) → h' (ad p) = h (ad p)) → K (.inl none) h') : am_M G (d + 3) 78 [.ref (ad 280), .int (nI s), .int (nI m)] h K := by
  refine n_78 (d := d + 2) ?_
  simp only [u_78_0, u_78_1, u_78_3, u_78_4, u_78_7, u_78_8, u_78_11, u_78_12, u_78_13, u_78_14, u_78_17, u_78_20, u_78_21, u_78_22, u_78_25, u_78_26, u_78_27, u_78_28, u_78_29, u_78_32, u_78_35, u_78_36, u_78_37, u_78_40, u_78_43, u_78_44, u_78_47, u_78_48, u_78_49, u_78_50, u_78_53, u_78_54, u_78_55, u_78_58, u_78_61, u_78_62, u_78_65, u_78_66, u_78_67, u_78_68, u_78_71, u_78_74, u_78_77, f_gf_some, f_gv_some, f_pf_some, f_ia_some, f_la_some, f_aa_some, f_is_some, f_ls_some, f_rc_some, f_at0, f_atS, f_st_0, f_st_1i, f_st_1r, f_st_1l, f_st_1n, f_st_S, f_s2_0, f_s2_1i, f_s2_1r, f_s2_1l, f_s2_1n, f_s2_S, true_and, and_true, List.set_cons_zero, List.set_cons_succ, List.length_cons, List.length_nil, Nat.reduceAdd, Nat.reduceEqDiff, reduceIte, Nat.left_eq_add, Nat.add_eq_left, Nat.reduceLT]
  refine l_ms1 hi (k := k) (rc := rc) (st := st) hm (fun q su1 W1 S1 FR1 => ?_) m 0 h su (by omega) hW (fun x hx => absurd hx (Nat.not_lt_zero x)) (fun _ _ => rfl)
  simp only [u_78_0, u_78_1, u_78_2, u_78_3, u_78_4, u_78_7, u_78_8, u_78_11, u_78_12, u_78_13, u_78_14, u_78_17, u_78_20, u_78_21, u_78_22, u_78_25, u_78_26, u_78_28, u_78_29, u_78_32, u_78_35, u_78_36, u_78_37, u_78_40, u_78_43, u_78_44, u_78_47, u_78_48, u_78_49, u_78_50, u_78_53, u_78_54, u_78_55, u_78_58, u_78_61, u_78_62, u_78_65, u_78_66, u_78_67, u_78_68, u_78_71, u_78_74, u_78_77, f_gf_some, f_gv_some, f_pf_some, f_ia_some, f_la_some, f_aa_some, f_is_some, f_ls_some, f_rc_some, f_at0, f_atS, f_st_0, f_st_1i, f_st_1r, f_st_1l, f_st_1n, f_st_S, f_s2_0, f_s2_1i, f_s2_1r, f_s2_1l, f_s2_1n, f_s2_S, true_and, and_true, List.set_cons_zero, List.set_cons_succ, List.length_cons, List.length_nil, Nat.reduceAdd, Nat.reduceEqDiff, reduceIte, Nat.left_eq_add, Nat.add_eq_left, Nat.reduceLT, W1.1]
  have hF1 : FM ad q 1 n T := FO.frame hF (fun p a b => FR1 p (by omega))
  refine ⟨(by first | decide | exact ⟨Nat.le_of_ble_eq_true rfl, Nat.le_of_ble_eq_true rfl, Nat.le_of_ble_eq_true rfl⟩), c_goFrom hi hn hF1 hw hs W1 (fun q2 k2 R D rc2 st2 W2 B2 FR2 => ?_)⟩
  (show am_W G (am_M G (d + 2)) 78 K _ _ _ _ _ _; simp only [u_78_0, u_78_1, u_78_2, u_78_3, u_78_4, u_78_7, u_78_8, u_78_11, u_78_12, u_78_13, u_78_14, u_78_17, u_78_20, u_78_21, u_78_22, u_78_25, u_78_26, u_78_28, u_78_29, u_78_32, u_78_35, u_78_36, u_78_37, u_78_40, u_78_43, u_78_44, u_78_47, u_78_48, u_78_49, u_78_50, u_78_53, u_78_54, u_78_55, u_78_58, u_78_61, u_78_62, u_78_65, u_78_66, u_78_67, u_78_68, u_78_71, u_78_74, u_78_77, f_gf_some, f_gv_some, f_pf_some, f_ia_some, f_la_some, f_aa_some, f_is_some, f_ls_some, f_rc_some, f_at0, f_atS, f_st_0, f_st_1i, f_st_1r, f_st_1l, f_st_1n, f_st_S, f_s2_0, f_s2_1i, f_s2_1r, f_s2_1l, f_s2_1n, f_s2_S, true_and, and_true, List.set_cons_zero, List.set_cons_succ, List.length_cons, List.length_nil, Nat.reduceAdd, Nat.reduceEqDiff, reduceIte, Nat.left_eq_add, Nat.add_eq_left, Nat.reduceLT, mz_7, sz_7, mz_8, sz_8, mz_9, sz_9, mz_10, sz_10, mz_11, sz_11, mz_12, sz_12, mz_13, sz_13, mz_14, sz_14, mz_15, sz_15, mz_16, sz_16, mz_17, sz_17, mz_18, sz_18, mz_19, sz_19, mz_20, sz_20, mz_21, sz_21, mz_22, sz_22, mz_23, sz_23, mz_24, sz_24, mz_25, sz_25, mz_26, sz_26, mz_27, sz_27, mz_28, sz_28, mz_29, sz_29, mz_30, sz_30, mz_31, sz_31, mz_32, sz_32, mz_33, sz_33, mz_34, sz_34, mz_35, sz_35, mz_36, sz_36, mz_39, sz_39, mz_40, sz_40, mz_43, sz_43, mz_44, sz_44, mz_45, sz_45, mz_63, sz_63, mz_69, sz_69, mz_70, sz_70, mz_71, sz_71, mz_74, sz_74, mz_77, sz_77, mz_78, sz_78, mz_79, sz_79, mz_83, sz_83, mz_84, sz_84, mz_85, sz_85, mz_86, sz_86, mz_87, sz_87, mz_88, sz_88, mz_89, sz_89, mz_90, sz_90, mz_91, sz_91, mz_92, sz_92, mz_93, sz_93, mz_94, sz_94, mz_95, sz_95, mz_96, sz_96, mz_97, sz_97, mz_98, sz_98, mz_99, sz_99, mz_100, sz_100, mz_101, sz_101, mz_102, sz_102, mz_103, sz_103, mz_104, sz_104, mz_105, sz_105, mz_106, sz_106, mz_107, sz_107, mz_108, sz_108, mz_109, sz_109, mz_110, sz_110, mz_111, sz_111, mz_112, sz_112, mz_113, sz_113, mz_114, sz_114, mz_115, sz_115, mz_116, sz_116, mz_117, sz_117, mz_118, sz_118, mz_119, sz_119, mz_120, sz_120, mz_121, sz_121, mz_122, sz_122, mz_123, sz_123, mz_124, sz_124, mz_125, sz_125, mz_126, sz_126, mz_127, sz_127, mz_128, sz_128, Nat.add_zero, Option.toList, List.cons_append, List.nil_append])
  have hF2 : FM ad q2 1 n T := FO.frame hF1 (fun p a b => FR2 p (by omega))
  refine l_ms2 hi hn hm hF2 hw B2 (fun q3 su3 W3 S3 FR3 => hk q3 _ _ _ su3 W3 (fun x hx => ?_) (fun p hp => (FR3 p hp).trans ((FR2 p hp).trans (FR1 p hp)))) k2 0 q2 su1 (by omega) W2 (fun x hx => Or.inr ⟨S1 x hx, fun q => by obtain ⟨j, hj, -⟩ := q; omega⟩) (fun _ _ => rfl)
  have eq : mks T R k2 x ↔ usd T n s x := by
    constructor
    · rintro ⟨j, hj, h⟩
      obtain ⟨b1, b2, b3, b4, b5⟩ := B2.1 j hj
      exact ⟨R j, D j, b1, b5, h⟩
    · rintro ⟨c, e, hc, hwk, h⟩
      obtain ⟨l, hl, hl2, -⟩ := B2.all hwk
      exact ⟨l, hl, by rw [hl2]; exact h⟩
  rcases S3 x hx with ⟨a, b⟩ | ⟨a, b⟩
  · exact Or.inl ⟨a, eq.mp b⟩
  · exact Or.inr ⟨a, fun q => b (eq.mpr q)⟩
end Wb

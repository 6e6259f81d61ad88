-- the cells are placed
section Pc
variable {G : am_G} {d : Nat} {K : am_K} {ad : Nat → Nat} {n m : Nat} {T : FT} {rg : Nat → Int32} {rl : Nat} {kn : Int32} {ic : Nat → Int32} {P0 : Nat → Prop}
/-- how far the placing is: passed, order, how many -/
def PD (T : FT) (n : Nat) (P0 : Nat → Prop) (ps od : Nat → Int32) (k : Nat) (o : Nat → Nat) : Prop := PSQ T n P0 o k ∧ rp n ps (pmk P0 o k) ∧ (∀ j, j < k → od j = nI (o j)) ∧ k ≤ cnt (fun x => decide (¬ ps x = 0)) n
theorem rp.cnt_end {n : Nat} {ps : Nat → Int32} {P : Nat → Prop} {T : FT} (hr : rp n ps P) (hk : n ≤ cnt (fun x => decide (¬ ps x = 0)) n) : NX T n P := by
  intro c hc q
  rcases hr c hc with ⟨a, b⟩ | ⟨a, b⟩
  · exact q.1 b
  · have := cnt_lt (p := fun x => decide (¬ ps x = 0)) (y := c) (by simp [a]) hc
    omega
theorem PD.add {ps od : Nat → Int32} {k : Nat} {o : Nat → Nat} {c : Nat} (h : PD T n P0 ps od k o) (hc : nxt T n (pmk P0 o k) c) : PD T n P0 (upd ps c 1) (upd od k (nI c)) (k + 1) (va_up o k c) := by
  obtain ⟨h1, h2, h3, h4⟩ := h
  have h0 : ps c = 0 := by
    rcases h2 c hc.1 with ⟨a, b⟩ | ⟨a, b⟩
    · exact absurd b hc.2.1.1
    · exact a
  refine ⟨h1.add hc, fun x hx => ?_, fun j hj => ?_, ?_⟩
  · rw [pmk_s]
    by_cases e : x = c
    · subst e; exact Or.inl ⟨pk_us, Or.inr rfl⟩
    · rw [pk_un e]
      rcases h2 x hx with ⟨a, b⟩ | ⟨a, b⟩
      · exact Or.inl ⟨a, Or.inl b⟩
      · exact Or.inr ⟨a, fun q => q.elim b e⟩
  · by_cases e : j = k
    · subst e; rw [pk_us, va_up_self]
    · rw [pk_un e, va_up_ne _ _ e]; exact h3 j (by omega)
  · rw [cnt_set (p := fun x => decide (¬ ps x = 0)) (y := c) (by simp [h0]) (by simp only [pk_us]; decide) (fun x hx => by simp only [pk_un hx]) n, if_pos hc.1]
    omega
/-- the inner loop: low goes on over what has passed -/
theorem l_low {h : am_H} {ps od : Nat → Int32} {pl tu : Nat} {P : Nat → Prop} {v : Option Value} (hn : n ≤ 150) (hF : FM ad h 1 n T) (hP : PL ad h ic ps od pl rg rl kn) (hr : rp n ps P)
    (hk : ∀ lo, lo ≤ n → (∀ c, c < lo → P c) → am_W G (am_M G (d + 2)) 12 K 66 [some (.ref (ad 275)), some (.int (nI lo)), some (.int (nI tu)), v] [] h 0 0) :
    ∀ (r i : Nat), i + r = n → (∀ c, c < i → P c) → am_W G (am_M G (d + 2)) 12 K 40 [some (.ref (ad 275)), some (.int (nI i)), some (.int (nI tu)), v] [] h 0 0 := by
  intro r
  induction r with
  | zero =>
    intro i hr2 hf
    have e : i = n := by omega
    subst e
    simp only [u_12_0, u_12_1, u_12_4, u_12_5, u_12_6, u_12_9, u_12_10, u_12_11, u_12_14, u_12_17, u_12_20, u_12_21, u_12_22, u_12_25, u_12_26, u_12_27, u_12_28, u_12_29, u_12_30, u_12_31, u_12_34, u_12_37, u_12_40, u_12_41, u_12_42, u_12_45, u_12_48, u_12_51, u_12_52, u_12_55, u_12_56, u_12_57, u_12_60, u_12_63, u_12_67, u_12_68, u_12_71, u_12_72, u_12_73, u_12_74, u_12_77, u_12_78, u_12_79, u_12_82, u_12_83, u_12_84, u_12_85, u_12_86, u_12_89, u_12_90, u_12_93, u_12_94, u_12_95, u_12_96, u_12_97, u_12_100, u_12_101, u_12_102, u_12_105, u_12_108, u_12_111, f_gf_some, f_gv_some, f_pf_some, f_ia_some, f_la_some, f_aa_some, f_is_some, f_ls_some, f_rc_some, f_at0, f_atS, f_st_0, f_st_1i, f_st_1r, f_st_1l, f_st_1n, f_st_S, f_s2_0, f_s2_1i, f_s2_1r, f_s2_1l, f_s2_1n, f_s2_S, true_and, and_true, List.set_cons_zero, List.set_cons_succ, List.length_cons, List.length_nil, Nat.reduceAdd, Nat.reduceEqDiff, reduceIte, Nat.left_eq_add, Nat.add_eq_left, Nat.reduceLT, hP.1, hF.1]
    exact am_br_t (Int32.le_refl _) (hk i (by omega) hf)
  | succ r ih =>
    intro i hr2 hf
    have hv : vp_in (nI i) 150 := vp_in_nI (by omega) (by decide)
    have hcl : (nI i).toNatClampNeg = i := nI_clamp (by omega)
    rw [u_12_40]
    simp only [u_12_0, u_12_1, u_12_4, u_12_5, u_12_6, u_12_9, u_12_10, u_12_11, u_12_14, u_12_17, u_12_20, u_12_21, u_12_22, u_12_25, u_12_26, u_12_27, u_12_28, u_12_29, u_12_30, u_12_31, u_12_34, u_12_37, u_12_41, u_12_42, u_12_45, u_12_48, u_12_51, u_12_52, u_12_55, u_12_56, u_12_57, u_12_60, u_12_63, u_12_67, u_12_68, u_12_71, u_12_72, u_12_73, u_12_74, u_12_77, u_12_78, u_12_79, u_12_82, u_12_83, u_12_84, u_12_85, u_12_86, u_12_89, u_12_90, u_12_93, u_12_94, u_12_95, u_12_96, u_12_97, u_12_100, u_12_101, u_12_102, u_12_105, u_12_108, u_12_111, f_gf_some, f_gv_some, f_pf_some, f_ia_some, f_la_some, f_aa_some, f_is_some, f_ls_some, f_rc_some, f_at0, f_atS, f_st_0, f_st_1i, f_st_1r, f_st_1l, f_st_1n, f_st_S, f_s2_0, f_s2_1i, f_s2_1r, f_s2_1l, f_s2_1n, f_s2_S, true_and, and_true, List.set_cons_zero, List.set_cons_succ, List.length_cons, List.length_nil, Nat.reduceAdd, Nat.reduceEqDiff, reduceIte, Nat.left_eq_add, Nat.add_eq_left, Nat.reduceLT, hP.1, hP.2.2.1, hF.1, hv, hcl, o1, i1]
    refine am_br_f (nI_ge (by omega) (by omega)) ?_
    rcases hr i (by omega) with ⟨a, b⟩ | ⟨a, b⟩
    · refine am_br_f (by rw [a]; decide) (ih (i + 1) (by omega) (fun c hc => ?_))
      by_cases e : c = i
      · subst e; exact b
      · exact hf c (by omega)
    · exact am_br_t a (hk i (by omega) hf)
theorem l_pc (hi : am_inj ad) {h0 : am_H} (hn : n ≤ 150) (hF : FM ad h0 1 n T) (hw : wfg n m T)
    (hk : ∀ h ps od pl o, PL ad h ic ps od pl rg rl kn → PD T n P0 ps od pl o → pl ≤ n → NX T n (pmk P0 o pl) → (∀ p, (p < 275 ∨ 280 ≤ p) → h (ad p) = h0 (ad p)) → K (.inl none) h) :
    ∀ (r i lo : Nat) (h : am_H) (ps od : Nat → Int32) (o : Nat → Nat) (v : Option Value), i + r = n → lo ≤ n → PL ad h ic ps od i rg rl kn → PD T n P0 ps od i o → (∀ c, c < lo → pmk P0 o i c) → (∀ p, (p < 275 ∨ 280 ≤ p) → h (ad p) = h0 (ad p)) → am_W G (am_M G (d + 2)) 12 K 29 [some (.ref (ad 275)), some (.int (nI lo)), some (.int (nI i)), v] [] h 0 0 := by
  intro r
  induction r with
  | zero =>
    intro i lo h ps od o v hr2 hlo hP hD hl FR
    have e : i = n := by omega
    subst e
    have hF' : FM ad h 1 i T := FO.frame hF (fun p a b => FR p (by omega))
    simp only [u_12_0, u_12_1, u_12_4, u_12_5, u_12_6, u_12_9, u_12_10, u_12_11, u_12_14, u_12_17, u_12_20, u_12_21, u_12_22, u_12_25, u_12_26, u_12_27, u_12_28, u_12_29, u_12_30, u_12_31, u_12_34, u_12_37, u_12_40, u_12_41, u_12_42, u_12_45, u_12_48, u_12_51, u_12_52, u_12_55, u_12_56, u_12_57, u_12_60, u_12_63, u_12_66, u_12_67, u_12_68, u_12_71, u_12_72, u_12_73, u_12_74, u_12_77, u_12_78, u_12_79, u_12_82, u_12_83, u_12_84, u_12_85, u_12_86, u_12_89, u_12_90, u_12_93, u_12_94, u_12_95, u_12_96, u_12_97, u_12_100, u_12_101, u_12_102, u_12_105, u_12_108, u_12_111, f_gf_some, f_gv_some, f_pf_some, f_ia_some, f_la_some, f_aa_some, f_is_some, f_ls_some, f_rc_some, f_at0, f_atS, f_st_0, f_st_1i, f_st_1r, f_st_1l, f_st_1n, f_st_S, f_s2_0, f_s2_1i, f_s2_1r, f_s2_1l, f_s2_1n, f_s2_S, true_and, and_true, List.set_cons_zero, List.set_cons_succ, List.length_cons, List.length_nil, Nat.reduceAdd, Nat.reduceEqDiff, reduceIte, Nat.left_eq_add, Nat.add_eq_left, Nat.reduceLT, hP.1, hF'.1]
    exact am_br_t (Int32.le_refl _) (hk h ps od i o hP hD (by omega) (hD.2.1.cnt_end hD.2.2.2) FR)
  | succ r ih =>
    intro i lo h ps od o v hr2 hlo hP hD hl FR
    have hF' : FM ad h 1 n T := FO.frame hF (fun p a b => FR p (by omega))
    rw [u_12_29]
    simp only [u_12_0, u_12_1, u_12_4, u_12_5, u_12_6, u_12_9, u_12_10, u_12_11, u_12_14, u_12_17, u_12_20, u_12_21, u_12_22, u_12_25, u_12_26, u_12_27, u_12_28, u_12_30, u_12_31, u_12_34, u_12_37, u_12_41, u_12_42, u_12_45, u_12_48, u_12_51, u_12_52, u_12_55, u_12_56, u_12_57, u_12_60, u_12_63, u_12_66, u_12_67, u_12_68, u_12_71, u_12_72, u_12_73, u_12_74, u_12_77, u_12_78, u_12_79, u_12_82, u_12_83, u_12_84, u_12_85, u_12_86, u_12_89, u_12_90, u_12_93, u_12_94, u_12_95, u_12_96, u_12_97, u_12_100, u_12_101, u_12_102, u_12_105, u_12_108, u_12_111, f_gf_some, f_gv_some, f_pf_some, f_ia_some, f_la_some, f_aa_some, f_is_some, f_ls_some, f_rc_some, f_at0, f_atS, f_st_0, f_st_1i, f_st_1r, f_st_1l, f_st_1n, f_st_S, f_s2_0, f_s2_1i, f_s2_1r, f_s2_1l, f_s2_1n, f_s2_S, true_and, and_true, List.set_cons_zero, List.set_cons_succ, List.length_cons, List.length_nil, Nat.reduceAdd, Nat.reduceEqDiff, reduceIte, Nat.left_eq_add, Nat.add_eq_left, Nat.reduceLT, hP.1, hF'.1]
    refine am_br_f (nI_ge (by omega) (by omega)) (l_low hn hF' hP hD.2.1 (fun lo2 hlo2 hl2 => ?_) (n - lo) lo (by omega) hl)
    simp only [u_12_0, u_12_1, u_12_4, u_12_5, u_12_6, u_12_9, u_12_10, u_12_11, u_12_14, u_12_17, u_12_20, u_12_21, u_12_22, u_12_25, u_12_26, u_12_27, u_12_28, u_12_30, u_12_31, u_12_34, u_12_37, u_12_41, u_12_42, u_12_45, u_12_48, u_12_51, u_12_52, u_12_55, u_12_56, u_12_57, u_12_60, u_12_63, u_12_66, u_12_67, u_12_68, u_12_71, u_12_72, u_12_73, u_12_74, u_12_77, u_12_78, u_12_79, u_12_82, u_12_83, u_12_84, u_12_85, u_12_86, u_12_89, u_12_90, u_12_93, u_12_94, u_12_95, u_12_96, u_12_97, u_12_100, u_12_101, u_12_102, u_12_105, u_12_108, u_12_111, f_gf_some, f_gv_some, f_pf_some, f_ia_some, f_la_some, f_aa_some, f_is_some, f_ls_some, f_rc_some, f_at0, f_atS, f_st_0, f_st_1i, f_st_1r, f_st_1l, f_st_1n, f_st_S, f_s2_0, f_s2_1i, f_s2_1r, f_s2_1l, f_s2_1n, f_s2_S, true_and, and_true, List.set_cons_zero, List.set_cons_succ, List.length_cons, List.length_nil, Nat.reduceAdd, Nat.reduceEqDiff, reduceIte, Nat.left_eq_add, Nat.add_eq_left, Nat.reduceLT, hP.1]
    refine ⟨(by first | decide | exact ⟨Nat.le_of_ble_eq_true rfl, Nat.le_of_ble_eq_true rfl, Nat.le_of_ble_eq_true rfl⟩), c_findReady hn hF' hw hP hD.2.1 hlo2 hl2 (fun c hc => ?_) (fun hx => ?_)⟩
    · have hcn := hc.1
      have hv : vp_in (nI c) 150 := vp_in_nI (by omega) (by decide)
      have hcl : (nI c).toNatClampNeg = c := nI_clamp (by omega)
      have hv2 : vp_in (nI i) 150 := vp_in_nI (by omega) (by decide)
      have hcl2 : (nI i).toNatClampNeg = i := nI_clamp (by omega)
      have z1 := hP.2.2.2.2.2.2
      (show am_W G (am_M G (d + 2)) 12 K _ _ _ _ _ _; simp (disch := omega) only [u_12_0, u_12_1, u_12_4, u_12_5, u_12_6, u_12_9, u_12_10, u_12_11, u_12_14, u_12_17, u_12_20, u_12_21, u_12_22, u_12_25, u_12_26, u_12_27, u_12_28, u_12_30, u_12_31, u_12_34, u_12_37, u_12_40, u_12_41, u_12_42, u_12_45, u_12_48, u_12_51, u_12_52, u_12_55, u_12_56, u_12_57, u_12_60, u_12_63, u_12_66, u_12_67, u_12_68, u_12_71, u_12_72, u_12_73, u_12_74, u_12_77, u_12_78, u_12_79, u_12_82, u_12_83, u_12_84, u_12_85, u_12_86, u_12_89, u_12_90, u_12_93, u_12_94, u_12_95, u_12_96, u_12_97, u_12_100, u_12_101, u_12_102, u_12_105, u_12_108, u_12_111, f_gf_some, f_gv_some, f_pf_some, f_ia_some, f_la_some, f_aa_some, f_is_some, f_ls_some, f_rc_some, f_at0, f_atS, f_st_0, f_st_1i, f_st_1r, f_st_1l, f_st_1n, f_st_S, f_s2_0, f_s2_1i, f_s2_1r, f_s2_1l, f_s2_1n, f_s2_S, true_and, and_true, List.set_cons_zero, List.set_cons_succ, List.length_cons, List.length_nil, Nat.reduceAdd, Nat.reduceEqDiff, reduceIte, Nat.left_eq_add, Nat.add_eq_left, Nat.reduceLT, hP.1, hP.2.2.1, hP.2.2.2.1, hv, hcl, hv2, hcl2, nar_z (Or.inr rfl), s_ne hi, s_eq, o1, i1, mz_7, sz_7, mz_8, sz_8, mz_9, sz_9, mz_10, sz_10, mz_11, sz_11, mz_12, sz_12, mz_13, sz_13, mz_14, sz_14, mz_15, sz_15, mz_16, sz_16, mz_17, sz_17, mz_18, sz_18, mz_19, sz_19, mz_20, sz_20, mz_21, sz_21, mz_22, sz_22, mz_23, sz_23, mz_24, sz_24, mz_25, sz_25, mz_26, sz_26, mz_27, sz_27, mz_28, sz_28, mz_29, sz_29, mz_30, sz_30, mz_31, sz_31, mz_32, sz_32, mz_33, sz_33, mz_34, sz_34, mz_35, sz_35, mz_36, sz_36, mz_39, sz_39, mz_40, sz_40, mz_43, sz_43, mz_44, sz_44, mz_45, sz_45, mz_63, sz_63, mz_69, sz_69, mz_70, sz_70, mz_71, sz_71, mz_74, sz_74, mz_77, sz_77, mz_78, sz_78, mz_79, sz_79, mz_83, sz_83, mz_84, sz_84, mz_85, sz_85, mz_86, sz_86, mz_87, sz_87, mz_88, sz_88, mz_89, sz_89, mz_90, sz_90, mz_91, sz_91, mz_92, sz_92, mz_93, sz_93, mz_94, sz_94, mz_95, sz_95, mz_96, sz_96, mz_97, sz_97, mz_98, sz_98, mz_99, sz_99, mz_100, sz_100, mz_101, sz_101, mz_102, sz_102, mz_103, sz_103, mz_104, sz_104, mz_105, sz_105, mz_106, sz_106, mz_107, sz_107, mz_108, sz_108, mz_109, sz_109, mz_110, sz_110, mz_111, sz_111, mz_112, sz_112, mz_113, sz_113, mz_114, sz_114, mz_115, sz_115, mz_116, sz_116, mz_117, sz_117, mz_118, sz_118, mz_119, sz_119, mz_120, sz_120, mz_121, sz_121, mz_122, sz_122, mz_123, sz_123, mz_124, sz_124, mz_125, sz_125, mz_126, sz_126, mz_127, sz_127, mz_128, sz_128, Nat.add_zero, Option.toList, List.cons_append, List.nil_append])
      refine am_br_t (nI_m1 (by omega)) (ih (i + 1) lo2 _ _ _ _ _ (by omega) hlo2 (((hP.set_ps hi _ (z1.upd c (Or.inr rfl))).set_od hi _).set_o hi (i + 1) rl kn) (hD.add hc) (fun c2 hc2 => pmk_s.mpr (Or.inl (hl2 c2 hc2))) (fun p hp => ?_))
      rw [s_ne hi (by omega), s_ne hi (by omega), s_ne hi (by omega)]; exact FR p hp
    · (show am_W G (am_M G (d + 2)) 12 K _ _ _ _ _ _; simp only [u_12_0, u_12_1, u_12_4, u_12_5, u_12_6, u_12_9, u_12_10, u_12_11, u_12_14, u_12_17, u_12_20, u_12_21, u_12_22, u_12_25, u_12_26, u_12_27, u_12_28, u_12_30, u_12_31, u_12_34, u_12_37, u_12_40, u_12_41, u_12_42, u_12_45, u_12_48, u_12_51, u_12_52, u_12_55, u_12_56, u_12_57, u_12_60, u_12_63, u_12_66, u_12_67, u_12_68, u_12_71, u_12_72, u_12_73, u_12_74, u_12_77, u_12_78, u_12_79, u_12_82, u_12_83, u_12_84, u_12_85, u_12_86, u_12_89, u_12_90, u_12_93, u_12_94, u_12_95, u_12_96, u_12_97, u_12_100, u_12_101, u_12_102, u_12_105, u_12_108, u_12_111, f_gf_some, f_gv_some, f_pf_some, f_ia_some, f_la_some, f_aa_some, f_is_some, f_ls_some, f_rc_some, f_at0, f_atS, f_st_0, f_st_1i, f_st_1r, f_st_1l, f_st_1n, f_st_S, f_s2_0, f_s2_1i, f_s2_1r, f_s2_1l, f_s2_1n, f_s2_S, true_and, and_true, List.set_cons_zero, List.set_cons_succ, List.length_cons, List.length_nil, Nat.reduceAdd, Nat.reduceEqDiff, reduceIte, Nat.left_eq_add, Nat.add_eq_left, Nat.reduceLT, mz_7, sz_7, mz_8, sz_8, mz_9, sz_9, mz_10, sz_10, mz_11, sz_11, mz_12, sz_12, mz_13, sz_13, mz_14, sz_14, mz_15, sz_15, mz_16, sz_16, mz_17, sz_17, mz_18, sz_18, mz_19, sz_19, mz_20, sz_20, mz_21, sz_21, mz_22, sz_22, mz_23, sz_23, mz_24, sz_24, mz_25, sz_25, mz_26, sz_26, mz_27, sz_27, mz_28, sz_28, mz_29, sz_29, mz_30, sz_30, mz_31, sz_31, mz_32, sz_32, mz_33, sz_33, mz_34, sz_34, mz_35, sz_35, mz_36, sz_36, mz_39, sz_39, mz_40, sz_40, mz_43, sz_43, mz_44, sz_44, mz_45, sz_45, mz_63, sz_63, mz_69, sz_69, mz_70, sz_70, mz_71, sz_71, mz_74, sz_74, mz_77, sz_77, mz_78, sz_78, mz_79, sz_79, mz_83, sz_83, mz_84, sz_84, mz_85, sz_85, mz_86, sz_86, mz_87, sz_87, mz_88, sz_88, mz_89, sz_89, mz_90, sz_90, mz_91, sz_91, mz_92, sz_92, mz_93, sz_93, mz_94, sz_94, mz_95, sz_95, mz_96, sz_96, mz_97, sz_97, mz_98, sz_98, mz_99, sz_99, mz_100, sz_100, mz_101, sz_101, mz_102, sz_102, mz_103, sz_103, mz_104, sz_104, mz_105, sz_105, mz_106, sz_106, mz_107, sz_107, mz_108, sz_108, mz_109, sz_109, mz_110, sz_110, mz_111, sz_111, mz_112, sz_112, mz_113, sz_113, mz_114, sz_114, mz_115, sz_115, mz_116, sz_116, mz_117, sz_117, mz_118, sz_118, mz_119, sz_119, mz_120, sz_120, mz_121, sz_121, mz_122, sz_122, mz_123, sz_123, mz_124, sz_124, mz_125, sz_125, mz_126, sz_126, mz_127, sz_127, mz_128, sz_128, Nat.add_zero, Option.toList, List.cons_append, List.nil_append])
      exact am_br_f (by decide) (hk h ps od i o hP hD (by omega) hx FR)
theorem c_place (hi : am_inj ad) {h : am_H} {ps od : Nat → Int32} {pl : Nat} (hn : n ≤ 150) (hF : FM ad h 1 n T) (hw : wfg n m T) (hP : PL ad h ic ps od pl rg rl kn) (hr : rp n ic P0)
    (hk : ∀ h' ps od pl o, PL ad h' ic ps od pl rg rl kn → PD T n P0 ps od pl o → pl ≤ n → NX T n (pmk P0 o pl) → (∀ p, (p < 275 ∨ 280 ≤ p) → h' (ad p) = h (ad p)) → K (.inl none) h') : am_M G (d + 3) 12 [.ref (ad 275)] h K := by
  refine n_12 (d := d + 2) ?_
  have hc : (nI n).toNatClampNeg = n := nI_clamp (by omega)
  have hp : ¬ nI n < 0 := nI_pos (by omega)
  have hz : ¬ (0 : Int32) < 0 := by decide
  have hw0 : am_words [] ≤ 8 := by decide
  obtain ⟨h1, h2, h3, h4, h5, h6, h7⟩ := id hP
  simp only [u_12_0, u_12_1, u_12_4, u_12_5, u_12_6, u_12_9, u_12_10, u_12_11, u_12_14, u_12_17, u_12_20, u_12_21, u_12_22, u_12_25, u_12_26, u_12_27, u_12_28, u_12_30, u_12_31, u_12_34, u_12_37, u_12_40, u_12_41, u_12_42, u_12_45, u_12_48, u_12_51, u_12_52, u_12_55, u_12_56, u_12_57, u_12_60, u_12_63, u_12_66, u_12_67, u_12_68, u_12_71, u_12_72, u_12_73, u_12_74, u_12_77, u_12_78, u_12_79, u_12_82, u_12_83, u_12_84, u_12_85, u_12_86, u_12_89, u_12_90, u_12_93, u_12_94, u_12_95, u_12_96, u_12_97, u_12_100, u_12_101, u_12_102, u_12_105, u_12_108, u_12_111, f_gf_some, f_gv_some, f_pf_some, f_ia_some, f_la_some, f_aa_some, f_is_some, f_ls_some, f_rc_some, f_at0, f_atS, f_st_0, f_st_1i, f_st_1r, f_st_1l, f_st_1n, f_st_S, f_s2_0, f_s2_1i, f_s2_1r, f_s2_1l, f_s2_1n, f_s2_S, true_and, and_true, List.set_cons_zero, List.set_cons_succ, List.length_cons, List.length_nil, Nat.reduceAdd, Nat.reduceEqDiff, reduceIte, Nat.left_eq_add, Nat.add_eq_left, Nat.reduceLT, h1, hF.1, hw0]
  rw [f_cp_i h2 h3]
  refine ⟨⟨rfl, rfl, hz, hz, hp, by rw [cl0, hc]; omega, by rw [cl0, hc]; omega, fun i _ => h6.fit _⟩, ?_⟩
  rw [cl0, hc]
  simp (disch := omega) only [u_12_0, u_12_1, u_12_4, u_12_5, u_12_6, u_12_9, u_12_10, u_12_11, u_12_14, u_12_17, u_12_20, u_12_21, u_12_22, u_12_25, u_12_26, u_12_27, u_12_28, u_12_30, u_12_31, u_12_34, u_12_37, u_12_40, u_12_41, u_12_42, u_12_45, u_12_48, u_12_51, u_12_52, u_12_55, u_12_56, u_12_57, u_12_60, u_12_63, u_12_66, u_12_67, u_12_68, u_12_71, u_12_72, u_12_73, u_12_74, u_12_77, u_12_78, u_12_79, u_12_82, u_12_83, u_12_84, u_12_85, u_12_86, u_12_89, u_12_90, u_12_93, u_12_94, u_12_95, u_12_96, u_12_97, u_12_100, u_12_101, u_12_102, u_12_105, u_12_108, u_12_111, f_gf_some, f_gv_some, f_pf_some, f_ia_some, f_la_some, f_aa_some, f_is_some, f_ls_some, f_rc_some, f_at0, f_atS, f_st_0, f_st_1i, f_st_1r, f_st_1l, f_st_1n, f_st_S, f_s2_0, f_s2_1i, f_s2_1r, f_s2_1l, f_s2_1n, f_s2_S, true_and, and_true, List.set_cons_zero, List.set_cons_succ, List.length_cons, List.length_nil, Nat.reduceAdd, Nat.reduceEqDiff, reduceIte, Nat.left_eq_add, Nat.add_eq_left, Nat.reduceLT, h1, s_ne hi, s_eq]
  have P1 := (hP.set_ps hi (va_cpy ic ps 0 0 n) (h6.cpy h7 _ _ _)).set_o hi 0 rl kn
  refine l_pc hi hn hF hw hk n 0 0 _ _ _ (fun _ => 0) none (by omega) (by omega) P1 ⟨fun j hj => absurd hj (Nat.not_lt_zero j), fun x hx => ?_, fun j hj => absurd hj (Nat.not_lt_zero j), Nat.zero_le _⟩ (fun c hc => absurd hc (Nat.not_lt_zero c)) (fun p hp => by rw [s_ne hi (by omega), s_ne hi (by omega)])
  have e1 : va_cpy ic ps 0 0 n x = ic x := by
    unfold va_cpy
    rw [if_pos ⟨Nat.zero_le _, by omega⟩, Nat.zero_add, Nat.sub_zero]
  have e2 : pmk P0 (fun _ => 0) 0 x ↔ P0 x := ⟨fun q => q.elim id (fun ⟨j, hj, _⟩ => absurd hj (Nat.not_lt_zero j)), Or.inl⟩
  rw [e1, e2]
  exact hr x hx
end Pc

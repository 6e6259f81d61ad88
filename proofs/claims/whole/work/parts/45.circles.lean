-- the circles are found; the Plan is made anew
def RGF (T : FT) (n : Nat) (rg : Nat → Int32) (rl : Nat) : Prop := (rl = 0 ∧ ∀ c, ¬ circ T n c) ∨ (0 < rl ∧ rl ≤ n ∧ ∃ s r, RB T n n rl s ∧ RG T n rl s rl r ∧ ∀ j, j < rl → rg j = nI (r j))
/-- the first i cells looked at -/
def FCI (T : FT) (n i : Nat) (ic rg : Nat → Int32) (rl : Nat) : Prop := (∀ x, x < n → (x < i → (ic x = 1 ∧ circ T n x) ∨ (ic x = 0 ∧ ¬ circ T n x)) ∧ (i ≤ x → ic x = 0)) ∧ ((rl = 0 ∧ ∀ x, x < i → ¬ circ T n x) ∨ (0 < rl ∧ rl ≤ n ∧ ∃ s, RB T n i rl s ∧ rg 0 = nI s))
theorem circ_of {T : FT} {n c e : Nat} (hc : c < n) (h : LD T n e c c) : circ T n c := ⟨hc, fun q => h.not q⟩
theorem RB.keep {T : FT} {n i L s : Nat} (h : RB T n i L s) (hk : ∀ e, LD T n e i i → L ≤ e) : RB T n (i + 1) L s := by
  obtain ⟨h1, h2, h3⟩ := h
  refine ⟨by omega, h2, fun c hc e he => ?_⟩
  by_cases q : c = i
  · subst q; exact ⟨hk e he, fun q2 => by omega⟩
  · exact h3 c (by omega) e he
theorem FCI.none {T : FT} {n i : Nat} {ic rg : Nat → Int32} {rl : Nat} (h : FCI T n i ic rg rl) (hi : i < n) (hN : NW T n i i) {ic' : Nat → Int32} (h0 : ic' i = 0) (ho : ∀ x, x ≠ i → ic' x = ic x) : FCI T n (i + 1) ic' rg rl := by
  obtain ⟨h1, h2⟩ := h
  have hno : ¬ circ T n i := fun q => q.2 hN
  refine ⟨fun x hx => ⟨fun hx2 => ?_, fun hx2 => ?_⟩, ?_⟩
  · by_cases e : x = i
    · subst e; exact Or.inr ⟨h0, hno⟩
    · rw [ho x e]; exact (h1 x hx).1 (by omega)
  · rw [ho x (by omega)]; exact (h1 x hx).2 (by omega)
  · rcases h2 with ⟨a, b⟩ | ⟨a, b, s, c, e⟩
    · refine Or.inl ⟨a, fun x hx => ?_⟩
      by_cases e : x = i
      · subst e; exact hno
      · exact b x (by omega)
    · exact Or.inr ⟨a, b, s, c.keep (fun e he => (he.not hN).elim), e⟩
theorem FCI.some {T : FT} {n i : Nat} {ic rg rg' : Nat → Int32} {rl rl' : Nat} (h : FCI T n i ic rg rl) (hi : i < n) {e : Nat} (hL : LD T n e i i) (hen : e ≤ n) (hk : (rl = 0 ∨ e < rl) → rl' = e ∧ rg' 0 = nI i) (hk2 : ¬ rl = 0 → ¬ e < rl → rl' = rl ∧ rg' = rg) : FCI T n (i + 1) (upd ic i 1) rg' rl' := by
  obtain ⟨h1, h2⟩ := h
  refine ⟨fun x hx => ⟨fun hx2 => ?_, fun hx2 => ?_⟩, ?_⟩
  · by_cases q : x = i
    · subst q; exact Or.inl ⟨pk_us, circ_of hx hL⟩
    · rw [pk_un q]; exact (h1 x hx).1 (by omega)
  · rw [pk_un (by omega)]; exact (h1 x hx).2 (by omega)
  · right
    have he := hL.1
    rcases h2 with ⟨a, b⟩ | ⟨a, b, s, c, q⟩
    · obtain ⟨k1, k2⟩ := hk (Or.inl a)
      rw [k1]
      refine ⟨he, hen, i, ⟨by omega, hL, fun c hc e' he' => ?_⟩, k2⟩
      by_cases q : c = i
      · subst q; exact ⟨Nat.le_of_eq (hL.uniq he'), fun q2 => by omega⟩
      · exact absurd (circ_of (by omega) he') (b c (by omega))
    · by_cases lt : e < rl
      · obtain ⟨k1, k2⟩ := hk (Or.inr lt)
        rw [k1]
        refine ⟨he, hen, i, ⟨by omega, hL, fun c2 hc e' he' => ?_⟩, k2⟩
        by_cases q2 : c2 = i
        · subst q2; exact ⟨Nat.le_of_eq (hL.uniq he'), fun q2 => by omega⟩
        · have := (c.2.2 c2 (by omega) e' he').1
          exact ⟨by omega, fun _ => by omega⟩
      · obtain ⟨k1, k2⟩ := hk2 (by omega) lt
        rw [k1, k2]
        exact ⟨a, b, s, c.keep (fun e' he' => by rw [← hL.uniq he']; omega), q⟩
section Ci
variable {G : am_G} {d : Nat} {K : am_K} {ad : Nat → Nat} {n m : Nat} {T : FT} {ps od su : Nat → Int32} {pl : Nat} {kn : Int32}
theorem l_fc1 (hi : am_inj ad) {h0 : am_H} (hn : n ≤ 150) (hF : FM ad h0 1 n T) (hw : wfg n m T) (hps : ∀ x, x < n → (ps x = 1 ∧ NW T n x x) ∨ ps x = 0)
    (hk : ∀ h ic rg rl k rc st v, PL ad h ic ps od pl rg rl kn → WA ad h k rc st su → FCI T n n ic rg rl → (∀ p, (p < 275 ∨ 284 ≤ p) → h (ad p) = h0 (ad p)) → am_W G (am_M G (d + 4)) 15 K 95 [some (.ref (ad 275)), some (.int (nI n)), v] [] h 0 0) :
    ∀ (r i : Nat) (h : am_H) (ic rg : Nat → Int32) (rl k : Nat) (rc st : Nat → Int32) (v : Option Value), i + r = n → PL ad h ic ps od pl rg rl kn → WA ad h k rc st su → FCI T n i ic rg rl → (∀ p, (p < 275 ∨ 284 ≤ p) → h (ad p) = h0 (ad p)) → am_W G (am_M G (d + 4)) 15 K 7 [some (.ref (ad 275)), some (.int (nI i)), v] [] h 0 0 := by
  intro r
  induction r with
  | zero =>
    intro i h ic rg rl k rc st v hr hP hW hI FR
    have e : i = n := by omega
    subst e
    have hF' : FM ad h 1 i T := FO.frame hF (fun p a b => FR p (by omega))
    simp only [u_15_0, u_15_1, u_15_2, u_15_5, u_15_6, u_15_7, u_15_8, u_15_9, u_15_12, u_15_15, u_15_18, u_15_19, u_15_22, u_15_23, u_15_24, u_15_27, u_15_28, u_15_31, u_15_32, u_15_33, u_15_36, u_15_37, u_15_38, u_15_41, u_15_42, u_15_43, u_15_44, u_15_47, u_15_48, u_15_51, u_15_52, u_15_53, u_15_54, u_15_57, u_15_58, u_15_59, u_15_62, u_15_63, u_15_66, u_15_69, u_15_70, u_15_71, u_15_74, u_15_77, u_15_78, u_15_79, u_15_82, u_15_83, u_15_86, u_15_87, u_15_88, u_15_89, u_15_92, u_15_96, u_15_97, u_15_98, u_15_99, u_15_102, u_15_105, u_15_106, u_15_109, u_15_110, u_15_111, u_15_112, u_15_115, u_15_116, u_15_117, u_15_118, u_15_119, u_15_120, u_15_123, u_15_124, u_15_125, u_15_128, u_15_129, u_15_132, u_15_135, f_gf_some, f_gv_some, f_pf_some, f_ia_some, f_la_some, f_aa_some, f_is_some, f_ls_some, f_rc_some, f_at0, f_atS, f_st_0, f_st_1i, f_st_1r, f_st_1l, f_st_1n, f_st_S, f_s2_0, f_s2_1i, f_s2_1r, f_s2_1l, f_s2_1n, f_s2_S, true_and, and_true, List.set_cons_zero, List.set_cons_succ, List.length_cons, List.length_nil, Nat.reduceAdd, Nat.reduceEqDiff, reduceIte, Nat.left_eq_add, Nat.add_eq_left, Nat.reduceLT, hP.1, hF'.1]
    exact am_br_t (Int32.le_refl _) (hk h ic rg rl k rc st v hP hW hI FR)
  | succ r ih =>
    intro i h ic rg rl k rc st v hr hP hW hI FR
    have hF' : FM ad h 1 n T := FO.frame hF (fun p a b => FR p (by omega))
    have hv : vp_in (nI i) 150 := vp_in_nI (by omega) (by decide)
    have hcl : (nI i).toNatClampNeg = i := nI_clamp (by omega)
    have hv0 : vp_in 0 150 := vp_in_nI (n := 0) (by decide) (by decide)
    rw [u_15_7]
    simp only [u_15_0, u_15_1, u_15_2, u_15_5, u_15_6, u_15_8, u_15_9, u_15_12, u_15_15, u_15_18, u_15_19, u_15_22, u_15_23, u_15_24, u_15_27, u_15_28, u_15_31, u_15_32, u_15_33, u_15_36, u_15_37, u_15_38, u_15_41, u_15_42, u_15_43, u_15_44, u_15_47, u_15_48, u_15_51, u_15_52, u_15_53, u_15_54, u_15_57, u_15_58, u_15_59, u_15_62, u_15_63, u_15_66, u_15_69, u_15_70, u_15_71, u_15_74, u_15_77, u_15_78, u_15_79, u_15_82, u_15_83, u_15_86, u_15_87, u_15_88, u_15_89, u_15_92, u_15_96, u_15_97, u_15_98, u_15_99, u_15_102, u_15_105, u_15_106, u_15_109, u_15_110, u_15_111, u_15_112, u_15_115, u_15_116, u_15_117, u_15_118, u_15_119, u_15_120, u_15_123, u_15_124, u_15_125, u_15_128, u_15_129, u_15_132, u_15_135, f_gf_some, f_gv_some, f_pf_some, f_ia_some, f_la_some, f_aa_some, f_is_some, f_ls_some, f_rc_some, f_at0, f_atS, f_st_0, f_st_1i, f_st_1r, f_st_1l, f_st_1n, f_st_S, f_s2_0, f_s2_1i, f_s2_1r, f_s2_1l, f_s2_1n, f_s2_S, true_and, and_true, List.set_cons_zero, List.set_cons_succ, List.length_cons, List.length_nil, Nat.reduceAdd, Nat.reduceEqDiff, reduceIte, Nat.left_eq_add, Nat.add_eq_left, Nat.reduceLT, hP.1, hP.2.2.1, hF'.1, hv, hcl, o1, i1, hW.1]
    refine am_br_f (nI_ge (by omega) (by omega)) ?_
    rcases hps i (by omega) with ⟨a, b⟩ | a
    · refine am_br_t (by rw [a]; decide) (ih (i + 1) h ic rg rl k rc st _ (by omega) hP hW (hI.none (by omega) b ((hI.1 i (by omega)).2 (by omega)) (fun _ _ => rfl)) FR)
    · refine am_br_f (by rw [a]; decide) ⟨(by first | decide | exact ⟨Nat.le_of_ble_eq_true rfl, Nat.le_of_ble_eq_true rfl, Nat.le_of_ble_eq_true rfl⟩), c_countSteps hi hn hF' hw (by omega) (by omega) hW (fun e he hle q k1 rc1 st1 W1 FR1 => ?_) (fun hno q k1 rc1 st1 W1 FR1 => ?_)⟩
      · have P1 := hP.frame (h' := q) (fun p a b => FR1 p (by omega))
        have hep := he.1
        have z6 := P1.2.2.2.2.2.1
        have Pn := P1.set_ic hi (upd ic i 1) (z6.upd i (Or.inr rfl))
        (show am_W G (am_M G (d + 4)) 15 K _ _ _ _ _ _; simp (disch := omega) only [u_15_0, u_15_1, u_15_2, u_15_5, u_15_6, u_15_8, u_15_9, u_15_12, u_15_15, u_15_18, u_15_19, u_15_22, u_15_23, u_15_24, u_15_27, u_15_28, u_15_31, u_15_32, u_15_33, u_15_36, u_15_37, u_15_38, u_15_41, u_15_42, u_15_43, u_15_44, u_15_47, u_15_48, u_15_51, u_15_52, u_15_53, u_15_54, u_15_57, u_15_58, u_15_59, u_15_62, u_15_63, u_15_66, u_15_69, u_15_70, u_15_71, u_15_74, u_15_77, u_15_78, u_15_79, u_15_82, u_15_83, u_15_86, u_15_87, u_15_88, u_15_89, u_15_92, u_15_96, u_15_97, u_15_98, u_15_99, u_15_102, u_15_105, u_15_106, u_15_109, u_15_110, u_15_111, u_15_112, u_15_115, u_15_116, u_15_117, u_15_118, u_15_119, u_15_120, u_15_123, u_15_124, u_15_125, u_15_128, u_15_129, u_15_132, u_15_135, f_gf_some, f_gv_some, f_pf_some, f_ia_some, f_la_some, f_aa_some, f_is_some, f_ls_some, f_rc_some, f_at0, f_atS, f_st_0, f_st_1i, f_st_1r, f_st_1l, f_st_1n, f_st_S, f_s2_0, f_s2_1i, f_s2_1r, f_s2_1l, f_s2_1n, f_s2_S, true_and, and_true, List.set_cons_zero, List.set_cons_succ, List.length_cons, List.length_nil, Nat.reduceAdd, Nat.reduceEqDiff, reduceIte, Nat.left_eq_add, Nat.add_eq_left, Nat.reduceLT, P1.1, P1.2.1, P1.2.2.2.2.1, hv, hcl, hv0, cl0, nar_z (Or.inr rfl), nar_z (Or.inl rfl), s_ne hi, s_eq, pk_us, o1, i1, mz_7, sz_7, mz_8, sz_8, mz_9, sz_9, mz_10, sz_10, mz_11, sz_11, mz_12, sz_12, mz_13, sz_13, mz_14, sz_14, mz_15, sz_15, mz_16, sz_16, mz_17, sz_17, mz_18, sz_18, mz_19, sz_19, mz_20, sz_20, mz_21, sz_21, mz_22, sz_22, mz_23, sz_23, mz_24, sz_24, mz_25, sz_25, mz_26, sz_26, mz_27, sz_27, mz_28, sz_28, mz_29, sz_29, mz_30, sz_30, mz_31, sz_31, mz_32, sz_32, mz_33, sz_33, mz_34, sz_34, mz_35, sz_35, mz_36, sz_36, mz_39, sz_39, mz_40, sz_40, mz_43, sz_43, mz_44, sz_44, mz_45, sz_45, mz_63, sz_63, mz_69, sz_69, mz_70, sz_70, mz_71, sz_71, mz_74, sz_74, mz_77, sz_77, mz_78, sz_78, mz_79, sz_79, mz_83, sz_83, mz_84, sz_84, mz_85, sz_85, mz_86, sz_86, mz_87, sz_87, mz_88, sz_88, mz_89, sz_89, mz_90, sz_90, mz_91, sz_91, mz_92, sz_92, mz_93, sz_93, mz_94, sz_94, mz_95, sz_95, mz_96, sz_96, mz_97, sz_97, mz_98, sz_98, mz_99, sz_99, mz_100, sz_100, mz_101, sz_101, mz_102, sz_102, mz_103, sz_103, mz_104, sz_104, mz_105, sz_105, mz_106, sz_106, mz_107, sz_107, mz_108, sz_108, mz_109, sz_109, mz_110, sz_110, mz_111, sz_111, mz_112, sz_112, mz_113, sz_113, mz_114, sz_114, mz_115, sz_115, mz_116, sz_116, mz_117, sz_117, mz_118, sz_118, mz_119, sz_119, mz_120, sz_120, mz_121, sz_121, mz_122, sz_122, mz_123, sz_123, mz_124, sz_124, mz_125, sz_125, mz_126, sz_126, mz_127, sz_127, mz_128, sz_128, Nat.add_zero, Option.toList, List.cons_append, List.nil_append])
        refine am_br_f (nI_m1 (by omega)) (am_br_f (by decide) ?_)
        have fin : (rl = 0 ∨ e < rl) → am_W G (am_M G (d + 4)) 15 K 7 [some (.ref (ad 275)), some (.int (nI (i + 1))), some (.int (nI e))] [] (am_set (am_set (am_set q (ad 276) (.inl (.boolean, 150, .inl (upd ic i 1)))) (ad 275) (.inr (4, [.ref (ad 1), .ref (ad 280), .ref (ad 276), .ref (ad 277), .ref (ad 278), .int (nI pl), .ref (ad 279), .int (nI e), .int kn]))) (ad 279) (.inl (.int, 150, .inl (upd rg 0 (nI i))))) 0 0 := fun cc => by
          refine ih (i + 1) _ (upd ic i 1) (upd rg 0 (nI i)) e k1 rc1 st1 _ (by omega) ((Pn.set_o hi pl e kn).set_rg hi _) (W1.frame (fun p a b => ?_)) (hI.some (by omega) he hle (fun _ => ⟨rfl, pk_us⟩) (fun a b => absurd cc (fun q => q.elim a b))) (fun p hp => ?_)
          · rw [s_ne hi (by omega), s_ne hi (by omega), s_ne hi (by omega)]
          · rw [s_ne hi (by omega), s_ne hi (by omega), s_ne hi (by omega)]; exact (FR1 p (by omega)).trans (FR p hp)
        have hrl : rl ≤ n := by rcases hI.2 with ⟨a, -⟩ | ⟨-, b, -⟩ <;> omega
        refine ⟨fun c1 => fin (Or.inl ((nI_eq (b := 0) (by omega) (by omega)).mp c1)), fun c1 => ⟨fun c2 => ?_, fun c2 => fin (Or.inr ?_)⟩⟩
        · have c1' : ¬ rl = 0 := fun q => c1 (by rw [q]; rfl)
          have c2' : ¬ e < rl := fun q => absurd c2 (nI_ge q (by omega))
          refine ih (i + 1) _ (upd ic i 1) rg rl k1 rc1 st1 _ (by omega) Pn (W1.frame (fun p a b => s_ne hi (by omega))) (hI.some (by omega) he hle (fun q => absurd q (fun q => q.elim c1' c2')) (fun _ _ => ⟨rfl, rfl⟩)) (fun p hp => ?_)
          rw [s_ne hi (by omega)]; exact (FR1 p (by omega)).trans (FR p hp)
        · exact Decidable.byContradiction fun q => c2 (nI_le (by omega) (by omega))
      · have P1 := hP.frame (h' := q) (fun p a b => FR1 p (by omega))
        have z6 := P1.2.2.2.2.2.1
        have Pn := P1.set_ic hi (upd ic i 0) (z6.upd i (Or.inl rfl))
        (show am_W G (am_M G (d + 4)) 15 K _ _ _ _ _ _; simp (disch := omega) only [u_15_0, u_15_1, u_15_2, u_15_5, u_15_6, u_15_8, u_15_9, u_15_12, u_15_15, u_15_18, u_15_19, u_15_22, u_15_23, u_15_24, u_15_27, u_15_28, u_15_31, u_15_32, u_15_33, u_15_36, u_15_37, u_15_38, u_15_41, u_15_42, u_15_43, u_15_44, u_15_47, u_15_48, u_15_51, u_15_52, u_15_53, u_15_54, u_15_57, u_15_58, u_15_59, u_15_62, u_15_63, u_15_66, u_15_69, u_15_70, u_15_71, u_15_74, u_15_77, u_15_78, u_15_79, u_15_82, u_15_83, u_15_86, u_15_87, u_15_88, u_15_89, u_15_92, u_15_96, u_15_97, u_15_98, u_15_99, u_15_102, u_15_105, u_15_106, u_15_109, u_15_110, u_15_111, u_15_112, u_15_115, u_15_116, u_15_117, u_15_118, u_15_119, u_15_120, u_15_123, u_15_124, u_15_125, u_15_128, u_15_129, u_15_132, u_15_135, f_gf_some, f_gv_some, f_pf_some, f_ia_some, f_la_some, f_aa_some, f_is_some, f_ls_some, f_rc_some, f_at0, f_atS, f_st_0, f_st_1i, f_st_1r, f_st_1l, f_st_1n, f_st_S, f_s2_0, f_s2_1i, f_s2_1r, f_s2_1l, f_s2_1n, f_s2_S, true_and, and_true, List.set_cons_zero, List.set_cons_succ, List.length_cons, List.length_nil, Nat.reduceAdd, Nat.reduceEqDiff, reduceIte, Nat.left_eq_add, Nat.add_eq_left, Nat.reduceLT, P1.1, P1.2.1, P1.2.2.2.2.1, hv, hcl, hv0, cl0, nar_z (Or.inr rfl), nar_z (Or.inl rfl), s_ne hi, s_eq, pk_us, o1, i1, mz_7, sz_7, mz_8, sz_8, mz_9, sz_9, mz_10, sz_10, mz_11, sz_11, mz_12, sz_12, mz_13, sz_13, mz_14, sz_14, mz_15, sz_15, mz_16, sz_16, mz_17, sz_17, mz_18, sz_18, mz_19, sz_19, mz_20, sz_20, mz_21, sz_21, mz_22, sz_22, mz_23, sz_23, mz_24, sz_24, mz_25, sz_25, mz_26, sz_26, mz_27, sz_27, mz_28, sz_28, mz_29, sz_29, mz_30, sz_30, mz_31, sz_31, mz_32, sz_32, mz_33, sz_33, mz_34, sz_34, mz_35, sz_35, mz_36, sz_36, mz_39, sz_39, mz_40, sz_40, mz_43, sz_43, mz_44, sz_44, mz_45, sz_45, mz_63, sz_63, mz_69, sz_69, mz_70, sz_70, mz_71, sz_71, mz_74, sz_74, mz_77, sz_77, mz_78, sz_78, mz_79, sz_79, mz_83, sz_83, mz_84, sz_84, mz_85, sz_85, mz_86, sz_86, mz_87, sz_87, mz_88, sz_88, mz_89, sz_89, mz_90, sz_90, mz_91, sz_91, mz_92, sz_92, mz_93, sz_93, mz_94, sz_94, mz_95, sz_95, mz_96, sz_96, mz_97, sz_97, mz_98, sz_98, mz_99, sz_99, mz_100, sz_100, mz_101, sz_101, mz_102, sz_102, mz_103, sz_103, mz_104, sz_104, mz_105, sz_105, mz_106, sz_106, mz_107, sz_107, mz_108, sz_108, mz_109, sz_109, mz_110, sz_110, mz_111, sz_111, mz_112, sz_112, mz_113, sz_113, mz_114, sz_114, mz_115, sz_115, mz_116, sz_116, mz_117, sz_117, mz_118, sz_118, mz_119, sz_119, mz_120, sz_120, mz_121, sz_121, mz_122, sz_122, mz_123, sz_123, mz_124, sz_124, mz_125, sz_125, mz_126, sz_126, mz_127, sz_127, mz_128, sz_128, Nat.add_zero, Option.toList, List.cons_append, List.nil_append])
        refine am_br_t trivial (am_br_t trivial (ih (i + 1) _ (upd ic i 0) rg rl k1 rc1 st1 _ (by omega) Pn (W1.frame (fun p a b => s_ne hi (by omega))) (hI.none (by omega) hno pk_us (fun x hx => pk_un hx)) (fun p hp => ?_)))
        rw [s_ne hi (by omega)]; exact (FR1 p (by omega)).trans (FR p hp)
theorem l_fc2 (hi : am_inj ad) {h0 : am_H} {ic : Nat → Int32} {L s : Nat} (hn : n ≤ 150) (hF : FM ad h0 1 n T) (hw : wfg n m T) (hs : s < n) (hLn : L ≤ n) (hL : LD T n L s s)
    (hk : ∀ h rg k rc st r, PL ad h ic ps od pl rg L kn → WA ad h k rc st su → RG T n L s L r → (∀ j, j < L → rg j = nI (r j)) → (∀ p, (p < 275 ∨ 284 ≤ p) → h (ad p) = h0 (ad p)) → K (.inl none) h) :
    ∀ (q i : Nat) (h : am_H) (rg : Nat → Int32) (r : Nat → Nat) (k : Nat) (rc st : Nat → Int32) (v : Option Value), i + q = L → 1 ≤ i → PL ad h ic ps od pl rg L kn → WA ad h k rc st su → RG T n L s i r → (∀ j, j < i → rg j = nI (r j) ∧ r j < n ∧ LD T n (L - j) (r j) s) → (∀ p, (p < 275 ∨ 284 ≤ p) → h (ad p) = h0 (ad p)) → am_W G (am_M G (d + 4)) 15 K 97 [some (.ref (ad 275)), some (.int (nI i)), v] [] h 0 0 := by
  intro q
  induction q with
  | zero =>
    intro i h rg r k rc st v hr hi1 hP hW hG hR FR
    have e : i = L := by omega
    subst e
    simp only [u_15_0, u_15_1, u_15_2, u_15_5, u_15_6, u_15_7, u_15_8, u_15_9, u_15_12, u_15_15, u_15_18, u_15_19, u_15_22, u_15_23, u_15_24, u_15_27, u_15_28, u_15_31, u_15_32, u_15_33, u_15_36, u_15_37, u_15_38, u_15_41, u_15_42, u_15_43, u_15_44, u_15_47, u_15_48, u_15_51, u_15_52, u_15_53, u_15_54, u_15_57, u_15_58, u_15_59, u_15_62, u_15_63, u_15_66, u_15_69, u_15_70, u_15_71, u_15_74, u_15_77, u_15_78, u_15_79, u_15_82, u_15_83, u_15_86, u_15_87, u_15_88, u_15_89, u_15_92, u_15_95, u_15_96, u_15_97, u_15_98, u_15_99, u_15_102, u_15_105, u_15_106, u_15_109, u_15_110, u_15_111, u_15_112, u_15_115, u_15_116, u_15_117, u_15_118, u_15_119, u_15_120, u_15_123, u_15_124, u_15_125, u_15_128, u_15_129, u_15_132, u_15_135, f_gf_some, f_gv_some, f_pf_some, f_ia_some, f_la_some, f_aa_some, f_is_some, f_ls_some, f_rc_some, f_at0, f_atS, f_st_0, f_st_1i, f_st_1r, f_st_1l, f_st_1n, f_st_S, f_s2_0, f_s2_1i, f_s2_1r, f_s2_1l, f_s2_1n, f_s2_S, true_and, and_true, List.set_cons_zero, List.set_cons_succ, List.length_cons, List.length_nil, Nat.reduceAdd, Nat.reduceEqDiff, reduceIte, Nat.left_eq_add, Nat.add_eq_left, Nat.reduceLT, hP.1]
    exact am_br_t (Int32.le_refl _) (hk h rg k rc st r hP hW hG (fun j hj => (hR j hj).1) FR)
  | succ q ih =>
    intro i h rg r k rc st v hr hi1 hP hW hG hR FR
    have hF' : FM ad h 1 n T := FO.frame hF (fun p a b => FR p (by omega))
    obtain ⟨j, rfl⟩ : ∃ j, i = j + 1 := ⟨i - 1, by omega⟩
    obtain ⟨e, he⟩ : ∃ e, L = e + (j + 1) := ⟨L - (j + 1), by omega⟩
    have hv : vp_in (nI j) 150 := vp_in_nI (by omega) (by decide)
    have hcl : (nI j).toNatClampNeg = j := nI_clamp (by omega)
    have hv1 : vp_in (nI (j + 1)) 150 := vp_in_nI (by omega) (by decide)
    have hcl1 : (nI (j + 1)).toNatClampNeg = j + 1 := nI_clamp (by omega)
    have e1 : nI (j + 1) - 1 = nI j := nI_pred j
    have e2 : nI L - nI (j + 1) = nI e := by rw [he, ← nI_add]; exact Int32.add_sub_cancel _ _
    obtain ⟨g1, g2, g3⟩ := hR j (by omega)
    have e3 : L - j = e + 1 := by omega
    rw [e3] at g3
    rw [u_15_97]
    simp only [u_15_0, u_15_1, u_15_2, u_15_5, u_15_6, u_15_7, u_15_8, u_15_9, u_15_12, u_15_15, u_15_18, u_15_19, u_15_22, u_15_23, u_15_24, u_15_27, u_15_28, u_15_31, u_15_32, u_15_33, u_15_36, u_15_37, u_15_38, u_15_41, u_15_42, u_15_43, u_15_44, u_15_47, u_15_48, u_15_51, u_15_52, u_15_53, u_15_54, u_15_57, u_15_58, u_15_59, u_15_62, u_15_63, u_15_66, u_15_69, u_15_70, u_15_71, u_15_74, u_15_77, u_15_78, u_15_79, u_15_82, u_15_83, u_15_86, u_15_87, u_15_88, u_15_89, u_15_92, u_15_95, u_15_96, u_15_98, u_15_99, u_15_102, u_15_105, u_15_106, u_15_109, u_15_110, u_15_111, u_15_112, u_15_115, u_15_116, u_15_117, u_15_118, u_15_119, u_15_120, u_15_123, u_15_124, u_15_125, u_15_128, u_15_129, u_15_132, u_15_135, f_gf_some, f_gv_some, f_pf_some, f_ia_some, f_la_some, f_aa_some, f_is_some, f_ls_some, f_rc_some, f_at0, f_atS, f_st_0, f_st_1i, f_st_1r, f_st_1l, f_st_1n, f_st_S, f_s2_0, f_s2_1i, f_s2_1r, f_s2_1l, f_s2_1n, f_s2_S, true_and, and_true, List.set_cons_zero, List.set_cons_succ, List.length_cons, List.length_nil, Nat.reduceAdd, Nat.reduceEqDiff, reduceIte, Nat.left_eq_add, Nat.add_eq_left, Nat.reduceLT, hP.1, hP.2.2.2.2.1, hv, hcl, e1, e2, g1]
    have hr0 : rg 0 = nI s := by rw [(hR 0 (by omega)).1, hG.1]
    refine am_br_f (nI_ge (by omega) (by omega)) ⟨(by first | decide | exact ⟨Nat.le_of_ble_eq_true rfl, Nat.le_of_ble_eq_true rfl, Nat.le_of_ble_eq_true rfl⟩), c_findNext hi hn hF' hw hP hW hr0 hs g2 (by omega) (by omega) g3 (fun c' hc' q1 k1 rc1 st1 W1 FR1 => ?_)⟩
    have P1 := hP.frame (h' := q1) (fun p a b => FR1 p (by omega))
    (show am_W G (am_M G (d + 4)) 15 K _ _ _ _ _ _; simp only [u_15_0, u_15_1, u_15_2, u_15_5, u_15_6, u_15_7, u_15_8, u_15_9, u_15_12, u_15_15, u_15_18, u_15_19, u_15_22, u_15_23, u_15_24, u_15_27, u_15_28, u_15_31, u_15_32, u_15_33, u_15_36, u_15_37, u_15_38, u_15_41, u_15_42, u_15_43, u_15_44, u_15_47, u_15_48, u_15_51, u_15_52, u_15_53, u_15_54, u_15_57, u_15_58, u_15_59, u_15_62, u_15_63, u_15_66, u_15_69, u_15_70, u_15_71, u_15_74, u_15_77, u_15_78, u_15_79, u_15_82, u_15_83, u_15_86, u_15_87, u_15_88, u_15_89, u_15_92, u_15_95, u_15_96, u_15_98, u_15_99, u_15_102, u_15_105, u_15_106, u_15_109, u_15_110, u_15_111, u_15_112, u_15_115, u_15_116, u_15_117, u_15_118, u_15_119, u_15_120, u_15_123, u_15_124, u_15_125, u_15_128, u_15_129, u_15_132, u_15_135, f_gf_some, f_gv_some, f_pf_some, f_ia_some, f_la_some, f_aa_some, f_is_some, f_ls_some, f_rc_some, f_at0, f_atS, f_st_0, f_st_1i, f_st_1r, f_st_1l, f_st_1n, f_st_S, f_s2_0, f_s2_1i, f_s2_1r, f_s2_1l, f_s2_1n, f_s2_S, true_and, and_true, List.set_cons_zero, List.set_cons_succ, List.length_cons, List.length_nil, Nat.reduceAdd, Nat.reduceEqDiff, reduceIte, Nat.left_eq_add, Nat.add_eq_left, Nat.reduceLT, P1.2.2.2.2.1, hv1, hcl1, o1, i1, mz_7, sz_7, mz_8, sz_8, mz_9, sz_9, mz_10, sz_10, mz_11, sz_11, mz_12, sz_12, mz_13, sz_13, mz_14, sz_14, mz_15, sz_15, mz_16, sz_16, mz_17, sz_17, mz_18, sz_18, mz_19, sz_19, mz_20, sz_20, mz_21, sz_21, mz_22, sz_22, mz_23, sz_23, mz_24, sz_24, mz_25, sz_25, mz_26, sz_26, mz_27, sz_27, mz_28, sz_28, mz_29, sz_29, mz_30, sz_30, mz_31, sz_31, mz_32, sz_32, mz_33, sz_33, mz_34, sz_34, mz_35, sz_35, mz_36, sz_36, mz_39, sz_39, mz_40, sz_40, mz_43, sz_43, mz_44, sz_44, mz_45, sz_45, mz_63, sz_63, mz_69, sz_69, mz_70, sz_70, mz_71, sz_71, mz_74, sz_74, mz_77, sz_77, mz_78, sz_78, mz_79, sz_79, mz_83, sz_83, mz_84, sz_84, mz_85, sz_85, mz_86, sz_86, mz_87, sz_87, mz_88, sz_88, mz_89, sz_89, mz_90, sz_90, mz_91, sz_91, mz_92, sz_92, mz_93, sz_93, mz_94, sz_94, mz_95, sz_95, mz_96, sz_96, mz_97, sz_97, mz_98, sz_98, mz_99, sz_99, mz_100, sz_100, mz_101, sz_101, mz_102, sz_102, mz_103, sz_103, mz_104, sz_104, mz_105, sz_105, mz_106, sz_106, mz_107, sz_107, mz_108, sz_108, mz_109, sz_109, mz_110, sz_110, mz_111, sz_111, mz_112, sz_112, mz_113, sz_113, mz_114, sz_114, mz_115, sz_115, mz_116, sz_116, mz_117, sz_117, mz_118, sz_118, mz_119, sz_119, mz_120, sz_120, mz_121, sz_121, mz_122, sz_122, mz_123, sz_123, mz_124, sz_124, mz_125, sz_125, mz_126, sz_126, mz_127, sz_127, mz_128, sz_128, Nat.add_zero, Option.toList, List.cons_append, List.nil_append])
    have rne : ∀ l, l ≤ j → va_up r (j + 1) c' l = r l := fun l hl => va_up_ne _ _ (by omega)
    refine ih (j + 1 + 1) _ (upd rg (j + 1) (nI c')) (va_up r (j + 1) c') k1 rc1 st1 v (by omega) (by omega) (P1.set_rg hi _) (W1.frame (fun p a b => s_ne hi (by omega))) ⟨(rne 0 (by omega)).trans hG.1, fun l hl => ?_⟩ (fun l hl => ?_) (fun p hp => ?_)
    · by_cases e4 : l = j
      · subst e4
        rw [va_up_self, rne l (by omega), show L - 1 - l = e by omega]; exact hc'
      · rw [rne l (by omega), rne (l + 1) (by omega)]; exact hG.2 l (by omega)
    · by_cases e4 : l = j + 1
      · subst e4
        rw [pk_us, va_up_self, show L - (j + 1) = e by omega]; exact ⟨rfl, hc'.1, hc'.2.2.1⟩
      · rw [pk_un e4, rne l (by omega)]; exact hR l (by omega)
    · rw [s_ne hi (by omega)]; exact (FR1 p (by omega)).trans (FR p hp)
theorem c_findCircles (hi : am_inj ad) {h : am_H} {ic rg : Nat → Int32} {rl k : Nat} {rc st : Nat → Int32} (hn : n ≤ 150) (hF : FM ad h 1 n T) (hw : wfg n m T) (hps : ∀ x, x < n → (ps x = 1 ∧ NW T n x x) ∨ ps x = 0) (hic : ∀ x, x < n → ic x = 0) (hP : PL ad h ic ps od pl rg rl kn) (hW : WA ad h k rc st su)
    (hk : ∀ h' ic rg rl k rc st, PL ad h' ic ps od pl rg rl kn → WA ad h' k rc st su → rp n ic (circ T n) → RGF T n rg rl → (∀ p, (p < 275 ∨ 284 ≤ p) → h' (ad p) = h (ad p)) → K (.inl none) h') : am_M G (d + 5) 15 [.ref (ad 275)] h K := by
  refine n_15 (d := d + 4) ?_
  simp only [u_15_0, u_15_1, u_15_2, u_15_5, u_15_6, u_15_8, u_15_9, u_15_12, u_15_15, u_15_18, u_15_19, u_15_22, u_15_23, u_15_24, u_15_27, u_15_28, u_15_31, u_15_32, u_15_33, u_15_36, u_15_37, u_15_38, u_15_41, u_15_42, u_15_43, u_15_44, u_15_47, u_15_48, u_15_51, u_15_52, u_15_53, u_15_54, u_15_57, u_15_58, u_15_59, u_15_62, u_15_63, u_15_66, u_15_69, u_15_70, u_15_71, u_15_74, u_15_77, u_15_78, u_15_79, u_15_82, u_15_83, u_15_86, u_15_87, u_15_88, u_15_89, u_15_92, u_15_95, u_15_96, u_15_97, u_15_98, u_15_99, u_15_102, u_15_105, u_15_106, u_15_109, u_15_110, u_15_111, u_15_112, u_15_115, u_15_116, u_15_117, u_15_118, u_15_119, u_15_120, u_15_123, u_15_124, u_15_125, u_15_128, u_15_129, u_15_132, u_15_135, f_gf_some, f_gv_some, f_pf_some, f_ia_some, f_la_some, f_aa_some, f_is_some, f_ls_some, f_rc_some, f_at0, f_atS, f_st_0, f_st_1i, f_st_1r, f_st_1l, f_st_1n, f_st_S, f_s2_0, f_s2_1i, f_s2_1r, f_s2_1l, f_s2_1n, f_s2_S, true_and, and_true, List.set_cons_zero, List.set_cons_succ, List.length_cons, List.length_nil, Nat.reduceAdd, Nat.reduceEqDiff, reduceIte, Nat.left_eq_add, Nat.add_eq_left, Nat.reduceLT, hP.1]
  refine l_fc1 (h0 := h) hi hn hF hw hps (fun q ic1 rg1 rl1 k1 rc1 st1 v P1 W1 I1 FR => ?_) n 0 _ ic rg 0 k rc st none (by omega) (hP.set_o hi pl 0 kn) (hW.frame (fun p a b => s_ne hi (by omega))) ⟨fun x hx => ⟨fun q => absurd q (Nat.not_lt_zero x), fun _ => hic x hx⟩, Or.inl ⟨rfl, fun x hx => absurd hx (Nat.not_lt_zero x)⟩⟩ (fun p hp => s_ne hi (by omega))
  have hrp : rp n ic1 (circ T n) := fun x hx => (I1.1 x hx).1 hx
  simp only [u_15_0, u_15_1, u_15_2, u_15_5, u_15_6, u_15_7, u_15_8, u_15_9, u_15_12, u_15_15, u_15_18, u_15_19, u_15_22, u_15_23, u_15_24, u_15_27, u_15_28, u_15_31, u_15_32, u_15_33, u_15_36, u_15_37, u_15_38, u_15_41, u_15_42, u_15_43, u_15_44, u_15_47, u_15_48, u_15_51, u_15_52, u_15_53, u_15_54, u_15_57, u_15_58, u_15_59, u_15_62, u_15_63, u_15_66, u_15_69, u_15_70, u_15_71, u_15_74, u_15_77, u_15_78, u_15_79, u_15_82, u_15_83, u_15_86, u_15_87, u_15_88, u_15_89, u_15_92, u_15_95, u_15_96, u_15_98, u_15_99, u_15_102, u_15_105, u_15_106, u_15_109, u_15_110, u_15_111, u_15_112, u_15_115, u_15_116, u_15_117, u_15_118, u_15_119, u_15_120, u_15_123, u_15_124, u_15_125, u_15_128, u_15_129, u_15_132, u_15_135, f_gf_some, f_gv_some, f_pf_some, f_ia_some, f_la_some, f_aa_some, f_is_some, f_ls_some, f_rc_some, f_at0, f_atS, f_st_0, f_st_1i, f_st_1r, f_st_1l, f_st_1n, f_st_S, f_s2_0, f_s2_1i, f_s2_1r, f_s2_1l, f_s2_1n, f_s2_S, true_and, and_true, List.set_cons_zero, List.set_cons_succ, List.length_cons, List.length_nil, Nat.reduceAdd, Nat.reduceEqDiff, reduceIte, Nat.left_eq_add, Nat.add_eq_left, Nat.reduceLT]
  rcases I1.2 with ⟨a, b⟩ | ⟨a, b, s, c, e⟩
  · subst a
    simp only [u_15_0, u_15_1, u_15_2, u_15_5, u_15_6, u_15_7, u_15_8, u_15_9, u_15_12, u_15_15, u_15_18, u_15_19, u_15_22, u_15_23, u_15_24, u_15_27, u_15_28, u_15_31, u_15_32, u_15_33, u_15_36, u_15_37, u_15_38, u_15_41, u_15_42, u_15_43, u_15_44, u_15_47, u_15_48, u_15_51, u_15_52, u_15_53, u_15_54, u_15_57, u_15_58, u_15_59, u_15_62, u_15_63, u_15_66, u_15_69, u_15_70, u_15_71, u_15_74, u_15_77, u_15_78, u_15_79, u_15_82, u_15_83, u_15_86, u_15_87, u_15_88, u_15_89, u_15_92, u_15_95, u_15_96, u_15_97, u_15_98, u_15_99, u_15_102, u_15_105, u_15_106, u_15_109, u_15_110, u_15_111, u_15_112, u_15_115, u_15_116, u_15_117, u_15_118, u_15_119, u_15_120, u_15_123, u_15_124, u_15_125, u_15_128, u_15_129, u_15_132, u_15_135, f_gf_some, f_gv_some, f_pf_some, f_ia_some, f_la_some, f_aa_some, f_is_some, f_ls_some, f_rc_some, f_at0, f_atS, f_st_0, f_st_1i, f_st_1r, f_st_1l, f_st_1n, f_st_S, f_s2_0, f_s2_1i, f_s2_1r, f_s2_1l, f_s2_1n, f_s2_S, true_and, and_true, List.set_cons_zero, List.set_cons_succ, List.length_cons, List.length_nil, Nat.reduceAdd, Nat.reduceEqDiff, reduceIte, Nat.left_eq_add, Nat.add_eq_left, Nat.reduceLT, P1.1]
    exact am_br_t (by decide) (hk q ic1 rg1 0 k1 rc1 st1 P1 W1 hrp (Or.inl ⟨rfl, fun c q => b c q.1 q⟩) FR)
  · refine l_fc2 (h0 := h) hi hn hF hw c.1 b c.2.1 (fun q2 rg2 k2 rc2 st2 r2 P2 W2 G2 R2 FR2 => hk q2 ic1 rg2 rl1 k2 rc2 st2 P2 W2 hrp (Or.inr ⟨a, b, s, r2, c, G2, R2⟩) FR2) (rl1 - 1) 1 q rg1 (fun _ => s) k1 rc1 st1 v (by omega) (by omega) P1 W1 ⟨rfl, fun j hj => by omega⟩ (fun j hj => ?_) FR
    have e0 : j = 0 := by omega
    subst e0
    exact ⟨e, c.1, c.2.1⟩
end Ci

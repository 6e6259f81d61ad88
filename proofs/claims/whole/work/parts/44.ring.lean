-- circles, the ring
def circ (T : FT) (n c : Nat) : Prop := c < n ∧ ¬ NW T n c c
/-- of the first i cells, L is the least length of a circle, s the lowest cell that has it -/
def RB (T : FT) (n i L s : Nat) : Prop := s < i ∧ LD T n L s s ∧ ∀ c, c < i → ∀ e, LD T n e c c → L ≤ e ∧ (c < s → L < e)
/-- the lowest operand from which s is come to by e uses -/
def RX (T : FT) (n s e c c' : Nat) : Prop := c' < n ∧ ed T c c' ∧ LD T n e c' s ∧ ∀ y, y < n → ed T c y → LD T n e y s → c' ≤ y
def RG (T : FT) (n L s i : Nat) (r : Nat → Nat) : Prop := r 0 = s ∧ ∀ j, j + 1 < i → RX T n s (L - 1 - j) (r j) (r (j + 1))
theorem RX.uniq {T : FT} {n s e c x y : Nat} (h : RX T n s e c x) (h' : RX T n s e c y) : x = y := Nat.le_antisymm (h.2.2.2 y h'.1 h'.2.1 h'.2.2.1) (h'.2.2.2 x h.1 h.2.1 h.2.2.1)
theorem LD.step {T : FT} {n e c s : Nat} (he : 1 ≤ e) (h : LD T n (e + 1) c s) : ∃ y, y < n ∧ ed T c y ∧ LD T n e y s := by
  obtain ⟨h1, ⟨y, hy, h2, h3⟩, h4⟩ := h
  refine ⟨y, hy, h2, he, h3, fun e' he' hw => ?_⟩
  have := h4 (e' + 1) (by omega) ⟨y, hy, h2, hw⟩
  omega
theorem RB.uniq {T : FT} {n i L s L' s' : Nat} (h : RB T n i L s) (h' : RB T n i L' s') : L = L' ∧ s = s' := by
  obtain ⟨a1, a2, a3⟩ := h
  obtain ⟨b1, b2, b3⟩ := h'
  have c1 := a3 s' b1 L' b2
  have c2 := b3 s a1 L a2
  have e : L = L' := Nat.le_antisymm c1.1 c2.1
  refine ⟨e, ?_⟩
  rcases Nat.lt_trichotomy s s' with q | q | q
  · have := c2.2 q; omega
  · exact q
  · have := c1.2 q; omega
theorem RG.uniq {T : FT} {n L s i : Nat} {r r' : Nat → Nat} (h : RG T n L s i r) (h' : RG T n L s i r') : ∀ j, j < i → r j = r' j := by
  intro j
  induction j with
  | zero => intro _; rw [h.1, h'.1]
  | succ j ih =>
    intro hj
    have h1 := h.2 j hj
    rw [ih (by omega)] at h1
    exact h1.uniq (h'.2 j hj)
section Rn
variable {G : am_G} {d : Nat} {K : am_K} {ad : Nat → Nat} {n m : Nat} {T : FT} {ps od : Nat → Int32} {pl : Nat} {kn : Int32}
theorem i32_min {a b x : Int32} (h : ¬ (if b < a then b else a) = x) (hx : x = a ∨ x = b) : x = (if a < b then b else a) := by
  by_cases c : b < a
  · rw [if_pos c] at h
    rw [if_neg (Int32.lt_asymm c)]
    exact hx.resolve_right (fun q => h q.symm)
  · rw [if_neg c] at h
    have := hx.resolve_left (fun q => h q.symm)
    by_cases c2 : a < b
    · rw [if_pos c2]; exact this
    · exact absurd (Int32.le_antisymm (Int32.not_lt.mp c) (Int32.not_lt.mp c2)) (fun q => h (by rw [this, q]))
theorem c_findNext (hi : am_inj ad) {h : am_H} {ic rg : Nat → Int32} {rl s c e k : Nat} {rc st su : Nat → Int32} (hn : n ≤ 150) (hF : FM ad h 1 n T) (hw : wfg n m T) (hP : PL ad h ic ps od pl rg rl kn) (hW : WA ad h k rc st su) (hr0 : rg 0 = nI s) (hs : s < n) (hc : c < n) (he : 1 ≤ e) (hen : e ≤ n) (hL : LD T n (e + 1) c s)
    (hk : ∀ c', RX T n s e c c' → ∀ h' k' rc' st', WA ad h' k' rc' st' su → (∀ p, (p < 280 ∨ 284 ≤ p) → h' (ad p) = h (ad p)) → K (.inl (some (.int (nI c')))) h') : am_M G (d + 4) 19 [.ref (ad 275), .int (nI c), .int (nI e)] h K := by
  refine n_19 (d := d + 3) ?_
  have hv : vp_in (nI c) 150 := vp_in_nI (by omega) (by decide)
  have hcl : (nI c).toNatClampNeg = c := nI_clamp (by omega)
  have hv0 : vp_in 0 150 := vp_in_nI (n := 0) (by decide) (by decide)
  have hw0 : am_words [] ≤ 8 := by decide
  obtain ⟨w1, w2⟩ := hw c hc
  obtain ⟨u, hu, hu2, hu3⟩ := hL.step he
  have hu4 : nI u = T.2.1 c ∨ nI u = T.2.2 c := hu2.elim (fun q => Or.inl q.symm) (fun q => Or.inr q.symm)
  simp only [u_19_0, u_19_1, u_19_4, u_19_7, u_19_8, u_19_9, u_19_10, u_19_13, u_19_16, u_19_17, u_19_18, u_19_21, u_19_22, u_19_23, u_19_26, u_19_29, u_19_30, u_19_31, u_19_32, u_19_35, u_19_38, u_19_39, u_19_40, u_19_43, u_19_45, u_19_46, u_19_49, u_19_50, u_19_53, u_19_54, u_19_55, u_19_58, u_19_59, u_19_60, u_19_63, u_19_64, u_19_67, u_19_68, u_19_71, u_19_73, f_gf_some, f_gv_some, f_pf_some, f_ia_some, f_la_some, f_aa_some, f_is_some, f_ls_some, f_rc_some, f_at0, f_atS, f_st_0, f_st_1i, f_st_1r, f_st_1l, f_st_1n, f_st_S, f_s2_0, f_s2_1i, f_s2_1r, f_s2_1l, f_s2_1n, f_s2_S, true_and, and_true, List.set_cons_zero, List.set_cons_succ, List.length_cons, List.length_nil, Nat.reduceAdd, Nat.reduceEqDiff, reduceIte, Nat.left_eq_add, Nat.add_eq_left, Nat.reduceLT, hP.1, hP.2.2.2.2.1, hF.1, hF.2.2.1, hF.2.2.2, hv, hcl, hv0, hw0, cl0, hr0, hW.1]
  have hmn : ∀ y, nI y = T.2.1 c ∨ nI y = T.2.2 c → (if T.2.2 c < T.2.1 c then T.2.2 c else T.2.1 c) ≤ nI y := fun y q => by
    by_cases c2 : T.2.2 c < T.2.1 c
    · rw [if_pos c2]
      rcases q with q | q
      · rw [q]; exact Int32.le_of_lt c2
      · rw [q]; exact Int32.le_refl _
    · rw [if_neg c2]
      rcases q with q | q
      · rw [q]; exact Int32.le_refl _
      · rw [q]; exact Int32.not_lt.mp c2
  have hlo : okx n m (if T.2.2 c < T.2.1 c then T.2.2 c else T.2.1 c) := by
    by_cases c2 : T.2.2 c < T.2.1 c
    · rw [if_pos c2]; exact w2
    · rw [if_neg c2]; exact w1
  have hlo2 : ∀ y, (if T.2.2 c < T.2.1 c then T.2.2 c else T.2.1 c) = nI y → ed T c y := fun y q => by
    by_cases c2 : T.2.2 c < T.2.1 c
    · rw [if_pos c2] at q; exact Or.inr q
    · rw [if_neg c2] at q; exact Or.inl q
  -- the higher one, where the lower one does not close
  have high : (∀ y, y < n → (if T.2.2 c < T.2.1 c then T.2.2 c else T.2.1 c) = nI y → ¬ LD T n e y s) → ∀ h' k' rc' st', WA ad h' k' rc' st' su → (∀ p, (p < 280 ∨ 284 ≤ p) → h' (ad p) = h (ad p)) → K (.inl (some (.int (if T.2.1 c < T.2.2 c then T.2.2 c else T.2.1 c)))) h' := fun hno h' k' rc' st' W' FR => by
    have e1 : nI u = (if T.2.1 c < T.2.2 c then T.2.2 c else T.2.1 c) := i32_min (fun q => hno u hu q hu3) hu4
    rw [← e1]
    refine hk u ⟨hu, hu2, hu3, fun y hy hy2 hy3 => ?_⟩ h' k' rc' st' W' FR
    have hy4 : nI y = T.2.1 c ∨ nI y = T.2.2 c := hy2.elim (fun q => Or.inl q.symm) (fun q => Or.inr q.symm)
    have e2 : nI y = (if T.2.1 c < T.2.2 c then T.2.2 c else T.2.1 c) := i32_min (fun q => hno y hy q hy3) hy4
    rw [← e1] at e2
    exact Nat.le_of_eq ((nI_eq (by omega) (by omega)).mp e2).symm
  generalize (if T.2.2 c < T.2.1 c then T.2.2 c else T.2.1 c) = lo at hmn hlo hlo2 high ⊢
  refine ⟨fun c1 => high (fun y hy q => ?_) h k rc st hW (fun _ _ => rfl), fun c1 => ⟨(by first | decide | exact ⟨Nat.le_of_ble_eq_true rfl, Nat.le_of_ble_eq_true rfl, Nat.le_of_ble_eq_true rfl⟩), ?_⟩⟩
  · rw [q] at c1; exact absurd c1 (nI_pos (by omega))
  rcases hlo with ⟨q, -⟩ | ⟨y, hy, rfl⟩
  · exact absurd q c1
  refine c_countSteps hi hn hF hw hy hs hW (fun e2 he2 hle2 h' k' rc' st' W' FR => ?_) (fun hno h' k' rc' st' W' FR => ?_)
  · (show am_W G (am_M G (d + 3)) 19 K _ _ _ _ _ _; simp only [u_19_0, u_19_1, u_19_4, u_19_7, u_19_8, u_19_9, u_19_10, u_19_13, u_19_16, u_19_17, u_19_18, u_19_21, u_19_22, u_19_23, u_19_26, u_19_29, u_19_30, u_19_31, u_19_32, u_19_35, u_19_38, u_19_39, u_19_40, u_19_43, u_19_45, u_19_46, u_19_49, u_19_50, u_19_53, u_19_54, u_19_55, u_19_58, u_19_59, u_19_60, u_19_63, u_19_64, u_19_67, u_19_68, u_19_71, u_19_73, f_gf_some, f_gv_some, f_pf_some, f_ia_some, f_la_some, f_aa_some, f_is_some, f_ls_some, f_rc_some, f_at0, f_atS, f_st_0, f_st_1i, f_st_1r, f_st_1l, f_st_1n, f_st_S, f_s2_0, f_s2_1i, f_s2_1r, f_s2_1l, f_s2_1n, f_s2_S, true_and, and_true, List.set_cons_zero, List.set_cons_succ, List.length_cons, List.length_nil, Nat.reduceAdd, Nat.reduceEqDiff, reduceIte, Nat.left_eq_add, Nat.add_eq_left, Nat.reduceLT, mz_7, sz_7, mz_8, sz_8, mz_9, sz_9, mz_10, sz_10, mz_11, sz_11, mz_12, sz_12, mz_13, sz_13, mz_14, sz_14, mz_15, sz_15, mz_16, sz_16, mz_17, sz_17, mz_18, sz_18, mz_19, sz_19, mz_20, sz_20, mz_21, sz_21, mz_22, sz_22, mz_23, sz_23, mz_24, sz_24, mz_25, sz_25, mz_26, sz_26, mz_27, sz_27, mz_28, sz_28, mz_29, sz_29, mz_30, sz_30, mz_31, sz_31, mz_32, sz_32, mz_33, sz_33, mz_34, sz_34, mz_35, sz_35, mz_36, sz_36, mz_39, sz_39, mz_40, sz_40, mz_43, sz_43, mz_44, sz_44, mz_45, sz_45, mz_63, sz_63, mz_69, sz_69, mz_70, sz_70, mz_71, sz_71, mz_74, sz_74, mz_77, sz_77, mz_78, sz_78, mz_79, sz_79, mz_83, sz_83, mz_84, sz_84, mz_85, sz_85, mz_86, sz_86, mz_87, sz_87, mz_88, sz_88, mz_89, sz_89, mz_90, sz_90, mz_91, sz_91, mz_92, sz_92, mz_93, sz_93, mz_94, sz_94, mz_95, sz_95, mz_96, sz_96, mz_97, sz_97, mz_98, sz_98, mz_99, sz_99, mz_100, sz_100, mz_101, sz_101, mz_102, sz_102, mz_103, sz_103, mz_104, sz_104, mz_105, sz_105, mz_106, sz_106, mz_107, sz_107, mz_108, sz_108, mz_109, sz_109, mz_110, sz_110, mz_111, sz_111, mz_112, sz_112, mz_113, sz_113, mz_114, sz_114, mz_115, sz_115, mz_116, sz_116, mz_117, sz_117, mz_118, sz_118, mz_119, sz_119, mz_120, sz_120, mz_121, sz_121, mz_122, sz_122, mz_123, sz_123, mz_124, sz_124, mz_125, sz_125, mz_126, sz_126, mz_127, sz_127, mz_128, sz_128, Nat.add_zero, Option.toList, List.cons_append, List.nil_append])
    refine ⟨fun c2 => high (fun y2 hy2 q q2 => ?_) h' k' rc' st' W' FR, fun c2 => hk y ⟨hy, hlo2 y rfl, ?_, fun y2 hy2 q _ => ?_⟩ h' k' rc' st' W' FR⟩
    · rw [← (nI_eq (by omega) (by omega)).mp q] at q2
      exact c2 (by rw [he2.uniq q2])
    · rw [← (nI_eq (by omega) (by omega)).mp (Decidable.not_not.mp c2)]; exact he2
    · exact (nI_leI (by omega) (by omega)).mp (hmn y2 (q.elim (fun q => Or.inl q.symm) (fun q => Or.inr q.symm)))
  · (show am_W G (am_M G (d + 3)) 19 K _ _ _ _ _ _; simp only [u_19_0, u_19_1, u_19_4, u_19_7, u_19_8, u_19_9, u_19_10, u_19_13, u_19_16, u_19_17, u_19_18, u_19_21, u_19_22, u_19_23, u_19_26, u_19_29, u_19_30, u_19_31, u_19_32, u_19_35, u_19_38, u_19_39, u_19_40, u_19_43, u_19_45, u_19_46, u_19_49, u_19_50, u_19_53, u_19_54, u_19_55, u_19_58, u_19_59, u_19_60, u_19_63, u_19_64, u_19_67, u_19_68, u_19_71, u_19_73, f_gf_some, f_gv_some, f_pf_some, f_ia_some, f_la_some, f_aa_some, f_is_some, f_ls_some, f_rc_some, f_at0, f_atS, f_st_0, f_st_1i, f_st_1r, f_st_1l, f_st_1n, f_st_S, f_s2_0, f_s2_1i, f_s2_1r, f_s2_1l, f_s2_1n, f_s2_S, true_and, and_true, List.set_cons_zero, List.set_cons_succ, List.length_cons, List.length_nil, Nat.reduceAdd, Nat.reduceEqDiff, reduceIte, Nat.left_eq_add, Nat.add_eq_left, Nat.reduceLT, mz_7, sz_7, mz_8, sz_8, mz_9, sz_9, mz_10, sz_10, mz_11, sz_11, mz_12, sz_12, mz_13, sz_13, mz_14, sz_14, mz_15, sz_15, mz_16, sz_16, mz_17, sz_17, mz_18, sz_18, mz_19, sz_19, mz_20, sz_20, mz_21, sz_21, mz_22, sz_22, mz_23, sz_23, mz_24, sz_24, mz_25, sz_25, mz_26, sz_26, mz_27, sz_27, mz_28, sz_28, mz_29, sz_29, mz_30, sz_30, mz_31, sz_31, mz_32, sz_32, mz_33, sz_33, mz_34, sz_34, mz_35, sz_35, mz_36, sz_36, mz_39, sz_39, mz_40, sz_40, mz_43, sz_43, mz_44, sz_44, mz_45, sz_45, mz_63, sz_63, mz_69, sz_69, mz_70, sz_70, mz_71, sz_71, mz_74, sz_74, mz_77, sz_77, mz_78, sz_78, mz_79, sz_79, mz_83, sz_83, mz_84, sz_84, mz_85, sz_85, mz_86, sz_86, mz_87, sz_87, mz_88, sz_88, mz_89, sz_89, mz_90, sz_90, mz_91, sz_91, mz_92, sz_92, mz_93, sz_93, mz_94, sz_94, mz_95, sz_95, mz_96, sz_96, mz_97, sz_97, mz_98, sz_98, mz_99, sz_99, mz_100, sz_100, mz_101, sz_101, mz_102, sz_102, mz_103, sz_103, mz_104, sz_104, mz_105, sz_105, mz_106, sz_106, mz_107, sz_107, mz_108, sz_108, mz_109, sz_109, mz_110, sz_110, mz_111, sz_111, mz_112, sz_112, mz_113, sz_113, mz_114, sz_114, mz_115, sz_115, mz_116, sz_116, mz_117, sz_117, mz_118, sz_118, mz_119, sz_119, mz_120, sz_120, mz_121, sz_121, mz_122, sz_122, mz_123, sz_123, mz_124, sz_124, mz_125, sz_125, mz_126, sz_126, mz_127, sz_127, mz_128, sz_128, Nat.add_zero, Option.toList, List.cons_append, List.nil_append])
    refine am_br_t (fun q => nI_m1 (by omega) q.symm) (high (fun y2 hy2 q q2 => ?_) h' k' rc' st' W' FR)
    rw [← (nI_eq (by omega) (by omega)).mp q] at q2
    exact q2.not hno
end Rn

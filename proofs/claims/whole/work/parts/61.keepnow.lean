-- the reference keeps the present time
def kH (H : Nat → Sl) (th : Nat) (z : Sl) : Nat → Sl := if th < 16 then va_up H th z else va_up (fun u => H (u + 1)) 15 z
section Kn
variable {G : am_G} {d : Nat} {K : am_K} {ad : Nat → Nat} {h : am_H} {t : Int32} {n m : Nat} {z : Sl} {H : Nat → Sl} {th pc : Nat} {C : Nat → Nat × FT × FT} {wc : Nat} {wl : Nat → Int32} {wa : Int32}
/-- the rows' part of RW -/
def RV (A : Nat → Nat → Int32) (B : Nat → Nat → Int64) (n : Nat) (z : Sl) (H : Nat → Sl) (th pc : Nat) (C : Nat → Nat × FT × FT) (wc : Nat) (wl : Nat → Int32) : Prop := Rq A B 16 z ∧ Wq n A 16 z ∧ HQ n A B th H ∧ RC A pc C ∧ ∀ i, i < wc → A 17 i = wl i
theorem l_kn (hi : am_inj ad) {h0 : am_H} (hn : n ≤ 150)
    (hk : ∀ h A B, MD ad h t m n pc 15 wc wa A B → RV A B n z (fun u => H (u + 1)) 15 pc C wc wl → fr322 ad h0 h → am_W G (am_M G (d + 1)) 93 K 43 [some (.ref (ad 322)), some (.int (nI 15))] [] h 0 0) :
    ∀ (r u : Nat) (h : am_H) (A : Nat → Nat → Int32) (B : Nat → Nat → Int64), u + r = 15 → MD ad h t m n pc 15 wc wa A B → RV A B n z (fun v => if v < u then H (v + 1) else H v) 16 pc C wc wl → fr322 ad h0 h → am_W G (am_M G (d + 1)) 93 K 21 [some (.ref (ad 322)), some (.int (nI u))] [] h 0 0 := by
  intro r
  induction r with
  | zero =>
    intro u h A B hr hM hV FR
    have e : u = 15 := by omega
    subst e
    simp only [u_93_0, u_93_1, u_93_4, u_93_6, u_93_9, u_93_10, u_93_11, u_93_14, u_93_15, u_93_16, u_93_19, u_93_20, u_93_21, u_93_22, u_93_23, u_93_26, u_93_29, u_93_30, u_93_31, u_93_32, u_93_33, u_93_34, u_93_37, u_93_40, u_93_44, u_93_45, u_93_48, u_93_50, u_93_53, u_93_54, u_93_55, u_93_58, u_93_59, u_93_60, u_93_63, f_gf_some, f_gv_some, f_pf_some, f_ia_some, f_la_some, f_aa_some, f_is_some, f_ls_some, f_rc_some, f_at0, f_atS, f_st_0, f_st_1i, f_st_1r, f_st_1l, f_st_1n, f_st_S, f_s2_0, f_s2_1i, f_s2_1r, f_s2_1l, f_s2_1n, f_s2_S, true_and, and_true, List.set_cons_zero, List.set_cons_succ, List.length_cons, List.length_nil, Nat.reduceAdd, Nat.reduceEqDiff, reduceIte, Nat.left_eq_add, Nat.add_eq_left, Nat.reduceLT, hM.1, MO]
    refine am_br_t (Int32.le_refl _) (hk h A B hM ⟨hV.1, hV.2.1, fun v hv => ?_, hV.2.2.2⟩ FR)
    have := hV.2.2.1 v (by omega)
    simp only [hv, if_true] at this
    exact this
  | succ r ih =>
    intro u h A B hr hM hV FR
    rw [u_93_21]
    simp only [u_93_0, u_93_1, u_93_4, u_93_6, u_93_9, u_93_10, u_93_11, u_93_14, u_93_15, u_93_16, u_93_19, u_93_20, u_93_22, u_93_23, u_93_26, u_93_29, u_93_30, u_93_31, u_93_32, u_93_33, u_93_34, u_93_37, u_93_40, u_93_44, u_93_45, u_93_48, u_93_50, u_93_53, u_93_54, u_93_55, u_93_58, u_93_59, u_93_60, u_93_63, f_gf_some, f_gv_some, f_pf_some, f_ia_some, f_la_some, f_aa_some, f_is_some, f_ls_some, f_rc_some, f_at0, f_atS, f_st_0, f_st_1i, f_st_1r, f_st_1l, f_st_1n, f_st_S, f_s2_0, f_s2_1i, f_s2_1r, f_s2_1l, f_s2_1n, f_s2_S, true_and, and_true, List.set_cons_zero, List.set_cons_succ, List.length_cons, List.length_nil, Nat.reduceAdd, Nat.reduceEqDiff, reduceIte, Nat.left_eq_add, Nat.add_eq_left, Nat.reduceLT, hM.1, MO, i1]
    refine am_br_f (nI_ge (by omega) (by omega)) ⟨(by first | decide | exact ⟨Nat.le_of_ble_eq_true rfl, Nat.le_of_ble_eq_true rfl, Nat.le_of_ble_eq_true rfl⟩), r_copyTime hi (by omega) (by omega) (by omega) hM (fun h1 M1 FR1 => ?_)⟩
    (show am_W G (am_M G (d + 1)) 93 K _ _ _ _ _ _; simp only [u_93_0, u_93_1, u_93_4, u_93_6, u_93_9, u_93_10, u_93_11, u_93_14, u_93_15, u_93_16, u_93_19, u_93_20, u_93_22, u_93_23, u_93_26, u_93_29, u_93_30, u_93_31, u_93_32, u_93_33, u_93_34, u_93_37, u_93_40, u_93_44, u_93_45, u_93_48, u_93_50, u_93_53, u_93_54, u_93_55, u_93_58, u_93_59, u_93_60, u_93_63, f_gf_some, f_gv_some, f_pf_some, f_ia_some, f_la_some, f_aa_some, f_is_some, f_ls_some, f_rc_some, f_at0, f_atS, f_st_0, f_st_1i, f_st_1r, f_st_1l, f_st_1n, f_st_S, f_s2_0, f_s2_1i, f_s2_1r, f_s2_1l, f_s2_1n, f_s2_S, true_and, and_true, List.set_cons_zero, List.set_cons_succ, List.length_cons, List.length_nil, Nat.reduceAdd, Nat.reduceEqDiff, reduceIte, Nat.left_eq_add, Nat.add_eq_left, Nat.reduceLT, o1, i1, mz_7, sz_7, mz_8, sz_8, mz_9, sz_9, mz_10, sz_10, mz_11, sz_11, mz_12, sz_12, mz_13, sz_13, mz_14, sz_14, mz_15, sz_15, mz_16, sz_16, mz_17, sz_17, mz_18, sz_18, mz_19, sz_19, mz_20, sz_20, mz_21, sz_21, mz_22, sz_22, mz_23, sz_23, mz_24, sz_24, mz_25, sz_25, mz_26, sz_26, mz_27, sz_27, mz_28, sz_28, mz_29, sz_29, mz_30, sz_30, mz_31, sz_31, mz_32, sz_32, mz_33, sz_33, mz_34, sz_34, mz_35, sz_35, mz_36, sz_36, mz_39, sz_39, mz_40, sz_40, mz_43, sz_43, mz_44, sz_44, mz_45, sz_45, mz_63, sz_63, mz_69, sz_69, mz_70, sz_70, mz_71, sz_71, mz_74, sz_74, mz_77, sz_77, mz_78, sz_78, mz_79, sz_79, mz_83, sz_83, mz_84, sz_84, mz_85, sz_85, mz_86, sz_86, mz_87, sz_87, mz_88, sz_88, mz_89, sz_89, mz_90, sz_90, mz_91, sz_91, mz_92, sz_92, mz_93, sz_93, mz_94, sz_94, mz_95, sz_95, mz_96, sz_96, mz_97, sz_97, mz_98, sz_98, mz_99, sz_99, mz_100, sz_100, mz_101, sz_101, mz_102, sz_102, mz_103, sz_103, mz_104, sz_104, mz_105, sz_105, mz_106, sz_106, mz_107, sz_107, mz_108, sz_108, mz_109, sz_109, mz_110, sz_110, mz_111, sz_111, mz_112, sz_112, mz_113, sz_113, mz_114, sz_114, mz_115, sz_115, mz_116, sz_116, mz_117, sz_117, mz_118, sz_118, mz_119, sz_119, mz_120, sz_120, mz_121, sz_121, mz_122, sz_122, mz_123, sz_123, mz_124, sz_124, mz_125, sz_125, mz_126, sz_126, mz_127, sz_127, mz_128, sz_128, Nat.add_zero, Option.toList, List.cons_append, List.nil_append])
    obtain ⟨v1, v2, v3, v4, v5⟩ := hV
    refine ih (u + 1) h1 _ _ (by omega) M1 ⟨v1.copy_ne (by omega), v2.copy_ne hn (by omega), fun v hv => ?_, v4.copy, fun i hi => ?_⟩ (fun q hq => (FR1 q hq).trans (FR q hq))
    · by_cases e : v = u
      · subst e
        obtain ⟨a, b⟩ := v3 (v + 1) (by omega)
        have e3 : ¬ v + 1 < v := by omega
        simp only [e3, if_false] at a b
        simp only [Nat.lt_succ_self, if_true]
        exact ⟨a.copy, b.copy hn⟩
      · obtain ⟨a, b⟩ := v3 v hv
        have e2 : (if v < u + 1 then H (v + 1) else H v) = (if v < u then H (v + 1) else H v) := by
          by_cases q : v < u
          · rw [if_pos q, if_pos (by omega)]
          · rw [if_neg q, if_neg (by omega)]
        simp only [e2]
        exact ⟨a.copy_ne e, b.copy_ne hn e⟩
    · rw [cpI_hi (by decide)]; exact v5 i hi
theorem l_kn2 (hi : am_inj ad) {A : Nat → Nat → Int32} {B : Nat → Nat → Int64} {v : Option Value} (hn : n ≤ 150) (hth : th < 16) (hM : MD ad h t m n pc th wc wa A B) (hV : RV A B n z H th pc C wc wl)
    (hk : ∀ h', RW ad h' t n m z (va_up H th z) (th + 1) pc C wc wl wa → fr322 ad h h' → K (.inl none) h') : am_W G (am_M G (d + 1)) 93 K 43 [some (.ref (ad 322)), v] [] h 0 0 := by
  simp only [u_93_0, u_93_1, u_93_4, u_93_6, u_93_9, u_93_10, u_93_11, u_93_14, u_93_15, u_93_16, u_93_19, u_93_20, u_93_21, u_93_22, u_93_23, u_93_26, u_93_29, u_93_30, u_93_31, u_93_32, u_93_33, u_93_34, u_93_37, u_93_40, u_93_43, u_93_44, u_93_45, u_93_48, u_93_50, u_93_53, u_93_54, u_93_55, u_93_58, u_93_59, u_93_60, u_93_63, f_gf_some, f_gv_some, f_pf_some, f_ia_some, f_la_some, f_aa_some, f_is_some, f_ls_some, f_rc_some, f_at0, f_atS, f_st_0, f_st_1i, f_st_1r, f_st_1l, f_st_1n, f_st_S, f_s2_0, f_s2_1i, f_s2_1r, f_s2_1l, f_s2_1n, f_s2_S, true_and, and_true, List.set_cons_zero, List.set_cons_succ, List.length_cons, List.length_nil, Nat.reduceAdd, Nat.reduceEqDiff, reduceIte, Nat.left_eq_add, Nat.add_eq_left, Nat.reduceLT, hM.1, MO]
  refine ⟨(by first | decide | exact ⟨Nat.le_of_ble_eq_true rfl, Nat.le_of_ble_eq_true rfl, Nat.le_of_ble_eq_true rfl⟩), r_copyTime (to := th) (fr := 16) hi (by omega) (by decide) (by omega) hM (fun h1 M1 FR1 => ?_)⟩
  (show am_W G (am_M G (d + 1)) 93 K _ _ _ _ _ _; simp only [u_93_0, u_93_1, u_93_4, u_93_6, u_93_9, u_93_10, u_93_11, u_93_14, u_93_15, u_93_16, u_93_19, u_93_20, u_93_21, u_93_22, u_93_23, u_93_26, u_93_29, u_93_30, u_93_31, u_93_32, u_93_33, u_93_34, u_93_37, u_93_40, u_93_43, u_93_44, u_93_45, u_93_48, u_93_50, u_93_53, u_93_54, u_93_55, u_93_58, u_93_59, u_93_60, u_93_63, f_gf_some, f_gv_some, f_pf_some, f_ia_some, f_la_some, f_aa_some, f_is_some, f_ls_some, f_rc_some, f_at0, f_atS, f_st_0, f_st_1i, f_st_1r, f_st_1l, f_st_1n, f_st_S, f_s2_0, f_s2_1i, f_s2_1r, f_s2_1l, f_s2_1n, f_s2_S, true_and, and_true, List.set_cons_zero, List.set_cons_succ, List.length_cons, List.length_nil, Nat.reduceAdd, Nat.reduceEqDiff, reduceIte, Nat.left_eq_add, Nat.add_eq_left, Nat.reduceLT, M1.1, MO, i1, mz_7, sz_7, mz_8, sz_8, mz_9, sz_9, mz_10, sz_10, mz_11, sz_11, mz_12, sz_12, mz_13, sz_13, mz_14, sz_14, mz_15, sz_15, mz_16, sz_16, mz_17, sz_17, mz_18, sz_18, mz_19, sz_19, mz_20, sz_20, mz_21, sz_21, mz_22, sz_22, mz_23, sz_23, mz_24, sz_24, mz_25, sz_25, mz_26, sz_26, mz_27, sz_27, mz_28, sz_28, mz_29, sz_29, mz_30, sz_30, mz_31, sz_31, mz_32, sz_32, mz_33, sz_33, mz_34, sz_34, mz_35, sz_35, mz_36, sz_36, mz_39, sz_39, mz_40, sz_40, mz_43, sz_43, mz_44, sz_44, mz_45, sz_45, mz_63, sz_63, mz_69, sz_69, mz_70, sz_70, mz_71, sz_71, mz_74, sz_74, mz_77, sz_77, mz_78, sz_78, mz_79, sz_79, mz_83, sz_83, mz_84, sz_84, mz_85, sz_85, mz_86, sz_86, mz_87, sz_87, mz_88, sz_88, mz_89, sz_89, mz_90, sz_90, mz_91, sz_91, mz_92, sz_92, mz_93, sz_93, mz_94, sz_94, mz_95, sz_95, mz_96, sz_96, mz_97, sz_97, mz_98, sz_98, mz_99, sz_99, mz_100, sz_100, mz_101, sz_101, mz_102, sz_102, mz_103, sz_103, mz_104, sz_104, mz_105, sz_105, mz_106, sz_106, mz_107, sz_107, mz_108, sz_108, mz_109, sz_109, mz_110, sz_110, mz_111, sz_111, mz_112, sz_112, mz_113, sz_113, mz_114, sz_114, mz_115, sz_115, mz_116, sz_116, mz_117, sz_117, mz_118, sz_118, mz_119, sz_119, mz_120, sz_120, mz_121, sz_121, mz_122, sz_122, mz_123, sz_123, mz_124, sz_124, mz_125, sz_125, mz_126, sz_126, mz_127, sz_127, mz_128, sz_128, Nat.add_zero, Option.toList, List.cons_append, List.nil_append])
  obtain ⟨v1, v2, v3, v4, v5⟩ := hV
  refine hk _ ⟨_, _, M1.so hi t m n pc (th + 1) wc wa, v1.copy_ne (by omega), v2.copy_ne hn (by omega), fun u hu => ?_, v4.copy, fun i hi => ?_⟩ (fun q hq => (s_ne hi (by omega)).trans (FR1 q hq))
  · by_cases e : u = th
    · subst e; rw [va_up_self]; exact ⟨v1.copy, v2.copy hn⟩
    · rw [va_up_ne _ _ e]
      obtain ⟨a, b⟩ := v3 u (by omega)
      exact ⟨a.copy_ne e, b.copy_ne hn e⟩
  · rw [cpI_hi (by decide)]; exact v5 i hi
theorem r_keepNow (hi : am_inj ad) (hn : n ≤ 150) (hth : th ≤ 16) (hR : RW ad h t n m z H th pc C wc wl wa)
    (hk : ∀ h', RW ad h' t n m z (kH H th z) (kz th) pc C wc wl wa → fr322 ad h h' → K (.inl none) h') : am_M G (d + 2) 93 [.ref (ad 322)] h K := by
  refine n_93 (d := d + 1) ?_
  obtain ⟨A, B, hM, hV⟩ := hR
  simp only [u_93_0, u_93_1, u_93_4, u_93_6, u_93_9, u_93_10, u_93_11, u_93_14, u_93_15, u_93_16, u_93_19, u_93_20, u_93_22, u_93_23, u_93_26, u_93_29, u_93_30, u_93_31, u_93_32, u_93_33, u_93_34, u_93_37, u_93_40, u_93_44, u_93_45, u_93_48, u_93_50, u_93_53, u_93_54, u_93_55, u_93_58, u_93_59, u_93_60, u_93_63, f_gf_some, f_gv_some, f_pf_some, f_ia_some, f_la_some, f_aa_some, f_is_some, f_ls_some, f_rc_some, f_at0, f_atS, f_st_0, f_st_1i, f_st_1r, f_st_1l, f_st_1n, f_st_S, f_s2_0, f_s2_1i, f_s2_1r, f_s2_1l, f_s2_1n, f_s2_S, true_and, and_true, List.set_cons_zero, List.set_cons_succ, List.length_cons, List.length_nil, Nat.reduceAdd, Nat.reduceEqDiff, reduceIte, Nat.left_eq_add, Nat.add_eq_left, Nat.reduceLT, hM.1, MO]
  unfold kH kz at hk
  by_cases c : th < 16
  · rw [if_pos c, if_pos c] at hk
    exact am_br_t (fun q => absurd ((nI_eq (b := 16) (by omega) (by decide)).mp q) (by omega)) (l_kn2 hi hn c hM hV hk)
  · have e : th = 16 := by omega
    subst e
    rw [if_neg c, if_neg c] at hk
    have e15 : nI 16 - 1 = nI 15 := by decide
    simp only [e15]
    refine am_br_f (fun q => q rfl) (l_kn (h0 := h) (t := t) (m := m) (wa := wa) hi hn (fun h1 A1 B1 M1 V1 FR1 => l_kn2 hi hn (by decide) M1 V1 (fun h2 R2 FR2 => hk h2 R2 (fun q hq => (FR2 q hq).trans (FR1 q hq)))) 15 0 _ A B (by decide) (hM.so hi t m n pc 15 wc wa) ?_ (fun q hq => s_ne hi (by omega)))
    obtain ⟨v1, v2, v3, v4, v5⟩ := hV
    refine ⟨v1, v2, fun v hv => ?_, v4, v5⟩
    simp only [Nat.not_lt_zero, if_false]
    exact v3 v hv
end Kn

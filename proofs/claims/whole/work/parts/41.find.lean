-- the k-th used source
noncomputable def usb (T : FT) (n s x : Nat) : Bool := @decide (usd T n s x) (Classical.propDecidable _)
theorem usb_t {T : FT} {n s x : Nat} : (usb T n s x = true) = usd T n s x := by unfold usb; exact propext (@decide_eq_true_iff _ (Classical.propDecidable _))
def FS (u : Nat → Bool) (m : Nat) (kx r : Int32) : Prop := (∃ x, x < m ∧ u x = true ∧ nI (cnt u x) = kx ∧ (∀ y, y < x → u y = true → ¬ nI (cnt u y) = kx) ∧ r = nI x) ∨ ((∀ y, y < m → u y = true → ¬ nI (cnt u y) = kx) ∧ r = -1)
theorem FS.uniq {u : Nat → Bool} {m : Nat} {kx r r' : Int32} (h : FS u m kx r) (h' : FS u m kx r') : r = r' := by
  rcases h with ⟨x, a1, a2, a3, a4, a5⟩ | ⟨a1, a2⟩
  · rcases h' with ⟨y, b1, b2, b3, b4, b5⟩ | ⟨b1, b2⟩
    · rcases Nat.lt_trichotomy x y with q | q | q
      · exact absurd a3 (b4 x q a2)
      · rw [a5, b5, q]
      · exact absurd b3 (a4 y q b2)
    · exact absurd a3 (b1 x a1 a2)
  · rcases h' with ⟨y, b1, b2, b3, b4, b5⟩ | ⟨b1, b2⟩
    · exact absurd b3 (a1 y b1 b2)
    · rw [a2, b2]
section Wf
variable {G : am_G} {d : Nat} {K : am_K} {ad : Nat → Nat} {n m : Nat} {T : FT}
theorem l_fs {h : am_H} {s k : Nat} {rc st su : Nat → Int32} {u : Nat → Bool} {kx : Int32} (hm : m ≤ 60) (hW : WA ad h k rc st su) (hu : ∀ x, x < m → (su x = 1 ∧ u x = true) ∨ (su x = 0 ∧ ¬ u x = true)) (hk : ∀ r, FS u m kx r → K (.inl (some (.int r))) h) :
    ∀ (r i : Nat), i + r = m → (∀ y, y < i → u y = true → ¬ nI (cnt u y) = kx) → am_W G (am_M G d) 77 K 12 [some (.ref (ad 280)), some (.int (nI s)), some (.int kx), some (.int (nI m)), some (.int (nI (cnt u i))), some (.int (nI i))] [] h 0 0 := by
  intro r
  obtain ⟨h1, h2, h3, h4⟩ := id hW
  induction r with
  | zero =>
    intro i hr hf
    have e : i = m := by omega
    subst e
    simp only [u_77_0, u_77_1, u_77_2, u_77_3, u_77_6, u_77_7, u_77_9, u_77_10, u_77_12, u_77_14, u_77_15, u_77_18, u_77_19, u_77_22, u_77_24, u_77_25, u_77_28, u_77_30, u_77_31, u_77_34, u_77_36, u_77_37, u_77_40, u_77_43, u_77_46, u_77_47, f_gf_some, f_gv_some, f_pf_some, f_ia_some, f_la_some, f_aa_some, f_is_some, f_ls_some, f_rc_some, f_at0, f_atS, f_st_0, f_st_1i, f_st_1r, f_st_1l, f_st_1n, f_st_S, f_s2_0, f_s2_1i, f_s2_1r, f_s2_1l, f_s2_1n, f_s2_S, true_and, and_true, List.set_cons_zero, List.set_cons_succ, List.length_cons, List.length_nil, Nat.reduceAdd, Nat.reduceEqDiff, reduceIte, Nat.left_eq_add, Nat.add_eq_left, Nat.reduceLT]
    exact am_br_t (Int32.le_refl _) (hk _ (Or.inr ⟨hf, rfl⟩))
  | succ r ih =>
    intro i hr hf
    have hv : vp_in (nI i) 60 := vp_in_nI (by omega) (by decide)
    have hcl : (nI i).toNatClampNeg = i := nI_clamp (by omega)
    have := ih (i + 1) (by omega)
    rw [u_77_12]
    simp only [u_77_0, u_77_1, u_77_2, u_77_3, u_77_6, u_77_7, u_77_9, u_77_10, u_77_14, u_77_15, u_77_18, u_77_19, u_77_22, u_77_24, u_77_25, u_77_28, u_77_30, u_77_31, u_77_34, u_77_36, u_77_37, u_77_40, u_77_43, u_77_46, u_77_47, f_gf_some, f_gv_some, f_pf_some, f_ia_some, f_la_some, f_aa_some, f_is_some, f_ls_some, f_rc_some, f_at0, f_atS, f_st_0, f_st_1i, f_st_1r, f_st_1l, f_st_1n, f_st_S, f_s2_0, f_s2_1i, f_s2_1r, f_s2_1l, f_s2_1n, f_s2_S, true_and, and_true, List.set_cons_zero, List.set_cons_succ, List.length_cons, List.length_nil, Nat.reduceAdd, Nat.reduceEqDiff, reduceIte, Nat.left_eq_add, Nat.add_eq_left, Nat.reduceLT, h1, h4, hv, hcl, o1, i1]
    rcases hu i (by omega) with ⟨a, b⟩ | ⟨a, b⟩
    · rw [cnt_t b] at this
      refine am_br_f (nI_ge (by omega) (by omega)) (am_br_f (by rw [a]; decide) ⟨fun c => this (fun y hy hy2 => ?_), fun c => hk _ (Or.inl ⟨i, by omega, b, Decidable.not_not.mp c, hf, rfl⟩)⟩)
      by_cases e : y = i
      · subst e; exact c
      · exact hf y (by omega) hy2
    · rw [cnt_f b] at this
      refine am_br_f (nI_ge (by omega) (by omega)) (am_br_t a (this (fun y hy hy2 => ?_)))
      by_cases e : y = i
      · subst e; exact absurd hy2 b
      · exact hf y (by omega) hy2
theorem c_findSource (hi : am_inj ad) {h : am_H} {s k : Nat} {rc st su : Nat → Int32} {kx : Int32} (hn : n ≤ 150) (hm : m ≤ 60) (hF : FM ad h 1 n T) (hw : wfg n m T) (hs : s < n) (hW : WA ad h k rc st su)
    (hk : ∀ r, FS (usb T n s) m kx r → ∀ h' k' rc' st' su', WA ad h' k' rc' st' su' → (∀ p, (p < 280 ∨ 284 ≤ p) → h' (ad p) = h (ad p)) → K (.inl (some (.int r))) h') : am_M G (d + 4) 77 [.ref (ad 280), .int (nI s), .int kx, .int (nI m)] h K := by
  refine n_77 (d := d + 3) ?_
  simp only [u_77_0, u_77_1, u_77_2, u_77_3, u_77_6, u_77_7, u_77_9, u_77_10, u_77_12, u_77_14, u_77_15, u_77_18, u_77_19, u_77_22, u_77_24, u_77_25, u_77_28, u_77_30, u_77_31, u_77_34, u_77_36, u_77_37, u_77_40, u_77_43, u_77_46, u_77_47, f_gf_some, f_gv_some, f_pf_some, f_ia_some, f_la_some, f_aa_some, f_is_some, f_ls_some, f_rc_some, f_at0, f_atS, f_st_0, f_st_1i, f_st_1r, f_st_1l, f_st_1n, f_st_S, f_s2_0, f_s2_1i, f_s2_1r, f_s2_1l, f_s2_1n, f_s2_S, true_and, and_true, List.set_cons_zero, List.set_cons_succ, List.length_cons, List.length_nil, Nat.reduceAdd, Nat.reduceEqDiff, reduceIte, Nat.left_eq_add, Nat.add_eq_left, Nat.reduceLT, hW.1]
  refine ⟨(by first | decide | exact ⟨Nat.le_of_ble_eq_true rfl, Nat.le_of_ble_eq_true rfl, Nat.le_of_ble_eq_true rfl⟩), c_markSources hi hn hm hF hw hs hW (fun q k1 rc1 st1 su1 W1 S1 FR => ?_)⟩
  (show am_W G (am_M G (d + 3)) 77 K _ _ _ _ _ _; simp only [u_77_0, u_77_1, u_77_2, u_77_3, u_77_6, u_77_7, u_77_9, u_77_10, u_77_14, u_77_15, u_77_18, u_77_19, u_77_22, u_77_24, u_77_25, u_77_28, u_77_30, u_77_31, u_77_34, u_77_36, u_77_37, u_77_40, u_77_43, u_77_46, u_77_47, f_gf_some, f_gv_some, f_pf_some, f_ia_some, f_la_some, f_aa_some, f_is_some, f_ls_some, f_rc_some, f_at0, f_atS, f_st_0, f_st_1i, f_st_1r, f_st_1l, f_st_1n, f_st_S, f_s2_0, f_s2_1i, f_s2_1r, f_s2_1l, f_s2_1n, f_s2_S, true_and, and_true, List.set_cons_zero, List.set_cons_succ, List.length_cons, List.length_nil, Nat.reduceAdd, Nat.reduceEqDiff, reduceIte, Nat.left_eq_add, Nat.add_eq_left, Nat.reduceLT, mz_7, sz_7, mz_8, sz_8, mz_9, sz_9, mz_10, sz_10, mz_11, sz_11, mz_12, sz_12, mz_13, sz_13, mz_14, sz_14, mz_15, sz_15, mz_16, sz_16, mz_17, sz_17, mz_18, sz_18, mz_19, sz_19, mz_20, sz_20, mz_21, sz_21, mz_22, sz_22, mz_23, sz_23, mz_24, sz_24, mz_25, sz_25, mz_26, sz_26, mz_27, sz_27, mz_28, sz_28, mz_29, sz_29, mz_30, sz_30, mz_31, sz_31, mz_32, sz_32, mz_33, sz_33, mz_34, sz_34, mz_35, sz_35, mz_36, sz_36, mz_39, sz_39, mz_40, sz_40, mz_43, sz_43, mz_44, sz_44, mz_45, sz_45, mz_63, sz_63, mz_69, sz_69, mz_70, sz_70, mz_71, sz_71, mz_74, sz_74, mz_77, sz_77, mz_78, sz_78, mz_79, sz_79, mz_83, sz_83, mz_84, sz_84, mz_85, sz_85, mz_86, sz_86, mz_87, sz_87, mz_88, sz_88, mz_89, sz_89, mz_90, sz_90, mz_91, sz_91, mz_92, sz_92, mz_93, sz_93, mz_94, sz_94, mz_95, sz_95, mz_96, sz_96, mz_97, sz_97, mz_98, sz_98, mz_99, sz_99, mz_100, sz_100, mz_101, sz_101, mz_102, sz_102, mz_103, sz_103, mz_104, sz_104, mz_105, sz_105, mz_106, sz_106, mz_107, sz_107, mz_108, sz_108, mz_109, sz_109, mz_110, sz_110, mz_111, sz_111, mz_112, sz_112, mz_113, sz_113, mz_114, sz_114, mz_115, sz_115, mz_116, sz_116, mz_117, sz_117, mz_118, sz_118, mz_119, sz_119, mz_120, sz_120, mz_121, sz_121, mz_122, sz_122, mz_123, sz_123, mz_124, sz_124, mz_125, sz_125, mz_126, sz_126, mz_127, sz_127, mz_128, sz_128, Nat.add_zero, Option.toList, List.cons_append, List.nil_append])
  exact l_fs (u := usb T n s) hm W1 (fun x hx => by rw [usb_t]; exact S1 x hx) (fun r hr => hk r hr q _ _ _ _ W1 FR) m 0 (by omega) (fun y hy => absurd hy (Nat.not_lt_zero y))
end Wf

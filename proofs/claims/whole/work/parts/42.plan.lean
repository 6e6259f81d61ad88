-- the class's Plan at place 275
def PL (ad : Nat → Nat) (h : am_H) (ic ps od : Nat → Int32) (pl : Nat) (rg : Nat → Int32) (rl : Nat) (kn : Int32) : Prop :=
  h (ad 275) = some (.inr (4, [.ref (ad 1), .ref (ad 280), .ref (ad 276), .ref (ad 277), .ref (ad 278), .int (nI pl), .ref (ad 279), .int (nI rl), .int kn])) ∧ h (ad 276) = some (.inl (.boolean, 150, .inl ic)) ∧ h (ad 277) = some (.inl (.boolean, 150, .inl ps)) ∧ h (ad 278) = some (.inl (.int, 150, .inl od)) ∧ h (ad 279) = some (.inl (.int, 150, .inl rg)) ∧ isZ ic ∧ isZ ps
theorem PL.frame {ad : Nat → Nat} {h h' : am_H} {ic ps od : Nat → Int32} {pl : Nat} {rg : Nat → Int32} {rl : Nat} {kn : Int32} (hP : PL ad h ic ps od pl rg rl kn) (hk : ∀ p, 275 ≤ p → p < 280 → h' (ad p) = h (ad p)) : PL ad h' ic ps od pl rg rl kn :=
  ⟨(hk _ (by decide) (by decide)).trans hP.1, (hk _ (by decide) (by decide)).trans hP.2.1, (hk _ (by decide) (by decide)).trans hP.2.2.1, (hk _ (by decide) (by decide)).trans hP.2.2.2.1, (hk _ (by decide) (by decide)).trans hP.2.2.2.2.1, hP.2.2.2.2.2⟩
section PLs
variable {ad : Nat → Nat} {h : am_H} {ic ps od : Nat → Int32} {pl : Nat} {rg : Nat → Int32} {rl : Nat} {kn : Int32}
theorem PL.set_ic (hi : am_inj ad) (hP : PL ad h ic ps od pl rg rl kn) (X : Nat → Int32) (hX : isZ X) : PL ad (am_set h (ad 276) (.inl (.boolean, 150, .inl X))) X ps od pl rg rl kn :=
  ⟨(s_ne hi (by decide)).trans hP.1, s_eq, (s_ne hi (by decide)).trans hP.2.2.1, (s_ne hi (by decide)).trans hP.2.2.2.1, (s_ne hi (by decide)).trans hP.2.2.2.2.1, hX, hP.2.2.2.2.2.2⟩
theorem PL.set_ps (hi : am_inj ad) (hP : PL ad h ic ps od pl rg rl kn) (X : Nat → Int32) (hX : isZ X) : PL ad (am_set h (ad 277) (.inl (.boolean, 150, .inl X))) ic X od pl rg rl kn :=
  ⟨(s_ne hi (by decide)).trans hP.1, (s_ne hi (by decide)).trans hP.2.1, s_eq, (s_ne hi (by decide)).trans hP.2.2.2.1, (s_ne hi (by decide)).trans hP.2.2.2.2.1, hP.2.2.2.2.2.1, hX⟩
theorem PL.set_od (hi : am_inj ad) (hP : PL ad h ic ps od pl rg rl kn) (X : Nat → Int32) : PL ad (am_set h (ad 278) (.inl (.int, 150, .inl X))) ic ps X pl rg rl kn :=
  ⟨(s_ne hi (by decide)).trans hP.1, (s_ne hi (by decide)).trans hP.2.1, (s_ne hi (by decide)).trans hP.2.2.1, s_eq, (s_ne hi (by decide)).trans hP.2.2.2.2.1, hP.2.2.2.2.2⟩
theorem PL.set_rg (hi : am_inj ad) (hP : PL ad h ic ps od pl rg rl kn) (X : Nat → Int32) : PL ad (am_set h (ad 279) (.inl (.int, 150, .inl X))) ic ps od pl X rl kn :=
  ⟨(s_ne hi (by decide)).trans hP.1, (s_ne hi (by decide)).trans hP.2.1, (s_ne hi (by decide)).trans hP.2.2.1, (s_ne hi (by decide)).trans hP.2.2.2.1, s_eq, hP.2.2.2.2.2⟩
theorem PL.set_o (hi : am_inj ad) (hP : PL ad h ic ps od pl rg rl kn) (pl' rl' : Nat) (kn' : Int32) : PL ad (am_set h (ad 275) (.inr (4, [.ref (ad 1), .ref (ad 280), .ref (ad 276), .ref (ad 277), .ref (ad 278), .int (nI pl'), .ref (ad 279), .int (nI rl'), .int kn']))) ic ps od pl' rg rl' kn' :=
  ⟨s_eq, (s_ne hi (by decide)).trans hP.2.1, (s_ne hi (by decide)).trans hP.2.2.1, (s_ne hi (by decide)).trans hP.2.2.2.1, (s_ne hi (by decide)).trans hP.2.2.2.2.1, hP.2.2.2.2.2⟩
end PLs
/-- a row of booleans says which cells -/
def rp (n : Nat) (ps : Nat → Int32) (P : Nat → Prop) : Prop := ∀ x, x < n → (ps x = 1 ∧ P x) ∨ (ps x = 0 ∧ ¬ P x)
def psd (n : Nat) (P : Nat → Prop) (x : Int32) : Prop := x < 0 ∨ ∃ y, y < n ∧ x = nI y ∧ P y
def rdy (T : FT) (n : Nat) (P : Nat → Prop) (c : Nat) : Prop := ¬ P c ∧ psd n P (T.2.1 c) ∧ psd n P (T.2.2 c)
def nxt (T : FT) (n : Nat) (P : Nat → Prop) (c : Nat) : Prop := c < n ∧ rdy T n P c ∧ ∀ c', c' < c → ¬ rdy T n P c'
def NX (T : FT) (n : Nat) (P : Nat → Prop) : Prop := ∀ c, c < n → ¬ rdy T n P c
theorem nxt.uniq {T : FT} {n : Nat} {P : Nat → Prop} {c c' : Nat} (h : nxt T n P c) (h' : nxt T n P c') : c = c' := by
  rcases Nat.lt_trichotomy c c' with q | q | q
  · exact absurd h.2.1 (h'.2.2 c q)
  · exact q
  · exact absurd h'.2.1 (h.2.2 c' q)
def pmk (P : Nat → Prop) (od : Nat → Nat) (k : Nat) : Nat → Prop := fun x => P x ∨ ∃ j, j < k ∧ od j = x
def PSQ (T : FT) (n : Nat) (P : Nat → Prop) (od : Nat → Nat) (k : Nat) : Prop := ∀ j, j < k → nxt T n (pmk P od j) (od j)
theorem pmk_up {P : Nat → Prop} {od : Nat → Nat} {k j c : Nat} (h : j ≤ k) : pmk P (va_up od k c) j = pmk P od j := by
  funext x
  apply propext
  unfold pmk
  constructor
  · rintro (q | ⟨l, a, b⟩)
    · exact Or.inl q
    · rw [va_up_ne _ _ (by omega)] at b; exact Or.inr ⟨l, a, b⟩
  · rintro (q | ⟨l, a, b⟩)
    · exact Or.inl q
    · exact Or.inr ⟨l, a, by rw [va_up_ne _ _ (by omega)]; exact b⟩
theorem pmk_s {P : Nat → Prop} {od : Nat → Nat} {k c x : Nat} : pmk P (va_up od k c) (k + 1) x ↔ pmk P od k x ∨ x = c := by
  constructor
  · rintro (q | ⟨l, a, b⟩)
    · exact Or.inl (Or.inl q)
    · by_cases e : l = k
      · subst e; rw [va_up_self] at b; exact Or.inr b.symm
      · rw [va_up_ne _ _ e] at b; exact Or.inl (Or.inr ⟨l, by omega, b⟩)
  · rintro ((q | ⟨l, a, b⟩) | q)
    · exact Or.inl q
    · exact Or.inr ⟨l, by omega, by rw [va_up_ne _ _ (by omega)]; exact b⟩
    · exact Or.inr ⟨k, by omega, by rw [va_up_self]; exact q.symm⟩
theorem PSQ.add {T : FT} {n : Nat} {P : Nat → Prop} {od : Nat → Nat} {k c : Nat} (h : PSQ T n P od k) (hc : nxt T n (pmk P od k) c) : PSQ T n P (va_up od k c) (k + 1) := by
  intro j hj
  rw [pmk_up (by omega)]
  by_cases e : j = k
  · subst e; rw [va_up_self]; exact hc
  · rw [va_up_ne _ _ e]; exact h j (by omega)
theorem PSQ.same {T : FT} {n : Nat} {P : Nat → Prop} {od od' : Nat → Nat} {k k' : Nat} (h : PSQ T n P od k) (h' : PSQ T n P od' k') : ∀ i, i ≤ k → i ≤ k' → ∀ j, j < i → od j = od' j := by
  intro i
  induction i with
  | zero => intro _ _ j hj; omega
  | succ i ih =>
    intro a b j hj
    have ih' := ih (by omega) (by omega)
    by_cases e : j = i
    · subst e
      have e2 : pmk P od j = pmk P od' j := by
        funext x
        apply propext
        constructor
        · rintro (q | ⟨l, c, d⟩)
          · exact Or.inl q
          · exact Or.inr ⟨l, c, by rw [← ih' l c]; exact d⟩
        · rintro (q | ⟨l, c, d⟩)
          · exact Or.inl q
          · exact Or.inr ⟨l, c, by rw [ih' l c]; exact d⟩
      have h1 := h j (by omega)
      rw [e2] at h1
      exact h1.uniq (h' j (by omega))
    · exact ih' j (by omega)
theorem PSQ.le {T : FT} {n : Nat} {P : Nat → Prop} {od od' : Nat → Nat} {k k' : Nat} (h : PSQ T n P od k) (h' : PSQ T n P od' k') (hx : NX T n (pmk P od k)) : k' ≤ k := by
  refine Decidable.byContradiction fun c => ?_
  have hs := h.same h' k (by omega) (by omega)
  have e2 : pmk P od k = pmk P od' k := by
    funext x
    apply propext
    constructor
    · rintro (q | ⟨l, c, d⟩)
      · exact Or.inl q
      · exact Or.inr ⟨l, c, by rw [← hs l c]; exact d⟩
    · rintro (q | ⟨l, c, d⟩)
      · exact Or.inl q
      · exact Or.inr ⟨l, c, by rw [hs l c]; exact d⟩
  have h1 := h' k (by omega)
  rw [← e2] at h1
  exact hx _ h1.1 h1.2.1
/-- what is placed while no circle is known is in no circle -/
theorem PSQ.rank {T : FT} {n : Nat} {od : Nat → Nat} {k : Nat} (h : PSQ T n (fun _ => False) od k) (hn : n ≤ 150) : ∀ (e j x : Nat), j < k → wk T n e (od j) x → ∃ l, l + e ≤ j ∧ od l = x
  | 0, j, x, hj, hw => ⟨j, by omega, hw⟩
  | e + 1, j, x, hj, ⟨y, hy, he, hw⟩ => by
    have hr := (h j hj).2.1
    have hy2 : ∃ l, l < j ∧ od l = y := by
      have fin : ∀ x0, psd n (pmk (fun _ => False) od j) x0 → x0 = nI y → ∃ l, l < j ∧ od l = y := by
        rintro x0 (q | ⟨u, hu, e1, e2⟩) e3
        · rw [e3] at q; exact absurd q (nI_pos (by omega))
        · rw [e1] at e3
          rw [(nI_eq (by omega) (by omega)).mp e3] at e2
          exact e2.elim False.elim id
      exact he.elim (fun q => fin _ hr.2.1 q) (fun q => fin _ hr.2.2 q)
    obtain ⟨l, hl, hl2⟩ := hy2
    rw [← hl2] at hw
    obtain ⟨l2, a, b⟩ := PSQ.rank h hn e l x (by omega) hw
    exact ⟨l2, by omega, b⟩
theorem PSQ.inj {T : FT} {n : Nat} {P : Nat → Prop} {od : Nat → Nat} {k i j : Nat} (h : PSQ T n P od k) (hi : i < j) (hj : j < k) : od i ≠ od j := fun q => (h j hj).2.1.1 (Or.inr ⟨i, hi, q⟩)
theorem PSQ.NW {T : FT} {n : Nat} {od : Nat → Nat} {k : Nat} (h : PSQ T n (fun _ => False) od k) (hn : n ≤ 150) {x : Nat} (hx : pmk (fun _ => False) od k x) : NW T n x x := by
  intro e he hw
  obtain ⟨j, hj, rfl⟩ := hx.elim False.elim id
  obtain ⟨l, a, b⟩ := h.rank hn e j _ hj hw
  exact h.inj (by omega) hj b
section Pl
variable {G : am_G} {d : Nat} {K : am_K} {ad : Nat → Nat} {n m : Nat} {T : FT} {ic ps od : Nat → Int32} {pl : Nat} {rg : Nat → Int32} {rl : Nat} {kn : Int32}
theorem c_hasPassed {h : am_H} {P : Nat → Prop} {x : Int32} (hn : n ≤ 150) (hP : PL ad h ic ps od pl rg rl kn) (hr : rp n ps P) (hx : okx n m x) (hy : psd n P x → K (.inl (some (.int 1))) h) (hno : ¬ psd n P x → K (.inl (some (.int 0))) h) : am_M G (d + 1) 14 [.ref (ad 275), .int x] h K := by
  refine n_14 ?_
  rw [u_14_0, u_14_1]
  refine ⟨fun c => ?_, fun c => ?_⟩
  · simp only [u_14_0, u_14_1, u_14_4, u_14_5, u_14_8, u_14_9, u_14_10, u_14_13, u_14_14, u_14_17, u_14_18, nz_1, true_and]; exact hy (Or.inl c)
  · rcases hx with ⟨q, -⟩ | ⟨y, hy2, e⟩
    · exact absurd q c
    subst e
    have hv : vp_in (nI y) 150 := vp_in_nI (by omega) (by decide)
    have hcl : (nI y).toNatClampNeg = y := nI_clamp (by omega)
    simp only [u_14_0, u_14_1, u_14_4, u_14_5, u_14_8, u_14_9, u_14_10, u_14_13, u_14_14, u_14_17, u_14_18, f_gf_some, f_gv_some, f_pf_some, f_ia_some, f_la_some, f_aa_some, f_is_some, f_ls_some, f_rc_some, f_at0, f_atS, f_st_0, f_st_1i, f_st_1r, f_st_1l, f_st_1n, f_st_S, f_s2_0, f_s2_1i, f_s2_1r, f_s2_1l, f_s2_1n, f_s2_S, true_and, and_true, List.set_cons_zero, List.set_cons_succ, List.length_cons, List.length_nil, Nat.reduceAdd, Nat.reduceEqDiff, reduceIte, Nat.left_eq_add, Nat.add_eq_left, Nat.reduceLT, hP.1, hP.2.2.1, hv, hcl, nz_0, nz_1]
    rcases hr y hy2 with ⟨a, b⟩ | ⟨a, b⟩
    · exact am_br_f (by rw [a]; decide) (hy (Or.inr ⟨y, hy2, rfl, b⟩))
    · refine am_br_t a (hno ?_)
      rintro (q | ⟨u, hu, e1, e2⟩)
      · exact c q
      · rw [← (nI_eq (by omega) (by omega)).mp e1] at e2; exact b e2
theorem l_fr {h : am_H} {P : Nat → Prop} {lo : Int32} (hn : n ≤ 150) (hF : FM ad h 1 n T) (hw : wfg n m T) (hP : PL ad h ic ps od pl rg rl kn) (hr : rp n ps P) (hy : ∀ c, nxt T n P c → K (.inl (some (.int (nI c)))) h) (hno : NX T n P → K (.inl (some (.int (-1)))) h) :
    ∀ (r i : Nat), i + r = n → (∀ c, c < i → ¬ rdy T n P c) → am_W G (am_M G (d + 1)) 13 K 2 [some (.ref (ad 275)), some (.int lo), some (.int (nI i))] [] h 0 0 := by
  intro r
  induction r with
  | zero =>
    intro i hr2 hf
    have e : i = n := by omega
    subst e
    simp only [u_13_0, u_13_1, u_13_2, u_13_3, u_13_4, u_13_7, u_13_10, u_13_13, u_13_14, u_13_17, u_13_18, u_13_19, u_13_22, u_13_23, u_13_24, u_13_27, u_13_30, u_13_31, u_13_32, u_13_35, u_13_38, u_13_39, u_13_40, u_13_43, u_13_46, u_13_47, u_13_48, u_13_51, u_13_54, u_13_55, u_13_56, u_13_59, u_13_62, u_13_63, f_gf_some, f_gv_some, f_pf_some, f_ia_some, f_la_some, f_aa_some, f_is_some, f_ls_some, f_rc_some, f_at0, f_atS, f_st_0, f_st_1i, f_st_1r, f_st_1l, f_st_1n, f_st_S, f_s2_0, f_s2_1i, f_s2_1r, f_s2_1l, f_s2_1n, f_s2_S, true_and, and_true, List.set_cons_zero, List.set_cons_succ, List.length_cons, List.length_nil, Nat.reduceAdd, Nat.reduceEqDiff, reduceIte, Nat.left_eq_add, Nat.add_eq_left, Nat.reduceLT, hP.1, hF.1]
    exact am_br_t (Int32.le_refl _) (hno hf)
  | succ r ih =>
    intro i hr2 hf
    have hv : vp_in (nI i) 150 := vp_in_nI (by omega) (by decide)
    have hcl : (nI i).toNatClampNeg = i := nI_clamp (by omega)
    have go : ¬ rdy T n P i → am_W G (am_M G (d + 1)) 13 K 2 [some (.ref (ad 275)), some (.int lo), some (.int (nI (i + 1)))] [] h 0 0 := fun q => ih (i + 1) (by omega) (fun c hc => by
      by_cases e : c = i
      · subst e; exact q
      · exact hf c (by omega))
    obtain ⟨w1, w2⟩ := hw i (by omega)
    rw [u_13_2]
    simp only [u_13_0, u_13_1, u_13_3, u_13_4, u_13_7, u_13_10, u_13_13, u_13_14, u_13_17, u_13_18, u_13_19, u_13_22, u_13_23, u_13_24, u_13_27, u_13_30, u_13_31, u_13_32, u_13_35, u_13_38, u_13_39, u_13_40, u_13_43, u_13_46, u_13_47, u_13_48, u_13_51, u_13_54, u_13_55, u_13_56, u_13_59, u_13_62, u_13_63, f_gf_some, f_gv_some, f_pf_some, f_ia_some, f_la_some, f_aa_some, f_is_some, f_ls_some, f_rc_some, f_at0, f_atS, f_st_0, f_st_1i, f_st_1r, f_st_1l, f_st_1n, f_st_S, f_s2_0, f_s2_1i, f_s2_1r, f_s2_1l, f_s2_1n, f_s2_S, true_and, and_true, List.set_cons_zero, List.set_cons_succ, List.length_cons, List.length_nil, Nat.reduceAdd, Nat.reduceEqDiff, reduceIte, Nat.left_eq_add, Nat.add_eq_left, Nat.reduceLT, hP.1, hP.2.2.1, hF.1, hF.2.2.1, hv, hcl, o1, i1]
    refine am_br_f (nI_ge (by omega) (by omega)) ?_
    rcases hr i (by omega) with ⟨a, b⟩ | ⟨a, b⟩
    · exact am_br_t (by rw [a]; decide) (go (fun q => q.1 b))
    · refine am_br_f (by rw [a]; decide) ⟨(by first | decide | exact ⟨Nat.le_of_ble_eq_true rfl, Nat.le_of_ble_eq_true rfl, Nat.le_of_ble_eq_true rfl⟩), c_hasPassed hn hP hr w1 (fun c => ?_) (fun c => ?_)⟩
      · (show am_W G (am_M G (d + 1)) 13 K _ _ _ _ _ _; simp only [u_13_0, u_13_1, u_13_3, u_13_4, u_13_7, u_13_10, u_13_13, u_13_14, u_13_17, u_13_18, u_13_19, u_13_22, u_13_23, u_13_24, u_13_27, u_13_30, u_13_31, u_13_32, u_13_35, u_13_38, u_13_39, u_13_40, u_13_43, u_13_46, u_13_47, u_13_48, u_13_51, u_13_54, u_13_55, u_13_56, u_13_59, u_13_62, u_13_63, f_gf_some, f_gv_some, f_pf_some, f_ia_some, f_la_some, f_aa_some, f_is_some, f_ls_some, f_rc_some, f_at0, f_atS, f_st_0, f_st_1i, f_st_1r, f_st_1l, f_st_1n, f_st_S, f_s2_0, f_s2_1i, f_s2_1r, f_s2_1l, f_s2_1n, f_s2_S, true_and, and_true, List.set_cons_zero, List.set_cons_succ, List.length_cons, List.length_nil, Nat.reduceAdd, Nat.reduceEqDiff, reduceIte, Nat.left_eq_add, Nat.add_eq_left, Nat.reduceLT, hP.1, hP.2.2.1, hF.1, hF.2.2.2, hv, hcl, o1, i1, mz_7, sz_7, mz_8, sz_8, mz_9, sz_9, mz_10, sz_10, mz_11, sz_11, mz_12, sz_12, mz_13, sz_13, mz_14, sz_14, mz_15, sz_15, mz_16, sz_16, mz_17, sz_17, mz_18, sz_18, mz_19, sz_19, mz_20, sz_20, mz_21, sz_21, mz_22, sz_22, mz_23, sz_23, mz_24, sz_24, mz_25, sz_25, mz_26, sz_26, mz_27, sz_27, mz_28, sz_28, mz_29, sz_29, mz_30, sz_30, mz_31, sz_31, mz_32, sz_32, mz_33, sz_33, mz_34, sz_34, mz_35, sz_35, mz_36, sz_36, mz_39, sz_39, mz_40, sz_40, mz_43, sz_43, mz_44, sz_44, mz_45, sz_45, mz_63, sz_63, mz_69, sz_69, mz_70, sz_70, mz_71, sz_71, mz_74, sz_74, mz_77, sz_77, mz_78, sz_78, mz_79, sz_79, mz_83, sz_83, mz_84, sz_84, mz_85, sz_85, mz_86, sz_86, mz_87, sz_87, mz_88, sz_88, mz_89, sz_89, mz_90, sz_90, mz_91, sz_91, mz_92, sz_92, mz_93, sz_93, mz_94, sz_94, mz_95, sz_95, mz_96, sz_96, mz_97, sz_97, mz_98, sz_98, mz_99, sz_99, mz_100, sz_100, mz_101, sz_101, mz_102, sz_102, mz_103, sz_103, mz_104, sz_104, mz_105, sz_105, mz_106, sz_106, mz_107, sz_107, mz_108, sz_108, mz_109, sz_109, mz_110, sz_110, mz_111, sz_111, mz_112, sz_112, mz_113, sz_113, mz_114, sz_114, mz_115, sz_115, mz_116, sz_116, mz_117, sz_117, mz_118, sz_118, mz_119, sz_119, mz_120, sz_120, mz_121, sz_121, mz_122, sz_122, mz_123, sz_123, mz_124, sz_124, mz_125, sz_125, mz_126, sz_126, mz_127, sz_127, mz_128, sz_128, Nat.add_zero, Option.toList, List.cons_append, List.nil_append])
        refine am_br_f (by decide) ⟨(by first | decide | exact ⟨Nat.le_of_ble_eq_true rfl, Nat.le_of_ble_eq_true rfl, Nat.le_of_ble_eq_true rfl⟩), c_hasPassed hn hP hr w2 (fun c2 => ?_) (fun c2 => ?_)⟩
        · (show am_W G (am_M G (d + 1)) 13 K _ _ _ _ _ _; simp only [u_13_0, u_13_1, u_13_3, u_13_4, u_13_7, u_13_10, u_13_13, u_13_14, u_13_17, u_13_18, u_13_19, u_13_22, u_13_23, u_13_24, u_13_27, u_13_30, u_13_31, u_13_32, u_13_35, u_13_38, u_13_39, u_13_40, u_13_43, u_13_46, u_13_47, u_13_48, u_13_51, u_13_54, u_13_55, u_13_56, u_13_59, u_13_62, u_13_63, f_gf_some, f_gv_some, f_pf_some, f_ia_some, f_la_some, f_aa_some, f_is_some, f_ls_some, f_rc_some, f_at0, f_atS, f_st_0, f_st_1i, f_st_1r, f_st_1l, f_st_1n, f_st_S, f_s2_0, f_s2_1i, f_s2_1r, f_s2_1l, f_s2_1n, f_s2_S, true_and, and_true, List.set_cons_zero, List.set_cons_succ, List.length_cons, List.length_nil, Nat.reduceAdd, Nat.reduceEqDiff, reduceIte, Nat.left_eq_add, Nat.add_eq_left, Nat.reduceLT, o1, i1, mz_7, sz_7, mz_8, sz_8, mz_9, sz_9, mz_10, sz_10, mz_11, sz_11, mz_12, sz_12, mz_13, sz_13, mz_14, sz_14, mz_15, sz_15, mz_16, sz_16, mz_17, sz_17, mz_18, sz_18, mz_19, sz_19, mz_20, sz_20, mz_21, sz_21, mz_22, sz_22, mz_23, sz_23, mz_24, sz_24, mz_25, sz_25, mz_26, sz_26, mz_27, sz_27, mz_28, sz_28, mz_29, sz_29, mz_30, sz_30, mz_31, sz_31, mz_32, sz_32, mz_33, sz_33, mz_34, sz_34, mz_35, sz_35, mz_36, sz_36, mz_39, sz_39, mz_40, sz_40, mz_43, sz_43, mz_44, sz_44, mz_45, sz_45, mz_63, sz_63, mz_69, sz_69, mz_70, sz_70, mz_71, sz_71, mz_74, sz_74, mz_77, sz_77, mz_78, sz_78, mz_79, sz_79, mz_83, sz_83, mz_84, sz_84, mz_85, sz_85, mz_86, sz_86, mz_87, sz_87, mz_88, sz_88, mz_89, sz_89, mz_90, sz_90, mz_91, sz_91, mz_92, sz_92, mz_93, sz_93, mz_94, sz_94, mz_95, sz_95, mz_96, sz_96, mz_97, sz_97, mz_98, sz_98, mz_99, sz_99, mz_100, sz_100, mz_101, sz_101, mz_102, sz_102, mz_103, sz_103, mz_104, sz_104, mz_105, sz_105, mz_106, sz_106, mz_107, sz_107, mz_108, sz_108, mz_109, sz_109, mz_110, sz_110, mz_111, sz_111, mz_112, sz_112, mz_113, sz_113, mz_114, sz_114, mz_115, sz_115, mz_116, sz_116, mz_117, sz_117, mz_118, sz_118, mz_119, sz_119, mz_120, sz_120, mz_121, sz_121, mz_122, sz_122, mz_123, sz_123, mz_124, sz_124, mz_125, sz_125, mz_126, sz_126, mz_127, sz_127, mz_128, sz_128, Nat.add_zero, Option.toList, List.cons_append, List.nil_append])
          exact am_br_f (by decide) (hy i ⟨by omega, ⟨b, c, c2⟩, hf⟩)
        · (show am_W G (am_M G (d + 1)) 13 K _ _ _ _ _ _; simp only [u_13_0, u_13_1, u_13_3, u_13_4, u_13_7, u_13_10, u_13_13, u_13_14, u_13_17, u_13_18, u_13_19, u_13_22, u_13_23, u_13_24, u_13_27, u_13_30, u_13_31, u_13_32, u_13_35, u_13_38, u_13_39, u_13_40, u_13_43, u_13_46, u_13_47, u_13_48, u_13_51, u_13_54, u_13_55, u_13_56, u_13_59, u_13_62, u_13_63, f_gf_some, f_gv_some, f_pf_some, f_ia_some, f_la_some, f_aa_some, f_is_some, f_ls_some, f_rc_some, f_at0, f_atS, f_st_0, f_st_1i, f_st_1r, f_st_1l, f_st_1n, f_st_S, f_s2_0, f_s2_1i, f_s2_1r, f_s2_1l, f_s2_1n, f_s2_S, true_and, and_true, List.set_cons_zero, List.set_cons_succ, List.length_cons, List.length_nil, Nat.reduceAdd, Nat.reduceEqDiff, reduceIte, Nat.left_eq_add, Nat.add_eq_left, Nat.reduceLT, o1, i1, mz_7, sz_7, mz_8, sz_8, mz_9, sz_9, mz_10, sz_10, mz_11, sz_11, mz_12, sz_12, mz_13, sz_13, mz_14, sz_14, mz_15, sz_15, mz_16, sz_16, mz_17, sz_17, mz_18, sz_18, mz_19, sz_19, mz_20, sz_20, mz_21, sz_21, mz_22, sz_22, mz_23, sz_23, mz_24, sz_24, mz_25, sz_25, mz_26, sz_26, mz_27, sz_27, mz_28, sz_28, mz_29, sz_29, mz_30, sz_30, mz_31, sz_31, mz_32, sz_32, mz_33, sz_33, mz_34, sz_34, mz_35, sz_35, mz_36, sz_36, mz_39, sz_39, mz_40, sz_40, mz_43, sz_43, mz_44, sz_44, mz_45, sz_45, mz_63, sz_63, mz_69, sz_69, mz_70, sz_70, mz_71, sz_71, mz_74, sz_74, mz_77, sz_77, mz_78, sz_78, mz_79, sz_79, mz_83, sz_83, mz_84, sz_84, mz_85, sz_85, mz_86, sz_86, mz_87, sz_87, mz_88, sz_88, mz_89, sz_89, mz_90, sz_90, mz_91, sz_91, mz_92, sz_92, mz_93, sz_93, mz_94, sz_94, mz_95, sz_95, mz_96, sz_96, mz_97, sz_97, mz_98, sz_98, mz_99, sz_99, mz_100, sz_100, mz_101, sz_101, mz_102, sz_102, mz_103, sz_103, mz_104, sz_104, mz_105, sz_105, mz_106, sz_106, mz_107, sz_107, mz_108, sz_108, mz_109, sz_109, mz_110, sz_110, mz_111, sz_111, mz_112, sz_112, mz_113, sz_113, mz_114, sz_114, mz_115, sz_115, mz_116, sz_116, mz_117, sz_117, mz_118, sz_118, mz_119, sz_119, mz_120, sz_120, mz_121, sz_121, mz_122, sz_122, mz_123, sz_123, mz_124, sz_124, mz_125, sz_125, mz_126, sz_126, mz_127, sz_127, mz_128, sz_128, Nat.add_zero, Option.toList, List.cons_append, List.nil_append])
          exact am_br_t (by decide) (go (fun q => c2 q.2.2))
      · (show am_W G (am_M G (d + 1)) 13 K _ _ _ _ _ _; simp only [u_13_0, u_13_1, u_13_3, u_13_4, u_13_7, u_13_10, u_13_13, u_13_14, u_13_17, u_13_18, u_13_19, u_13_22, u_13_23, u_13_24, u_13_27, u_13_30, u_13_31, u_13_32, u_13_35, u_13_38, u_13_39, u_13_40, u_13_43, u_13_46, u_13_47, u_13_48, u_13_51, u_13_54, u_13_55, u_13_56, u_13_59, u_13_62, u_13_63, f_gf_some, f_gv_some, f_pf_some, f_ia_some, f_la_some, f_aa_some, f_is_some, f_ls_some, f_rc_some, f_at0, f_atS, f_st_0, f_st_1i, f_st_1r, f_st_1l, f_st_1n, f_st_S, f_s2_0, f_s2_1i, f_s2_1r, f_s2_1l, f_s2_1n, f_s2_S, true_and, and_true, List.set_cons_zero, List.set_cons_succ, List.length_cons, List.length_nil, Nat.reduceAdd, Nat.reduceEqDiff, reduceIte, Nat.left_eq_add, Nat.add_eq_left, Nat.reduceLT, o1, i1, mz_7, sz_7, mz_8, sz_8, mz_9, sz_9, mz_10, sz_10, mz_11, sz_11, mz_12, sz_12, mz_13, sz_13, mz_14, sz_14, mz_15, sz_15, mz_16, sz_16, mz_17, sz_17, mz_18, sz_18, mz_19, sz_19, mz_20, sz_20, mz_21, sz_21, mz_22, sz_22, mz_23, sz_23, mz_24, sz_24, mz_25, sz_25, mz_26, sz_26, mz_27, sz_27, mz_28, sz_28, mz_29, sz_29, mz_30, sz_30, mz_31, sz_31, mz_32, sz_32, mz_33, sz_33, mz_34, sz_34, mz_35, sz_35, mz_36, sz_36, mz_39, sz_39, mz_40, sz_40, mz_43, sz_43, mz_44, sz_44, mz_45, sz_45, mz_63, sz_63, mz_69, sz_69, mz_70, sz_70, mz_71, sz_71, mz_74, sz_74, mz_77, sz_77, mz_78, sz_78, mz_79, sz_79, mz_83, sz_83, mz_84, sz_84, mz_85, sz_85, mz_86, sz_86, mz_87, sz_87, mz_88, sz_88, mz_89, sz_89, mz_90, sz_90, mz_91, sz_91, mz_92, sz_92, mz_93, sz_93, mz_94, sz_94, mz_95, sz_95, mz_96, sz_96, mz_97, sz_97, mz_98, sz_98, mz_99, sz_99, mz_100, sz_100, mz_101, sz_101, mz_102, sz_102, mz_103, sz_103, mz_104, sz_104, mz_105, sz_105, mz_106, sz_106, mz_107, sz_107, mz_108, sz_108, mz_109, sz_109, mz_110, sz_110, mz_111, sz_111, mz_112, sz_112, mz_113, sz_113, mz_114, sz_114, mz_115, sz_115, mz_116, sz_116, mz_117, sz_117, mz_118, sz_118, mz_119, sz_119, mz_120, sz_120, mz_121, sz_121, mz_122, sz_122, mz_123, sz_123, mz_124, sz_124, mz_125, sz_125, mz_126, sz_126, mz_127, sz_127, mz_128, sz_128, Nat.add_zero, Option.toList, List.cons_append, List.nil_append])
        exact am_br_t (by decide) (go (fun q => c q.2.1))
theorem c_findReady {h : am_H} {P : Nat → Prop} {lo : Nat} (hn : n ≤ 150) (hF : FM ad h 1 n T) (hw : wfg n m T) (hP : PL ad h ic ps od pl rg rl kn) (hr : rp n ps P) (hlo : lo ≤ n) (hl : ∀ c, c < lo → P c) (hy : ∀ c, nxt T n P c → K (.inl (some (.int (nI c)))) h) (hno : NX T n P → K (.inl (some (.int (-1)))) h) : am_M G (d + 2) 13 [.ref (ad 275), .int (nI lo)] h K := by
  refine n_13 (d := d + 1) ?_
  simp only [u_13_0, u_13_1, u_13_3, u_13_4, u_13_7, u_13_10, u_13_13, u_13_14, u_13_17, u_13_18, u_13_19, u_13_22, u_13_23, u_13_24, u_13_27, u_13_30, u_13_31, u_13_32, u_13_35, u_13_38, u_13_39, u_13_40, u_13_43, u_13_46, u_13_47, u_13_48, u_13_51, u_13_54, u_13_55, u_13_56, u_13_59, u_13_62, u_13_63, f_gf_some, f_gv_some, f_pf_some, f_ia_some, f_la_some, f_aa_some, f_is_some, f_ls_some, f_rc_some, f_at0, f_atS, f_st_0, f_st_1i, f_st_1r, f_st_1l, f_st_1n, f_st_S, f_s2_0, f_s2_1i, f_s2_1r, f_s2_1l, f_s2_1n, f_s2_S, true_and, and_true, List.set_cons_zero, List.set_cons_succ, List.length_cons, List.length_nil, Nat.reduceAdd, Nat.reduceEqDiff, reduceIte, Nat.left_eq_add, Nat.add_eq_left, Nat.reduceLT]
  exact l_fr hn hF hw hP hr hy hno (n - lo) lo (by omega) (fun c hc q => q.1 (hl c hc))
end Pl

-- the reference measures ways
def ldp (n : Nat) (sp : Nat → Int32) (to l : Nat) (x : Int32) : Prop := ∃ y, x = nI y ∧ y < n ∧ ((l = 1 ∧ y = to) ∨ (¬ l = 1 ∧ sp y = nI (l - 1)))
def PM (T : FT) (n to l : Nat) (sp : Nat → Int32) (c : Nat) : Prop := (∃ e, e < l ∧ LD T n e c to ∧ sp c = nI e) ∨ (sp c = 0 ∧ ∀ e, 1 ≤ e → e < l → ¬ wk T n e c to)
/-- the rows of a measure towards `to` -/
def MS (T : FT) (n to : Nat) (sp : Nat → Int32) (c : Nat) : Prop := (∃ e, e ≤ n ∧ LD T n e c to ∧ sp c = nI e) ∨ (sp c = 0 ∧ NW T n c to)
theorem nI_z {e : Nat} (he : e < 2 ^ 31) (h : nI e = 0) : e = 0 := (nI_eq (b := 0) he (by decide)).mp h
theorem PM.up1 {T : FT} {n to l c : Nat} {sp : Nat → Int32} (h : PM T n to l sp c) (hs : ¬ sp c = 0) : PM T n to (l + 1) sp c := by
  rcases h with ⟨e, a, b⟩ | ⟨a, -⟩
  · exact Or.inl ⟨e, by omega, b⟩
  · exact absurd a hs
theorem PM.ne {T : FT} {n to l c : Nat} {sp sp' : Nat → Int32} (h : PM T n to l sp c) (hs : sp' c = sp c) : PM T n to l sp' c := by
  unfold PM; rw [hs]; exact h
theorem PM.no {T : FT} {n to l c : Nat} {sp : Nat → Int32} (h : PM T n to l sp c) (hl : l ≤ 200) (hs : sp c = 0) : ∀ e, 1 ≤ e → e < l → ¬ wk T n e c to := by
  rcases h with ⟨e, a, b, c'⟩ | ⟨-, b⟩
  · rw [hs] at c'
    have := nI_z (by omega) c'.symm
    have := b.1
    omega
  · exact b
theorem PM.lev {T : FT} {n to l c l' : Nat} {sp : Nat → Int32} (h : PM T n to l' sp c) (h1 : l' = l ∨ l' = l + 1) (hl : l ≤ 200) {k : Nat} (hk : 1 ≤ k) (e : l = k + 1) : sp c = nI k ↔ LD T n k c to := by
  rcases h with ⟨u, a, b, c'⟩ | ⟨a, b⟩
  · rw [c']
    constructor
    · intro q
      have := (nI_eq (by omega) (by omega)).mp q
      subst this
      exact b
    · intro q
      rw [b.uniq q]
  · rw [a]
    constructor
    · intro q
      have := nI_z (by omega) q.symm
      omega
    · intro q
      exact absurd q.2.1 (b k hk (by omega))
theorem PM.step {T : FT} {n m to l c : Nat} {sp : Nat → Int32} (hl : 1 ≤ l) (hl2 : l ≤ 200) (hto : to < n) (hc : PM T n to l sp c) (hs : sp c = 0) (hall : ∀ c', c' < n → PM T n to l sp c' ∨ PM T n to (l + 1) sp c') : (ldp n sp to l (T.2.1 c) ∨ ldp n sp to l (T.2.2 c)) ↔ wk T n l c to := by
  have hno := hc.no hl2 hs
  obtain ⟨k, rfl⟩ : ∃ k, l = k + 1 := ⟨l - 1, by omega⟩
  have hF : 1 ≤ k → ∀ y, y < n → (sp y = nI k ↔ LD T n k y to) := fun hk y hy => by
    rcases hall y hy with q | q
    · exact q.lev (Or.inl rfl) hl2 hk rfl
    · exact q.lev (Or.inr rfl) hl2 hk rfl
  constructor
  · have go : ∀ y, ed T c y → y < n → ((k + 1 = 1 ∧ y = to) ∨ (¬ k + 1 = 1 ∧ sp y = nI (k + 1 - 1))) → wk T n (k + 1) c to := by
      intro y he hy q
      rcases q with ⟨a, b⟩ | ⟨a, b⟩
      · have : k = 0 := by omega
        subst this
        subst b
        exact ⟨y, hy, he, rfl⟩
      · exact ⟨y, hy, he, ((hF (by omega) y hy).mp b).2.1⟩
    rintro (⟨y, a, b, c'⟩ | ⟨y, a, b, c'⟩)
    · exact go y (Or.inl a) b c'
    · exact go y (Or.inr a) b c'
  · rintro ⟨y, hy, he, hk⟩
    have hc2 : (k + 1 = 1 ∧ y = to) ∨ (¬ k + 1 = 1 ∧ sp y = nI (k + 1 - 1)) := by
      by_cases e : k = 0
      · subst e; exact Or.inl ⟨rfl, hk⟩
      · refine Or.inr ⟨by omega, (hF (by omega) y hy).mpr ⟨by omega, hk, fun e' h1 h2 => ?_⟩⟩
        refine Decidable.byContradiction fun q => hno (e' + 1) (by omega) (by omega) ⟨y, hy, he, h2⟩
    rcases he with a | a
    · exact Or.inl ⟨y, a, hy, hc2⟩
    · exact Or.inr ⟨y, a, hy, hc2⟩
theorem PM.hit {T : FT} {n to l c : Nat} {sp : Nat → Int32} (hl : 1 ≤ l) (hl2 : l ≤ 200) (hc : PM T n to l sp c) (hs : sp c = 0) (hk : wk T n l c to) : LD T n l c to := ⟨hl, hk, fun e h1 h2 => Decidable.byContradiction fun q => hc.no hl2 hs e h1 (by omega) h2⟩
theorem PM.miss {T : FT} {n to l c : Nat} {sp : Nat → Int32} (hl2 : l ≤ 200) (hc : PM T n to l sp c) (hs : sp c = 0) (hk : ¬ wk T n l c to) : PM T n to (l + 1) sp c := Or.inr ⟨hs, fun e h1 h2 h3 => by
  by_cases q : e = l
  · subst q; exact hk h3
  · exact hc.no hl2 hs e h1 (by omega) h3⟩
theorem LD.none {T : FT} {n to l : Nat} (hl : 1 ≤ l) (h : ∀ c, c < n → ¬ LD T n l c to) : ∀ k c, c < n → ¬ LD T n (l + k) c to
  | 0, c, hc => h c hc
  | k + 1, c, hc => fun ⟨h1, ⟨y, hy, he, hw⟩, h3⟩ => LD.none hl h k y hy ⟨by omega, hw, fun e' a b => by
      have := h3 (e' + 1) (by omega) ⟨y, hy, he, b⟩
      omega⟩
theorem wk.least {T : FT} {n c x : Nat} : ∀ e, 1 ≤ e → wk T n e c x → ∃ e0, e0 ≤ e ∧ LD T n e0 c x := by
  intro e
  induction e using Nat.strongRecOn with
  | _ e ih =>
    intro h1 h2
    by_cases q : ∃ e', e' < e ∧ 1 ≤ e' ∧ wk T n e' c x
    · obtain ⟨e', a, b, c'⟩ := q
      obtain ⟨e0, x1, x2⟩ := ih e' a b c'
      exact ⟨e0, by omega, x2⟩
    · exact ⟨e, Nat.le_refl e, h1, h2, fun e' a b => Decidable.byContradiction fun q2 => q ⟨e', by omega, a, b⟩⟩
theorem PM.fin {T : FT} {n to l c : Nat} {sp : Nat → Int32} (hl : 1 ≤ l) (hl2 : l ≤ n + 1) (hc : c < n) (hp : PM T n to (l + 1) sp c) (h : ∀ c, c < n → ¬ LD T n l c to) : MS T n to sp c := by
  rcases hp with ⟨e, a, b⟩ | ⟨a, b⟩
  · have : e ≠ l := fun q => by subst q; exact h c hc b.1
    exact Or.inl ⟨e, by omega, b⟩
  · refine Or.inr ⟨a, fun e h1 h2 => ?_⟩
    obtain ⟨e0, x1, x2⟩ := wk.least e h1 h2
    by_cases q : e0 < l + 1
    · exact b e0 x2.1 q x2.2.1
    · obtain ⟨k, rfl⟩ : ∃ k, e0 = l + k := ⟨e0 - l, by omega⟩
      exact LD.none hl h k c hc x2
section Me
variable {G : am_G} {d : Nat} {K : am_K} {ad : Nat → Nat} {h : am_H} {t : Int32} {n m : Nat} {z : Sl} {H : Nat → Sl} {th pc : Nat} {C : Nat → Nat × FT × FT} {wc : Nat} {wl : Nat → Int32} {wa : Int32} {cm sp us rg : Nat → Int32} {A : Nat → Nat → Int32} {B : Nat → Nat → Int64}
theorem r_leads {x : Int32} {to l : Nat} (hn : n ≤ 150) (hx : okx n m x) (hl : 1 ≤ l) (hl2 : l ≤ 200) (hto : to < 150) (hM : MD ad h t m n pc th wc wa A B) (hy : ldp n (A 19) to l x → K (.inl (some (.int 1))) h) (hno : ¬ ldp n (A 19) to l x → K (.inl (some (.int 0))) h) : am_M G (d + 1) 100 [.ref (ad 322), .int x, .int (nI to), .int (nI l)] h K := by
  refine n_100 ?_
  rw [u_100_0, u_100_1]
  refine ⟨fun c => ?_, fun c => ?_⟩
  · simp only [u_100_0, u_100_1, u_100_4, u_100_5, u_100_6, u_100_9, u_100_10, u_100_11, u_100_14, u_100_17, u_100_18, u_100_21, u_100_22, u_100_23, u_100_24, u_100_25, u_100_26, u_100_29, u_100_30, u_100_33, u_100_34, f_gf_some, f_gv_some, f_pf_some, f_ia_some, f_la_some, f_aa_some, f_is_some, f_ls_some, f_rc_some, f_at0, f_atS, f_st_0, f_st_1i, f_st_1r, f_st_1l, f_st_1n, f_st_S, f_s2_0, f_s2_1i, f_s2_1r, f_s2_1l, f_s2_1n, f_s2_S, true_and, and_true, List.set_cons_zero, List.set_cons_succ, List.length_cons, List.length_nil, Nat.reduceAdd, Nat.reduceEqDiff, reduceIte, Nat.left_eq_add, Nat.add_eq_left, Nat.reduceLT, nz_0]
    exact hno (fun ⟨y, e, hy2, _⟩ => nI_pos (n := y) (by omega) (by rw [← e]; exact c))
  · rcases hx with ⟨q, -⟩ | ⟨y, hy2, rfl⟩
    · exact absurd q c
    have hcl : (nI y).toNatClampNeg = y := nI_clamp (by omega)
    have hv : vp_in (nI y) 150 := vp_in_nI (by omega) (by decide)
    obtain ⟨k, rfl⟩ : ∃ k, l = k + 1 := ⟨l - 1, by omega⟩
    have e9 : nI (k + 1) - 1 = nI k := nI_pred k
    simp only [u_100_0, u_100_1, u_100_4, u_100_5, u_100_6, u_100_9, u_100_10, u_100_11, u_100_14, u_100_17, u_100_18, u_100_21, u_100_22, u_100_23, u_100_24, u_100_25, u_100_26, u_100_29, u_100_30, u_100_33, u_100_34, f_gf_some, f_gv_some, f_pf_some, f_ia_some, f_la_some, f_aa_some, f_is_some, f_ls_some, f_rc_some, f_at0, f_atS, f_st_0, f_st_1i, f_st_1r, f_st_1l, f_st_1n, f_st_S, f_s2_0, f_s2_1i, f_s2_1r, f_s2_1l, f_s2_1n, f_s2_S, true_and, and_true, List.set_cons_zero, List.set_cons_succ, List.length_cons, List.length_nil, Nat.reduceAdd, Nat.reduceEqDiff, reduceIte, Nat.left_eq_add, Nat.add_eq_left, Nat.reduceLT, hM.1, MO, hM.a0, hM.a1, hM.a2, hM.a3, hM.a4, hM.a5, hM.a6, hM.a7, hM.a8, hM.a9, hM.a10, hM.a11, hM.a12, hM.a13, hM.a14, hM.a15, hM.a16, hM.a17, hM.a18, hM.a19, hM.a20, hM.a21, hM.b0, hM.b1, hM.b2, hM.b3, hv, hcl, e9, nz_0, nz_1]
    have u : ∀ y', nI y = nI y' → y' < n → y = y' := fun y' e h' => (nI_eq (by omega) (by omega)).mp e
    refine ⟨fun c1 => ⟨fun c2 => hno (fun ⟨y', e, h', q⟩ => ?_), fun c2 => hy ⟨y, rfl, hy2, Or.inr ⟨?_, Decidable.not_not.mp c2⟩⟩⟩, fun c1 => ⟨fun c2 => hno (fun ⟨y', e, h', q⟩ => ?_), fun c2 => hy ⟨y, rfl, hy2, Or.inl ⟨?_, ?_⟩⟩⟩⟩
    · have := u y' e h'
      subst this
      rcases q with ⟨q, -⟩ | ⟨-, q⟩
      · rw [q] at c1; exact c1 rfl
      · exact c2 q
    · intro q; rw [q] at c1; exact c1 rfl
    · have := u y' e h'
      subst this
      rcases q with ⟨-, q⟩ | ⟨q, -⟩
      · rw [q] at c2; exact c2 rfl
      · exact q ((nI_eq (b := 1) (by omega) (by decide)).mp (Decidable.not_not.mp c1))
    · exact (nI_eq (b := 1) (by omega) (by decide)).mp (Decidable.not_not.mp c1)
    · exact (nI_eq (by omega) (by omega)).mp (Decidable.not_not.mp c2)
theorem l_zero (hi : am_inj ad) {to : Nat} (hn : n ≤ 150) {o3 o4 o5 : Option Value} (hk : ∀ h' sp', RS ad h' t n m z H th pc C wc wl wa cm sp' us rg → fr322 ad h h' → (∀ c, c < n → sp' c = 0) → am_W G (am_M G (d + 1)) 99 K 23 [some (.ref (ad 322)), some (.int (nI to)), some (.int (nI n)), o3, o4, o5] [] h' 0 0) :
    ∀ r i h' sp', i + r = n → RS ad h' t n m z H th pc C wc wl wa cm sp' us rg → fr322 ad h h' → (∀ c, c < i → sp' c = 0) → am_W G (am_M G (d + 1)) 99 K 2 [some (.ref (ad 322)), some (.int (nI to)), some (.int (nI i)), o3, o4, o5] [] h' 0 0 := by
  intro r
  induction r with
  | zero =>
    intro i h' sp' hr hR FR hs
    have e : i = n := by omega
    subst e
    obtain ⟨A, B, hM, q⟩ := id hR
    simp only [u_99_0, u_99_1, u_99_2, u_99_3, u_99_4, u_99_7, u_99_10, u_99_11, u_99_14, u_99_15, u_99_16, u_99_17, u_99_20, u_99_24, u_99_25, u_99_26, u_99_27, u_99_28, u_99_31, u_99_32, u_99_33, u_99_34, u_99_36, u_99_38, u_99_39, u_99_42, u_99_45, u_99_46, u_99_49, u_99_51, u_99_52, u_99_55, u_99_56, u_99_57, u_99_60, u_99_62, u_99_65, u_99_66, u_99_67, u_99_68, u_99_71, u_99_74, u_99_75, u_99_76, u_99_79, u_99_81, u_99_84, u_99_85, u_99_86, u_99_87, u_99_90, u_99_93, u_99_94, u_99_97, u_99_98, u_99_100, u_99_102, u_99_105, u_99_106, u_99_109, u_99_111, u_99_112, u_99_113, u_99_114, u_99_115, u_99_118, u_99_121, u_99_124, u_99_127, f_gf_some, f_gv_some, f_pf_some, f_ia_some, f_la_some, f_aa_some, f_is_some, f_ls_some, f_rc_some, f_at0, f_atS, f_st_0, f_st_1i, f_st_1r, f_st_1l, f_st_1n, f_st_S, f_s2_0, f_s2_1i, f_s2_1r, f_s2_1l, f_s2_1n, f_s2_S, true_and, and_true, List.set_cons_zero, List.set_cons_succ, List.length_cons, List.length_nil, Nat.reduceAdd, Nat.reduceEqDiff, reduceIte, Nat.left_eq_add, Nat.add_eq_left, Nat.reduceLT, hM.1, MO]
    exact am_br_t (Int32.le_refl _) (hk h' sp' hR FR hs)
  | succ r ih =>
    intro i h' sp' hr hR FR hs
    obtain ⟨A, B, hM, q1, q2, q3, q4, q5, x1, x2, x3, x4⟩ := id hR
    have hcl : (nI i).toNatClampNeg = i := nI_clamp (by omega)
    have hv : vp_in (nI i) 150 := vp_in_nI (by omega) (by decide)
    rw [u_99_2]
    simp only [u_99_0, u_99_1, u_99_3, u_99_4, u_99_7, u_99_10, u_99_11, u_99_14, u_99_15, u_99_16, u_99_17, u_99_20, u_99_24, u_99_25, u_99_26, u_99_27, u_99_28, u_99_31, u_99_32, u_99_33, u_99_34, u_99_36, u_99_38, u_99_39, u_99_42, u_99_45, u_99_46, u_99_49, u_99_51, u_99_52, u_99_55, u_99_56, u_99_57, u_99_60, u_99_62, u_99_65, u_99_66, u_99_67, u_99_68, u_99_71, u_99_74, u_99_75, u_99_76, u_99_79, u_99_81, u_99_84, u_99_85, u_99_86, u_99_87, u_99_90, u_99_93, u_99_94, u_99_97, u_99_98, u_99_100, u_99_102, u_99_105, u_99_106, u_99_109, u_99_111, u_99_112, u_99_113, u_99_114, u_99_115, u_99_118, u_99_121, u_99_124, u_99_127, f_gf_some, f_gv_some, f_pf_some, f_ia_some, f_la_some, f_aa_some, f_is_some, f_ls_some, f_rc_some, f_at0, f_atS, f_st_0, f_st_1i, f_st_1r, f_st_1l, f_st_1n, f_st_S, f_s2_0, f_s2_1i, f_s2_1r, f_s2_1l, f_s2_1n, f_s2_S, true_and, and_true, List.set_cons_zero, List.set_cons_succ, List.length_cons, List.length_nil, Nat.reduceAdd, Nat.reduceEqDiff, reduceIte, Nat.left_eq_add, Nat.add_eq_left, Nat.reduceLT, hM.1, MO, hM.a0, hM.a1, hM.a2, hM.a3, hM.a4, hM.a5, hM.a6, hM.a7, hM.a8, hM.a9, hM.a10, hM.a11, hM.a12, hM.a13, hM.a14, hM.a15, hM.a16, hM.a17, hM.a18, hM.a19, hM.a20, hM.a21, hM.b0, hM.b1, hM.b2, hM.b3, hv, hcl, o1, i1]
    refine am_br_f (nI_ge (by omega) (by omega)) (ih (i + 1) _ _ (by omega) (hR.s19 hi _) (fun q hq => (s_ne hi (by omega)).trans (FR q hq)) (fun c hc => ?_))
    by_cases e : c = i
    · subst e; exact pk_us
    · rw [pk_un e, x2]; exact hs c (by omega)
theorem cnt_up {sp : Nat → Int32} {i : Nat} {x : Int32} (hi : i < n) (h0 : sp i = 0) (hx : ¬ x = 0) : cnt (fun y => decide (¬ upd sp i x y = 0)) n = cnt (fun y => decide (¬ sp y = 0)) n + 1 := by
  have := cnt_set (p := fun y => decide (¬ sp y = 0)) (q := fun y => decide (¬ upd sp i x y = 0)) (y := i) (by simp [h0]) (by simp only [pk_us]; simp [hx]) (fun j hj => by simp only [pk_un hj]) n
  rw [this, if_pos hi]
set_option maxHeartbeats 1000000 in
theorem l_lev (hi : am_inj ad) {to l k0 : Nat} (hn : n ≤ 150) (hto : to < n) (hl : 1 ≤ l) (hl2 : l ≤ 152) (hw : wfg n m z.1) (hk : ∀ h' sp' f o5, RS ad h' t n m z H th pc C wc wl wa cm sp' us rg → fr322 ad h h' → (∀ c, c < n → PM z.1 n to (l + 1) sp' c) → ((f = 0 ∧ ∀ c, c < n → ¬ LD z.1 n l c to) ∨ (f = 1 ∧ k0 + 1 ≤ cnt (fun y => decide (¬ sp' y = 0)) n)) → am_W G (am_M G (d + 1)) 99 K 121 [some (.ref (ad 322)), some (.int (nI to)), some (.int f), some (.int (nI l)), some (.int (nI n)), o5] [] h' 0 0) :
    ∀ r i h' sp' f o5, i + r = n → RS ad h' t n m z H th pc C wc wl wa cm sp' us rg → fr322 ad h h' → (∀ c, c < n → (c < i → PM z.1 n to (l + 1) sp' c) ∧ (¬ c < i → PM z.1 n to l sp' c)) → k0 ≤ cnt (fun y => decide (¬ sp' y = 0)) n → ((f = 0 ∧ ∀ c, c < i → ¬ LD z.1 n l c to) ∨ (f = 1 ∧ k0 + 1 ≤ cnt (fun y => decide (¬ sp' y = 0)) n)) → am_W G (am_M G (d + 1)) 99 K 36 [some (.ref (ad 322)), some (.int (nI to)), some (.int f), some (.int (nI l)), some (.int (nI i)), o5] [] h' 0 0 := by
  intro r
  induction r with
  | zero =>
    intro i h' sp' f o5 hr hR FR hp hc0 hf
    have e : i = n := by omega
    subst e
    obtain ⟨A, B, hM, q⟩ := id hR
    simp only [u_99_0, u_99_1, u_99_2, u_99_3, u_99_4, u_99_7, u_99_10, u_99_11, u_99_14, u_99_15, u_99_16, u_99_17, u_99_20, u_99_23, u_99_24, u_99_25, u_99_26, u_99_27, u_99_28, u_99_31, u_99_32, u_99_33, u_99_34, u_99_36, u_99_38, u_99_39, u_99_42, u_99_45, u_99_46, u_99_49, u_99_51, u_99_52, u_99_55, u_99_56, u_99_57, u_99_60, u_99_62, u_99_65, u_99_66, u_99_67, u_99_68, u_99_71, u_99_74, u_99_75, u_99_76, u_99_79, u_99_81, u_99_84, u_99_85, u_99_86, u_99_87, u_99_90, u_99_93, u_99_94, u_99_97, u_99_98, u_99_100, u_99_102, u_99_105, u_99_106, u_99_109, u_99_111, u_99_112, u_99_113, u_99_114, u_99_115, u_99_118, u_99_124, u_99_127, f_gf_some, f_gv_some, f_pf_some, f_ia_some, f_la_some, f_aa_some, f_is_some, f_ls_some, f_rc_some, f_at0, f_atS, f_st_0, f_st_1i, f_st_1r, f_st_1l, f_st_1n, f_st_S, f_s2_0, f_s2_1i, f_s2_1r, f_s2_1l, f_s2_1n, f_s2_S, true_and, and_true, List.set_cons_zero, List.set_cons_succ, List.length_cons, List.length_nil, Nat.reduceAdd, Nat.reduceEqDiff, reduceIte, Nat.left_eq_add, Nat.add_eq_left, Nat.reduceLT, hM.1, MO]
    exact am_br_t (Int32.le_refl _) (hk h' sp' f o5 hR FR (fun c hc => (hp c hc).1 hc) hf)
  | succ r ih =>
    intro i h' sp' f o5 hr hR FR hp hc0 hf
    obtain ⟨A, B, hM, q1, q2, q3, q4, q5, x1, x2, x3, x4⟩ := id hR
    subst x2
    have hcl : (nI i).toNatClampNeg = i := nI_clamp (by omega)
    have hv : vp_in (nI i) 150 := vp_in_nI (by omega) (by decide)
    have hcl2 : (nI (2400 + i)).toNatClampNeg = 2400 + i := nI_clamp (by omega)
    have hv2 : vp_in (nI (2400 + i)) 2550 := vp_in_nI (by omega) (by decide)
    have e1 : A 1 (2400 + i) = sl_a z i := q1.at (k := 1) (by decide) (by omega)
    have e2 : A 2 (2400 + i) = sl_b z i := q1.at (k := 2) (by decide) (by omega)
    obtain ⟨w1, w2⟩ := hw i (by omega)
    have hpi := (hp i (by omega)).2 (by omega)
    rw [u_99_36]
    simp only [u_99_0, u_99_1, u_99_2, u_99_3, u_99_4, u_99_7, u_99_10, u_99_11, u_99_14, u_99_15, u_99_16, u_99_17, u_99_20, u_99_23, u_99_24, u_99_25, u_99_26, u_99_27, u_99_28, u_99_31, u_99_32, u_99_33, u_99_34, u_99_38, u_99_39, u_99_42, u_99_45, u_99_46, u_99_49, u_99_51, u_99_52, u_99_55, u_99_56, u_99_57, u_99_60, u_99_62, u_99_65, u_99_66, u_99_67, u_99_68, u_99_71, u_99_74, u_99_75, u_99_76, u_99_79, u_99_81, u_99_84, u_99_85, u_99_86, u_99_87, u_99_90, u_99_93, u_99_94, u_99_97, u_99_100, u_99_102, u_99_105, u_99_106, u_99_109, u_99_111, u_99_112, u_99_113, u_99_114, u_99_115, u_99_118, u_99_124, u_99_127, f_gf_some, f_gv_some, f_pf_some, f_ia_some, f_la_some, f_aa_some, f_is_some, f_ls_some, f_rc_some, f_at0, f_atS, f_st_0, f_st_1i, f_st_1r, f_st_1l, f_st_1n, f_st_S, f_s2_0, f_s2_1i, f_s2_1r, f_s2_1l, f_s2_1n, f_s2_S, true_and, and_true, List.set_cons_zero, List.set_cons_succ, List.length_cons, List.length_nil, Nat.reduceAdd, Nat.reduceEqDiff, reduceIte, Nat.left_eq_add, Nat.add_eq_left, Nat.reduceLT, hM.1, MO, hM.a0, hM.a1, hM.a2, hM.a3, hM.a4, hM.a5, hM.a6, hM.a7, hM.a8, hM.a9, hM.a10, hM.a11, hM.a12, hM.a13, hM.a14, hM.a15, hM.a16, hM.a17, hM.a18, hM.a19, hM.a20, hM.a21, hM.b0, hM.b1, hM.b2, hM.b3, hv, hcl, o1, i1]
    have skip : PM z.1 n to (l + 1) (A 19) i → ¬ LD z.1 n l i to → am_W G (am_M G (d + 1)) 99 K 98 [some (.ref (ad 322)), some (.int (nI to)), some (.int f), some (.int (nI l)), some (.int (nI i)), o5] [.int 0] h' 0 0 := fun p1 p2 => by
      simp only [u_99_0, u_99_1, u_99_2, u_99_3, u_99_4, u_99_7, u_99_10, u_99_11, u_99_14, u_99_15, u_99_16, u_99_17, u_99_20, u_99_23, u_99_24, u_99_25, u_99_26, u_99_27, u_99_28, u_99_31, u_99_32, u_99_33, u_99_34, u_99_38, u_99_39, u_99_42, u_99_45, u_99_46, u_99_49, u_99_51, u_99_52, u_99_55, u_99_56, u_99_57, u_99_60, u_99_62, u_99_65, u_99_66, u_99_67, u_99_68, u_99_71, u_99_74, u_99_75, u_99_76, u_99_79, u_99_81, u_99_84, u_99_85, u_99_86, u_99_87, u_99_90, u_99_93, u_99_94, u_99_97, u_99_98, u_99_100, u_99_102, u_99_105, u_99_106, u_99_109, u_99_111, u_99_112, u_99_113, u_99_114, u_99_115, u_99_118, u_99_124, u_99_127, f_gf_some, f_gv_some, f_pf_some, f_ia_some, f_la_some, f_aa_some, f_is_some, f_ls_some, f_rc_some, f_at0, f_atS, f_st_0, f_st_1i, f_st_1r, f_st_1l, f_st_1n, f_st_S, f_s2_0, f_s2_1i, f_s2_1r, f_s2_1l, f_s2_1n, f_s2_S, true_and, and_true, List.set_cons_zero, List.set_cons_succ, List.length_cons, List.length_nil, Nat.reduceAdd, Nat.reduceEqDiff, reduceIte, Nat.left_eq_add, Nat.add_eq_left, Nat.reduceLT, o1, i1]
      refine am_br_t (by decide) (ih (i + 1) h' _ f _ (by omega) hR FR (fun c hc => ⟨fun q => ?_, fun q => (hp c hc).2 (by omega)⟩) hc0 ?_)
      · by_cases e : c = i
        · subst e; exact p1
        · exact (hp c hc).1 (by omega)
      · rcases hf with ⟨a, b⟩ | q
        · refine Or.inl ⟨a, fun c hc => ?_⟩
          by_cases e : c = i
          · subst e; exact p2
          · exact b c (by omega)
        · exact Or.inr q
    have hit : A 19 i = 0 → wk z.1 n l i to → am_W G (am_M G (d + 1)) 99 K 98 [some (.ref (ad 322)), some (.int (nI to)), some (.int f), some (.int (nI l)), some (.int (nI i)), o5] [.int 1] h' 0 0 := fun p1 p2 => by
      simp only [u_99_0, u_99_1, u_99_2, u_99_3, u_99_4, u_99_7, u_99_10, u_99_11, u_99_14, u_99_15, u_99_16, u_99_17, u_99_20, u_99_23, u_99_24, u_99_25, u_99_26, u_99_27, u_99_28, u_99_31, u_99_32, u_99_33, u_99_34, u_99_38, u_99_39, u_99_42, u_99_45, u_99_46, u_99_49, u_99_51, u_99_52, u_99_55, u_99_56, u_99_57, u_99_60, u_99_62, u_99_65, u_99_66, u_99_67, u_99_68, u_99_71, u_99_74, u_99_75, u_99_76, u_99_79, u_99_81, u_99_84, u_99_85, u_99_86, u_99_87, u_99_90, u_99_93, u_99_94, u_99_97, u_99_98, u_99_100, u_99_102, u_99_105, u_99_106, u_99_109, u_99_111, u_99_112, u_99_113, u_99_114, u_99_115, u_99_118, u_99_124, u_99_127, f_gf_some, f_gv_some, f_pf_some, f_ia_some, f_la_some, f_aa_some, f_is_some, f_ls_some, f_rc_some, f_at0, f_atS, f_st_0, f_st_1i, f_st_1r, f_st_1l, f_st_1n, f_st_S, f_s2_0, f_s2_1i, f_s2_1r, f_s2_1l, f_s2_1n, f_s2_S, true_and, and_true, List.set_cons_zero, List.set_cons_succ, List.length_cons, List.length_nil, Nat.reduceAdd, Nat.reduceEqDiff, reduceIte, Nat.left_eq_add, Nat.add_eq_left, Nat.reduceLT, hM.1, MO, hM.a0, hM.a1, hM.a2, hM.a3, hM.a4, hM.a5, hM.a6, hM.a7, hM.a8, hM.a9, hM.a10, hM.a11, hM.a12, hM.a13, hM.a14, hM.a15, hM.a16, hM.a17, hM.a18, hM.a19, hM.a20, hM.a21, hM.b0, hM.b1, hM.b2, hM.b3, hv, hcl, o1, i1]
      have hnz : ¬ nI l = 0 := fun q => by have := nI_z (by omega) q; omega
      refine am_br_f (by decide) (ih (i + 1) _ _ 1 _ (by omega) (hR.s19 hi (upd (A 19) i (nI l))) (fun q hq => (s_ne hi (by omega)).trans (FR q hq)) (fun c hc => ?_) ?_ (Or.inr ⟨rfl, ?_⟩))
      · by_cases e : c = i
        · subst e
          exact ⟨fun _ => Or.inl ⟨l, by omega, hpi.hit hl (by omega) p1 p2, pk_us⟩, fun q => absurd (Nat.lt_succ_self c) q⟩
        · exact ⟨fun q => ((hp c hc).1 (by omega)).ne (pk_un e), fun q => ((hp c hc).2 (by omega)).ne (pk_un e)⟩
      · rw [cnt_up (by omega) p1 hnz]; omega
      · rw [cnt_up (by omega) p1 hnz]; omega
    refine am_br_f (nI_ge (by omega) (by omega)) ⟨fun c => skip (hpi.up1 c) (fun q => ?_), fun c => ?_⟩
    · rcases hpi with ⟨e, a, b, _⟩ | ⟨a, -⟩
      · have := b.uniq q; omega
      · exact c a
    · have c0 := Decidable.not_not.mp c
      have hstep := PM.step (m := m) hl (by omega) hto hpi c0 (fun c' hc' => by
        by_cases q : c' < i
        · exact Or.inr ((hp c' hc').1 q)
        · exact Or.inl ((hp c' hc').2 q))
      refine ⟨(by first | decide | exact ⟨Nat.le_of_ble_eq_true rfl, Nat.le_of_ble_eq_true rfl, Nat.le_of_ble_eq_true rfl⟩), r_at16 ?_⟩
      (show am_W G (am_M G (d + 1)) 99 K _ _ _ _ _ _; simp only [u_99_0, u_99_1, u_99_2, u_99_3, u_99_4, u_99_7, u_99_10, u_99_11, u_99_14, u_99_15, u_99_16, u_99_17, u_99_20, u_99_23, u_99_24, u_99_25, u_99_26, u_99_27, u_99_28, u_99_31, u_99_32, u_99_33, u_99_34, u_99_38, u_99_39, u_99_42, u_99_45, u_99_46, u_99_49, u_99_51, u_99_52, u_99_55, u_99_56, u_99_57, u_99_60, u_99_62, u_99_65, u_99_66, u_99_67, u_99_68, u_99_71, u_99_74, u_99_75, u_99_76, u_99_79, u_99_81, u_99_84, u_99_85, u_99_86, u_99_87, u_99_90, u_99_93, u_99_94, u_99_97, u_99_100, u_99_102, u_99_105, u_99_106, u_99_109, u_99_111, u_99_112, u_99_113, u_99_114, u_99_115, u_99_118, u_99_124, u_99_127, f_gf_some, f_gv_some, f_pf_some, f_ia_some, f_la_some, f_aa_some, f_is_some, f_ls_some, f_rc_some, f_at0, f_atS, f_st_0, f_st_1i, f_st_1r, f_st_1l, f_st_1n, f_st_S, f_s2_0, f_s2_1i, f_s2_1r, f_s2_1l, f_s2_1n, f_s2_S, true_and, and_true, List.set_cons_zero, List.set_cons_succ, List.length_cons, List.length_nil, Nat.reduceAdd, Nat.reduceEqDiff, reduceIte, Nat.left_eq_add, Nat.add_eq_left, Nat.reduceLT, hM.1, MO, hM.a0, hM.a1, hM.a2, hM.a3, hM.a4, hM.a5, hM.a6, hM.a7, hM.a8, hM.a9, hM.a10, hM.a11, hM.a12, hM.a13, hM.a14, hM.a15, hM.a16, hM.a17, hM.a18, hM.a19, hM.a20, hM.a21, hM.b0, hM.b1, hM.b2, hM.b3, n2400, hv2, hcl2, e1, mz_7, sz_7, mz_8, sz_8, mz_9, sz_9, mz_10, sz_10, mz_11, sz_11, mz_12, sz_12, mz_13, sz_13, mz_14, sz_14, mz_15, sz_15, mz_16, sz_16, mz_17, sz_17, mz_18, sz_18, mz_19, sz_19, mz_20, sz_20, mz_21, sz_21, mz_22, sz_22, mz_23, sz_23, mz_24, sz_24, mz_25, sz_25, mz_26, sz_26, mz_27, sz_27, mz_28, sz_28, mz_29, sz_29, mz_30, sz_30, mz_31, sz_31, mz_32, sz_32, mz_33, sz_33, mz_34, sz_34, mz_35, sz_35, mz_36, sz_36, mz_39, sz_39, mz_40, sz_40, mz_43, sz_43, mz_44, sz_44, mz_45, sz_45, mz_63, sz_63, mz_69, sz_69, mz_70, sz_70, mz_71, sz_71, mz_74, sz_74, mz_77, sz_77, mz_78, sz_78, mz_79, sz_79, mz_83, sz_83, mz_84, sz_84, mz_85, sz_85, mz_86, sz_86, mz_87, sz_87, mz_88, sz_88, mz_89, sz_89, mz_90, sz_90, mz_91, sz_91, mz_92, sz_92, mz_93, sz_93, mz_94, sz_94, mz_95, sz_95, mz_96, sz_96, mz_97, sz_97, mz_98, sz_98, mz_99, sz_99, mz_100, sz_100, mz_101, sz_101, mz_102, sz_102, mz_103, sz_103, mz_104, sz_104, mz_105, sz_105, mz_106, sz_106, mz_107, sz_107, mz_108, sz_108, mz_109, sz_109, mz_110, sz_110, mz_111, sz_111, mz_112, sz_112, mz_113, sz_113, mz_114, sz_114, mz_115, sz_115, mz_116, sz_116, mz_117, sz_117, mz_118, sz_118, mz_119, sz_119, mz_120, sz_120, mz_121, sz_121, mz_122, sz_122, mz_123, sz_123, mz_124, sz_124, mz_125, sz_125, mz_126, sz_126, mz_127, sz_127, mz_128, sz_128, Nat.add_zero, Option.toList, List.cons_append, List.nil_append])
      refine ⟨(by first | decide | exact ⟨Nat.le_of_ble_eq_true rfl, Nat.le_of_ble_eq_true rfl, Nat.le_of_ble_eq_true rfl⟩), r_leads hn w1 hl (by omega) (by omega) hM (fun c1 => ?_) (fun c1 => ?_)⟩
      · (show am_W G (am_M G (d + 1)) 99 K _ _ _ _ _ _; simp only [u_99_0, u_99_1, u_99_2, u_99_3, u_99_4, u_99_7, u_99_10, u_99_11, u_99_14, u_99_15, u_99_16, u_99_17, u_99_20, u_99_23, u_99_24, u_99_25, u_99_26, u_99_27, u_99_28, u_99_31, u_99_32, u_99_33, u_99_34, u_99_38, u_99_39, u_99_42, u_99_45, u_99_46, u_99_49, u_99_51, u_99_52, u_99_55, u_99_56, u_99_57, u_99_60, u_99_62, u_99_65, u_99_66, u_99_67, u_99_68, u_99_71, u_99_74, u_99_75, u_99_76, u_99_79, u_99_81, u_99_84, u_99_85, u_99_86, u_99_87, u_99_90, u_99_93, u_99_94, u_99_97, u_99_100, u_99_102, u_99_105, u_99_106, u_99_109, u_99_111, u_99_112, u_99_113, u_99_114, u_99_115, u_99_118, u_99_124, u_99_127, f_gf_some, f_gv_some, f_pf_some, f_ia_some, f_la_some, f_aa_some, f_is_some, f_ls_some, f_rc_some, f_at0, f_atS, f_st_0, f_st_1i, f_st_1r, f_st_1l, f_st_1n, f_st_S, f_s2_0, f_s2_1i, f_s2_1r, f_s2_1l, f_s2_1n, f_s2_S, true_and, and_true, List.set_cons_zero, List.set_cons_succ, List.length_cons, List.length_nil, Nat.reduceAdd, Nat.reduceEqDiff, reduceIte, Nat.left_eq_add, Nat.add_eq_left, Nat.reduceLT, mz_7, sz_7, mz_8, sz_8, mz_9, sz_9, mz_10, sz_10, mz_11, sz_11, mz_12, sz_12, mz_13, sz_13, mz_14, sz_14, mz_15, sz_15, mz_16, sz_16, mz_17, sz_17, mz_18, sz_18, mz_19, sz_19, mz_20, sz_20, mz_21, sz_21, mz_22, sz_22, mz_23, sz_23, mz_24, sz_24, mz_25, sz_25, mz_26, sz_26, mz_27, sz_27, mz_28, sz_28, mz_29, sz_29, mz_30, sz_30, mz_31, sz_31, mz_32, sz_32, mz_33, sz_33, mz_34, sz_34, mz_35, sz_35, mz_36, sz_36, mz_39, sz_39, mz_40, sz_40, mz_43, sz_43, mz_44, sz_44, mz_45, sz_45, mz_63, sz_63, mz_69, sz_69, mz_70, sz_70, mz_71, sz_71, mz_74, sz_74, mz_77, sz_77, mz_78, sz_78, mz_79, sz_79, mz_83, sz_83, mz_84, sz_84, mz_85, sz_85, mz_86, sz_86, mz_87, sz_87, mz_88, sz_88, mz_89, sz_89, mz_90, sz_90, mz_91, sz_91, mz_92, sz_92, mz_93, sz_93, mz_94, sz_94, mz_95, sz_95, mz_96, sz_96, mz_97, sz_97, mz_98, sz_98, mz_99, sz_99, mz_100, sz_100, mz_101, sz_101, mz_102, sz_102, mz_103, sz_103, mz_104, sz_104, mz_105, sz_105, mz_106, sz_106, mz_107, sz_107, mz_108, sz_108, mz_109, sz_109, mz_110, sz_110, mz_111, sz_111, mz_112, sz_112, mz_113, sz_113, mz_114, sz_114, mz_115, sz_115, mz_116, sz_116, mz_117, sz_117, mz_118, sz_118, mz_119, sz_119, mz_120, sz_120, mz_121, sz_121, mz_122, sz_122, mz_123, sz_123, mz_124, sz_124, mz_125, sz_125, mz_126, sz_126, mz_127, sz_127, mz_128, sz_128, Nat.add_zero, Option.toList, List.cons_append, List.nil_append])
        exact am_br_t (by decide) (hit c0 (hstep.mp (Or.inl c1)))
      · (show am_W G (am_M G (d + 1)) 99 K _ _ _ _ _ _; simp only [u_99_0, u_99_1, u_99_2, u_99_3, u_99_4, u_99_7, u_99_10, u_99_11, u_99_14, u_99_15, u_99_16, u_99_17, u_99_20, u_99_23, u_99_24, u_99_25, u_99_26, u_99_27, u_99_28, u_99_31, u_99_32, u_99_33, u_99_34, u_99_38, u_99_39, u_99_42, u_99_45, u_99_46, u_99_49, u_99_51, u_99_52, u_99_55, u_99_56, u_99_57, u_99_60, u_99_62, u_99_65, u_99_66, u_99_67, u_99_68, u_99_71, u_99_74, u_99_75, u_99_76, u_99_79, u_99_81, u_99_84, u_99_85, u_99_86, u_99_87, u_99_90, u_99_93, u_99_94, u_99_97, u_99_100, u_99_102, u_99_105, u_99_106, u_99_109, u_99_111, u_99_112, u_99_113, u_99_114, u_99_115, u_99_118, u_99_124, u_99_127, f_gf_some, f_gv_some, f_pf_some, f_ia_some, f_la_some, f_aa_some, f_is_some, f_ls_some, f_rc_some, f_at0, f_atS, f_st_0, f_st_1i, f_st_1r, f_st_1l, f_st_1n, f_st_S, f_s2_0, f_s2_1i, f_s2_1r, f_s2_1l, f_s2_1n, f_s2_S, true_and, and_true, List.set_cons_zero, List.set_cons_succ, List.length_cons, List.length_nil, Nat.reduceAdd, Nat.reduceEqDiff, reduceIte, Nat.left_eq_add, Nat.add_eq_left, Nat.reduceLT, hM.1, MO, hM.a0, hM.a1, hM.a2, hM.a3, hM.a4, hM.a5, hM.a6, hM.a7, hM.a8, hM.a9, hM.a10, hM.a11, hM.a12, hM.a13, hM.a14, hM.a15, hM.a16, hM.a17, hM.a18, hM.a19, hM.a20, hM.a21, hM.b0, hM.b1, hM.b2, hM.b3, mz_7, sz_7, mz_8, sz_8, mz_9, sz_9, mz_10, sz_10, mz_11, sz_11, mz_12, sz_12, mz_13, sz_13, mz_14, sz_14, mz_15, sz_15, mz_16, sz_16, mz_17, sz_17, mz_18, sz_18, mz_19, sz_19, mz_20, sz_20, mz_21, sz_21, mz_22, sz_22, mz_23, sz_23, mz_24, sz_24, mz_25, sz_25, mz_26, sz_26, mz_27, sz_27, mz_28, sz_28, mz_29, sz_29, mz_30, sz_30, mz_31, sz_31, mz_32, sz_32, mz_33, sz_33, mz_34, sz_34, mz_35, sz_35, mz_36, sz_36, mz_39, sz_39, mz_40, sz_40, mz_43, sz_43, mz_44, sz_44, mz_45, sz_45, mz_63, sz_63, mz_69, sz_69, mz_70, sz_70, mz_71, sz_71, mz_74, sz_74, mz_77, sz_77, mz_78, sz_78, mz_79, sz_79, mz_83, sz_83, mz_84, sz_84, mz_85, sz_85, mz_86, sz_86, mz_87, sz_87, mz_88, sz_88, mz_89, sz_89, mz_90, sz_90, mz_91, sz_91, mz_92, sz_92, mz_93, sz_93, mz_94, sz_94, mz_95, sz_95, mz_96, sz_96, mz_97, sz_97, mz_98, sz_98, mz_99, sz_99, mz_100, sz_100, mz_101, sz_101, mz_102, sz_102, mz_103, sz_103, mz_104, sz_104, mz_105, sz_105, mz_106, sz_106, mz_107, sz_107, mz_108, sz_108, mz_109, sz_109, mz_110, sz_110, mz_111, sz_111, mz_112, sz_112, mz_113, sz_113, mz_114, sz_114, mz_115, sz_115, mz_116, sz_116, mz_117, sz_117, mz_118, sz_118, mz_119, sz_119, mz_120, sz_120, mz_121, sz_121, mz_122, sz_122, mz_123, sz_123, mz_124, sz_124, mz_125, sz_125, mz_126, sz_126, mz_127, sz_127, mz_128, sz_128, Nat.add_zero, Option.toList, List.cons_append, List.nil_append])
        refine am_br_f (by decide) ⟨(by first | decide | exact ⟨Nat.le_of_ble_eq_true rfl, Nat.le_of_ble_eq_true rfl, Nat.le_of_ble_eq_true rfl⟩), r_at16 ?_⟩
        (show am_W G (am_M G (d + 1)) 99 K _ _ _ _ _ _; simp only [u_99_0, u_99_1, u_99_2, u_99_3, u_99_4, u_99_7, u_99_10, u_99_11, u_99_14, u_99_15, u_99_16, u_99_17, u_99_20, u_99_23, u_99_24, u_99_25, u_99_26, u_99_27, u_99_28, u_99_31, u_99_32, u_99_33, u_99_34, u_99_38, u_99_39, u_99_42, u_99_45, u_99_46, u_99_49, u_99_51, u_99_52, u_99_55, u_99_56, u_99_57, u_99_60, u_99_62, u_99_65, u_99_66, u_99_67, u_99_68, u_99_71, u_99_74, u_99_75, u_99_76, u_99_79, u_99_81, u_99_84, u_99_85, u_99_86, u_99_87, u_99_90, u_99_93, u_99_94, u_99_97, u_99_100, u_99_102, u_99_105, u_99_106, u_99_109, u_99_111, u_99_112, u_99_113, u_99_114, u_99_115, u_99_118, u_99_124, u_99_127, f_gf_some, f_gv_some, f_pf_some, f_ia_some, f_la_some, f_aa_some, f_is_some, f_ls_some, f_rc_some, f_at0, f_atS, f_st_0, f_st_1i, f_st_1r, f_st_1l, f_st_1n, f_st_S, f_s2_0, f_s2_1i, f_s2_1r, f_s2_1l, f_s2_1n, f_s2_S, true_and, and_true, List.set_cons_zero, List.set_cons_succ, List.length_cons, List.length_nil, Nat.reduceAdd, Nat.reduceEqDiff, reduceIte, Nat.left_eq_add, Nat.add_eq_left, Nat.reduceLT, hM.1, MO, hM.a0, hM.a1, hM.a2, hM.a3, hM.a4, hM.a5, hM.a6, hM.a7, hM.a8, hM.a9, hM.a10, hM.a11, hM.a12, hM.a13, hM.a14, hM.a15, hM.a16, hM.a17, hM.a18, hM.a19, hM.a20, hM.a21, hM.b0, hM.b1, hM.b2, hM.b3, n2400, hv2, hcl2, e2, mz_7, sz_7, mz_8, sz_8, mz_9, sz_9, mz_10, sz_10, mz_11, sz_11, mz_12, sz_12, mz_13, sz_13, mz_14, sz_14, mz_15, sz_15, mz_16, sz_16, mz_17, sz_17, mz_18, sz_18, mz_19, sz_19, mz_20, sz_20, mz_21, sz_21, mz_22, sz_22, mz_23, sz_23, mz_24, sz_24, mz_25, sz_25, mz_26, sz_26, mz_27, sz_27, mz_28, sz_28, mz_29, sz_29, mz_30, sz_30, mz_31, sz_31, mz_32, sz_32, mz_33, sz_33, mz_34, sz_34, mz_35, sz_35, mz_36, sz_36, mz_39, sz_39, mz_40, sz_40, mz_43, sz_43, mz_44, sz_44, mz_45, sz_45, mz_63, sz_63, mz_69, sz_69, mz_70, sz_70, mz_71, sz_71, mz_74, sz_74, mz_77, sz_77, mz_78, sz_78, mz_79, sz_79, mz_83, sz_83, mz_84, sz_84, mz_85, sz_85, mz_86, sz_86, mz_87, sz_87, mz_88, sz_88, mz_89, sz_89, mz_90, sz_90, mz_91, sz_91, mz_92, sz_92, mz_93, sz_93, mz_94, sz_94, mz_95, sz_95, mz_96, sz_96, mz_97, sz_97, mz_98, sz_98, mz_99, sz_99, mz_100, sz_100, mz_101, sz_101, mz_102, sz_102, mz_103, sz_103, mz_104, sz_104, mz_105, sz_105, mz_106, sz_106, mz_107, sz_107, mz_108, sz_108, mz_109, sz_109, mz_110, sz_110, mz_111, sz_111, mz_112, sz_112, mz_113, sz_113, mz_114, sz_114, mz_115, sz_115, mz_116, sz_116, mz_117, sz_117, mz_118, sz_118, mz_119, sz_119, mz_120, sz_120, mz_121, sz_121, mz_122, sz_122, mz_123, sz_123, mz_124, sz_124, mz_125, sz_125, mz_126, sz_126, mz_127, sz_127, mz_128, sz_128, Nat.add_zero, Option.toList, List.cons_append, List.nil_append])
        refine ⟨(by first | decide | exact ⟨Nat.le_of_ble_eq_true rfl, Nat.le_of_ble_eq_true rfl, Nat.le_of_ble_eq_true rfl⟩), r_leads hn w2 hl (by omega) (by omega) hM (fun c2 => ?_) (fun c2 => ?_)⟩
        · (show am_W G (am_M G (d + 1)) 99 K _ _ _ _ _ _; simp only [u_99_0, u_99_1, u_99_2, u_99_3, u_99_4, u_99_7, u_99_10, u_99_11, u_99_14, u_99_15, u_99_16, u_99_17, u_99_20, u_99_23, u_99_24, u_99_25, u_99_26, u_99_27, u_99_28, u_99_31, u_99_32, u_99_33, u_99_34, u_99_38, u_99_39, u_99_42, u_99_45, u_99_46, u_99_49, u_99_51, u_99_52, u_99_55, u_99_56, u_99_57, u_99_60, u_99_62, u_99_65, u_99_66, u_99_67, u_99_68, u_99_71, u_99_74, u_99_75, u_99_76, u_99_79, u_99_81, u_99_84, u_99_85, u_99_86, u_99_87, u_99_90, u_99_93, u_99_94, u_99_97, u_99_100, u_99_102, u_99_105, u_99_106, u_99_109, u_99_111, u_99_112, u_99_113, u_99_114, u_99_115, u_99_118, u_99_124, u_99_127, f_gf_some, f_gv_some, f_pf_some, f_ia_some, f_la_some, f_aa_some, f_is_some, f_ls_some, f_rc_some, f_at0, f_atS, f_st_0, f_st_1i, f_st_1r, f_st_1l, f_st_1n, f_st_S, f_s2_0, f_s2_1i, f_s2_1r, f_s2_1l, f_s2_1n, f_s2_S, true_and, and_true, List.set_cons_zero, List.set_cons_succ, List.length_cons, List.length_nil, Nat.reduceAdd, Nat.reduceEqDiff, reduceIte, Nat.left_eq_add, Nat.add_eq_left, Nat.reduceLT, mz_7, sz_7, mz_8, sz_8, mz_9, sz_9, mz_10, sz_10, mz_11, sz_11, mz_12, sz_12, mz_13, sz_13, mz_14, sz_14, mz_15, sz_15, mz_16, sz_16, mz_17, sz_17, mz_18, sz_18, mz_19, sz_19, mz_20, sz_20, mz_21, sz_21, mz_22, sz_22, mz_23, sz_23, mz_24, sz_24, mz_25, sz_25, mz_26, sz_26, mz_27, sz_27, mz_28, sz_28, mz_29, sz_29, mz_30, sz_30, mz_31, sz_31, mz_32, sz_32, mz_33, sz_33, mz_34, sz_34, mz_35, sz_35, mz_36, sz_36, mz_39, sz_39, mz_40, sz_40, mz_43, sz_43, mz_44, sz_44, mz_45, sz_45, mz_63, sz_63, mz_69, sz_69, mz_70, sz_70, mz_71, sz_71, mz_74, sz_74, mz_77, sz_77, mz_78, sz_78, mz_79, sz_79, mz_83, sz_83, mz_84, sz_84, mz_85, sz_85, mz_86, sz_86, mz_87, sz_87, mz_88, sz_88, mz_89, sz_89, mz_90, sz_90, mz_91, sz_91, mz_92, sz_92, mz_93, sz_93, mz_94, sz_94, mz_95, sz_95, mz_96, sz_96, mz_97, sz_97, mz_98, sz_98, mz_99, sz_99, mz_100, sz_100, mz_101, sz_101, mz_102, sz_102, mz_103, sz_103, mz_104, sz_104, mz_105, sz_105, mz_106, sz_106, mz_107, sz_107, mz_108, sz_108, mz_109, sz_109, mz_110, sz_110, mz_111, sz_111, mz_112, sz_112, mz_113, sz_113, mz_114, sz_114, mz_115, sz_115, mz_116, sz_116, mz_117, sz_117, mz_118, sz_118, mz_119, sz_119, mz_120, sz_120, mz_121, sz_121, mz_122, sz_122, mz_123, sz_123, mz_124, sz_124, mz_125, sz_125, mz_126, sz_126, mz_127, sz_127, mz_128, sz_128, Nat.add_zero, Option.toList, List.cons_append, List.nil_append])
          exact am_br_f (by decide) (hit c0 (hstep.mp (Or.inr c2)))
        · (show am_W G (am_M G (d + 1)) 99 K _ _ _ _ _ _; simp only [u_99_0, u_99_1, u_99_2, u_99_3, u_99_4, u_99_7, u_99_10, u_99_11, u_99_14, u_99_15, u_99_16, u_99_17, u_99_20, u_99_23, u_99_24, u_99_25, u_99_26, u_99_27, u_99_28, u_99_31, u_99_32, u_99_33, u_99_34, u_99_38, u_99_39, u_99_42, u_99_45, u_99_46, u_99_49, u_99_51, u_99_52, u_99_55, u_99_56, u_99_57, u_99_60, u_99_62, u_99_65, u_99_66, u_99_67, u_99_68, u_99_71, u_99_74, u_99_75, u_99_76, u_99_79, u_99_81, u_99_84, u_99_85, u_99_86, u_99_87, u_99_90, u_99_93, u_99_94, u_99_97, u_99_100, u_99_102, u_99_105, u_99_106, u_99_109, u_99_111, u_99_112, u_99_113, u_99_114, u_99_115, u_99_118, u_99_124, u_99_127, f_gf_some, f_gv_some, f_pf_some, f_ia_some, f_la_some, f_aa_some, f_is_some, f_ls_some, f_rc_some, f_at0, f_atS, f_st_0, f_st_1i, f_st_1r, f_st_1l, f_st_1n, f_st_S, f_s2_0, f_s2_1i, f_s2_1r, f_s2_1l, f_s2_1n, f_s2_S, true_and, and_true, List.set_cons_zero, List.set_cons_succ, List.length_cons, List.length_nil, Nat.reduceAdd, Nat.reduceEqDiff, reduceIte, Nat.left_eq_add, Nat.add_eq_left, Nat.reduceLT, mz_7, sz_7, mz_8, sz_8, mz_9, sz_9, mz_10, sz_10, mz_11, sz_11, mz_12, sz_12, mz_13, sz_13, mz_14, sz_14, mz_15, sz_15, mz_16, sz_16, mz_17, sz_17, mz_18, sz_18, mz_19, sz_19, mz_20, sz_20, mz_21, sz_21, mz_22, sz_22, mz_23, sz_23, mz_24, sz_24, mz_25, sz_25, mz_26, sz_26, mz_27, sz_27, mz_28, sz_28, mz_29, sz_29, mz_30, sz_30, mz_31, sz_31, mz_32, sz_32, mz_33, sz_33, mz_34, sz_34, mz_35, sz_35, mz_36, sz_36, mz_39, sz_39, mz_40, sz_40, mz_43, sz_43, mz_44, sz_44, mz_45, sz_45, mz_63, sz_63, mz_69, sz_69, mz_70, sz_70, mz_71, sz_71, mz_74, sz_74, mz_77, sz_77, mz_78, sz_78, mz_79, sz_79, mz_83, sz_83, mz_84, sz_84, mz_85, sz_85, mz_86, sz_86, mz_87, sz_87, mz_88, sz_88, mz_89, sz_89, mz_90, sz_90, mz_91, sz_91, mz_92, sz_92, mz_93, sz_93, mz_94, sz_94, mz_95, sz_95, mz_96, sz_96, mz_97, sz_97, mz_98, sz_98, mz_99, sz_99, mz_100, sz_100, mz_101, sz_101, mz_102, sz_102, mz_103, sz_103, mz_104, sz_104, mz_105, sz_105, mz_106, sz_106, mz_107, sz_107, mz_108, sz_108, mz_109, sz_109, mz_110, sz_110, mz_111, sz_111, mz_112, sz_112, mz_113, sz_113, mz_114, sz_114, mz_115, sz_115, mz_116, sz_116, mz_117, sz_117, mz_118, sz_118, mz_119, sz_119, mz_120, sz_120, mz_121, sz_121, mz_122, sz_122, mz_123, sz_123, mz_124, sz_124, mz_125, sz_125, mz_126, sz_126, mz_127, sz_127, mz_128, sz_128, Nat.add_zero, Option.toList, List.cons_append, List.nil_append])
          have hnw : ¬ wk z.1 n l i to := fun q => (hstep.mpr q).elim c1 c2
          exact am_br_t (by decide) (skip (hpi.miss (by omega) c0 hnw) (fun q => hnw q.2.1))
theorem l_levs (hi : am_inj ad) {to : Nat} (hn : n ≤ 150) (hto : to < n) (hw : wfg n m z.1) (hk : ∀ h' sp', RS ad h' t n m z H th pc C wc wl wa cm sp' us rg → fr322 ad h h' → (∀ c, c < n → MS z.1 n to sp' c) → K (.inl none) h') :
    ∀ r l h' sp' f o4 o5, l + r = 153 → 1 ≤ l → RS ad h' t n m z H th pc C wc wl wa cm sp' us rg → fr322 ad h h' → (∀ c, c < n → PM z.1 n to l sp' c) → ((f = 0 ∧ 2 ≤ l ∧ l ≤ n + 2 ∧ ∀ c, c < n → ¬ LD z.1 n (l - 1) c to) ∨ (f = 1 ∧ l ≤ cnt (fun y => decide (¬ sp' y = 0)) n + 1)) → am_W G (am_M G (d + 1)) 99 K 27 [some (.ref (ad 322)), some (.int (nI to)), some (.int f), some (.int (nI l)), o4, o5] [] h' 0 0 := by
  intro r
  induction r with
  | zero =>
    intro l h' sp' f o4 o5 hr hl hR FR hp hf
    have := cnt_le (fun y => decide (¬ sp' y = 0)) n
    rcases hf with q | q <;> omega
  | succ r ih =>
    intro l h' sp' f o4 o5 hr hl hR FR hp hf
    have hcn := cnt_le (fun y => decide (¬ sp' y = 0)) n
    rw [u_99_27]
    simp only [u_99_0, u_99_1, u_99_2, u_99_3, u_99_4, u_99_7, u_99_10, u_99_11, u_99_14, u_99_15, u_99_16, u_99_17, u_99_20, u_99_23, u_99_24, u_99_25, u_99_26, u_99_27, u_99_28, u_99_31, u_99_32, u_99_33, u_99_34, u_99_38, u_99_39, u_99_42, u_99_45, u_99_46, u_99_49, u_99_51, u_99_52, u_99_55, u_99_56, u_99_57, u_99_60, u_99_62, u_99_65, u_99_66, u_99_67, u_99_68, u_99_71, u_99_74, u_99_75, u_99_76, u_99_79, u_99_81, u_99_84, u_99_85, u_99_86, u_99_87, u_99_90, u_99_93, u_99_94, u_99_97, u_99_98, u_99_100, u_99_102, u_99_105, u_99_106, u_99_109, u_99_111, u_99_112, u_99_113, u_99_114, u_99_115, u_99_118, u_99_121, u_99_124, u_99_127, f_gf_some, f_gv_some, f_pf_some, f_ia_some, f_la_some, f_aa_some, f_is_some, f_ls_some, f_rc_some, f_at0, f_atS, f_st_0, f_st_1i, f_st_1r, f_st_1l, f_st_1n, f_st_S, f_s2_0, f_s2_1i, f_s2_1r, f_s2_1l, f_s2_1n, f_s2_S, true_and, and_true, List.set_cons_zero, List.set_cons_succ, List.length_cons, List.length_nil, Nat.reduceAdd, Nat.reduceEqDiff, reduceIte, Nat.left_eq_add, Nat.add_eq_left, Nat.reduceLT]
    rcases hf with ⟨rfl, a, a', b⟩ | ⟨rfl, b⟩
    · refine am_br_t (by decide) (hk h' sp' hR FR (fun c hc => ?_))
      exact PM.fin (l := l - 1) (by omega) (by omega) hc (by rw [show l - 1 + 1 = l by omega]; exact hp c hc) b
    · refine am_br_f (by decide) (l_lev hi (h := h) (k0 := cnt (fun y => decide (¬ sp' y = 0)) n) hn hto hl (by omega) hw (fun h2 sp2 f2 o52 R2 FR2 p2 f2' => ?_) n 0 h' sp' 0 o5 (by omega) hR FR (fun c hc => ⟨fun q => absurd q (Nat.not_lt_zero c), fun _ => hp c hc⟩) (Nat.le_refl _) (Or.inl ⟨rfl, fun c hc => absurd hc (Nat.not_lt_zero c)⟩))
      simp only [u_99_0, u_99_1, u_99_2, u_99_3, u_99_4, u_99_7, u_99_10, u_99_11, u_99_14, u_99_15, u_99_16, u_99_17, u_99_20, u_99_23, u_99_24, u_99_25, u_99_26, u_99_28, u_99_31, u_99_32, u_99_33, u_99_34, u_99_36, u_99_38, u_99_39, u_99_42, u_99_45, u_99_46, u_99_49, u_99_51, u_99_52, u_99_55, u_99_56, u_99_57, u_99_60, u_99_62, u_99_65, u_99_66, u_99_67, u_99_68, u_99_71, u_99_74, u_99_75, u_99_76, u_99_79, u_99_81, u_99_84, u_99_85, u_99_86, u_99_87, u_99_90, u_99_93, u_99_94, u_99_97, u_99_98, u_99_100, u_99_102, u_99_105, u_99_106, u_99_109, u_99_111, u_99_112, u_99_113, u_99_114, u_99_115, u_99_118, u_99_121, u_99_124, u_99_127, f_gf_some, f_gv_some, f_pf_some, f_ia_some, f_la_some, f_aa_some, f_is_some, f_ls_some, f_rc_some, f_at0, f_atS, f_st_0, f_st_1i, f_st_1r, f_st_1l, f_st_1n, f_st_S, f_s2_0, f_s2_1i, f_s2_1r, f_s2_1l, f_s2_1n, f_s2_S, true_and, and_true, List.set_cons_zero, List.set_cons_succ, List.length_cons, List.length_nil, Nat.reduceAdd, Nat.reduceEqDiff, reduceIte, Nat.left_eq_add, Nat.add_eq_left, Nat.reduceLT, o1, i1]
      refine ih (l + 1) h2 sp2 f2 _ _ (by omega) (by omega) R2 FR2 p2 ?_
      rcases f2' with ⟨x, y⟩ | ⟨x, y⟩
      · exact Or.inl ⟨x, by omega, by omega, by rw [Nat.add_sub_cancel]; exact y⟩
      · exact Or.inr ⟨x, by omega⟩
theorem r_measure (hi : am_inj ad) {to : Nat} (hn : n ≤ 150) (hto : to < n) (hw : wfg n m z.1) (hR : RS ad h t n m z H th pc C wc wl wa cm sp us rg) (hk : ∀ h' sp', RS ad h' t n m z H th pc C wc wl wa cm sp' us rg → fr322 ad h h' → (∀ c, c < n → MS z.1 n to sp' c) → K (.inl none) h') : am_M G (d + 2) 99 [.ref (ad 322), .int (nI to)] h K := by
  refine n_99 (d := d + 1) ?_
  simp only [u_99_0, u_99_1, u_99_3, u_99_4, u_99_7, u_99_10, u_99_11, u_99_14, u_99_15, u_99_16, u_99_17, u_99_20, u_99_23, u_99_24, u_99_25, u_99_26, u_99_27, u_99_28, u_99_31, u_99_32, u_99_33, u_99_34, u_99_36, u_99_38, u_99_39, u_99_42, u_99_45, u_99_46, u_99_49, u_99_51, u_99_52, u_99_55, u_99_56, u_99_57, u_99_60, u_99_62, u_99_65, u_99_66, u_99_67, u_99_68, u_99_71, u_99_74, u_99_75, u_99_76, u_99_79, u_99_81, u_99_84, u_99_85, u_99_86, u_99_87, u_99_90, u_99_93, u_99_94, u_99_97, u_99_98, u_99_100, u_99_102, u_99_105, u_99_106, u_99_109, u_99_111, u_99_112, u_99_113, u_99_114, u_99_115, u_99_118, u_99_121, u_99_124, u_99_127, f_gf_some, f_gv_some, f_pf_some, f_ia_some, f_la_some, f_aa_some, f_is_some, f_ls_some, f_rc_some, f_at0, f_atS, f_st_0, f_st_1i, f_st_1r, f_st_1l, f_st_1n, f_st_S, f_s2_0, f_s2_1i, f_s2_1r, f_s2_1l, f_s2_1n, f_s2_S, true_and, and_true, List.set_cons_zero, List.set_cons_succ, List.length_cons, List.length_nil, Nat.reduceAdd, Nat.reduceEqDiff, reduceIte, Nat.left_eq_add, Nat.add_eq_left, Nat.reduceLT]
  refine l_zero hi (h := h) hn (fun h1 sp1 R1 FR1 z1 => ?_) n 0 h sp (by omega) hR (fun _ _ => rfl) (fun c hc => absurd hc (Nat.not_lt_zero c))
  simp only [u_99_0, u_99_1, u_99_2, u_99_3, u_99_4, u_99_7, u_99_10, u_99_11, u_99_14, u_99_15, u_99_16, u_99_17, u_99_20, u_99_23, u_99_24, u_99_25, u_99_26, u_99_28, u_99_31, u_99_32, u_99_33, u_99_34, u_99_36, u_99_38, u_99_39, u_99_42, u_99_45, u_99_46, u_99_49, u_99_51, u_99_52, u_99_55, u_99_56, u_99_57, u_99_60, u_99_62, u_99_65, u_99_66, u_99_67, u_99_68, u_99_71, u_99_74, u_99_75, u_99_76, u_99_79, u_99_81, u_99_84, u_99_85, u_99_86, u_99_87, u_99_90, u_99_93, u_99_94, u_99_97, u_99_98, u_99_100, u_99_102, u_99_105, u_99_106, u_99_109, u_99_111, u_99_112, u_99_113, u_99_114, u_99_115, u_99_118, u_99_121, u_99_124, u_99_127, f_gf_some, f_gv_some, f_pf_some, f_ia_some, f_la_some, f_aa_some, f_is_some, f_ls_some, f_rc_some, f_at0, f_atS, f_st_0, f_st_1i, f_st_1r, f_st_1l, f_st_1n, f_st_S, f_s2_0, f_s2_1i, f_s2_1r, f_s2_1l, f_s2_1n, f_s2_S, true_and, and_true, List.set_cons_zero, List.set_cons_succ, List.length_cons, List.length_nil, Nat.reduceAdd, Nat.reduceEqDiff, reduceIte, Nat.left_eq_add, Nat.add_eq_left, Nat.reduceLT]
  exact l_levs hi hn hto hw hk 152 1 h1 sp1 1 _ _ (by omega) (by omega) R1 FR1 (fun c hc => Or.inr ⟨z1 c hc, fun e a b => absurd b (by omega)⟩) (Or.inr ⟨rfl, by omega⟩)
theorem r_inCircle (hi : am_inj ad) {c : Nat} (hn : n ≤ 150) (hc : c < n) (hw : wfg n m z.1) (hR : RS ad h t n m z H th pc C wc wl wa cm sp us rg) (hy : circ z.1 n c → ∀ h' sp', RS ad h' t n m z H th pc C wc wl wa cm sp' us rg → fr322 ad h h' → K (.inl (some (.int 1))) h') (hno : ¬ circ z.1 n c → ∀ h' sp', RS ad h' t n m z H th pc C wc wl wa cm sp' us rg → fr322 ad h h' → K (.inl (some (.int 0))) h') : am_M G (d + 3) 98 [.ref (ad 322), .int (nI c)] h K := by
  refine n_98 (d := d + 2) ?_
  have hcl : (nI c).toNatClampNeg = c := nI_clamp (by omega)
  have hv : vp_in (nI c) 150 := vp_in_nI (by omega) (by decide)
  obtain ⟨A, B, hM, q⟩ := id hR
  simp only [u_98_0, u_98_1, u_98_2, u_98_5, u_98_6, u_98_9, u_98_10, u_98_11, u_98_14, u_98_15, u_98_18, u_98_19, f_gf_some, f_gv_some, f_pf_some, f_ia_some, f_la_some, f_aa_some, f_is_some, f_ls_some, f_rc_some, f_at0, f_atS, f_st_0, f_st_1i, f_st_1r, f_st_1l, f_st_1n, f_st_S, f_s2_0, f_s2_1i, f_s2_1r, f_s2_1l, f_s2_1n, f_s2_S, true_and, and_true, List.set_cons_zero, List.set_cons_succ, List.length_cons, List.length_nil, Nat.reduceAdd, Nat.reduceEqDiff, reduceIte, Nat.left_eq_add, Nat.add_eq_left, Nat.reduceLT, hM.1, MO]
  refine ⟨(by first | decide | exact ⟨Nat.le_of_ble_eq_true rfl, Nat.le_of_ble_eq_true rfl, Nat.le_of_ble_eq_true rfl⟩), r_measure hi hn hc hw hR (fun h1 sp1 R1 FR1 ms => ?_)⟩
  obtain ⟨A1, B1, M1, p1, p2, p3, p4, p5, x1, x2, x3, x4⟩ := id R1
  (show am_W G (am_M G (d + 2)) 98 K _ _ _ _ _ _; simp only [u_98_0, u_98_1, u_98_2, u_98_5, u_98_6, u_98_9, u_98_10, u_98_11, u_98_14, u_98_15, u_98_18, u_98_19, f_gf_some, f_gv_some, f_pf_some, f_ia_some, f_la_some, f_aa_some, f_is_some, f_ls_some, f_rc_some, f_at0, f_atS, f_st_0, f_st_1i, f_st_1r, f_st_1l, f_st_1n, f_st_S, f_s2_0, f_s2_1i, f_s2_1r, f_s2_1l, f_s2_1n, f_s2_S, true_and, and_true, List.set_cons_zero, List.set_cons_succ, List.length_cons, List.length_nil, Nat.reduceAdd, Nat.reduceEqDiff, reduceIte, Nat.left_eq_add, Nat.add_eq_left, Nat.reduceLT, M1.1, MO, M1.a0, M1.a1, M1.a2, M1.a3, M1.a4, M1.a5, M1.a6, M1.a7, M1.a8, M1.a9, M1.a10, M1.a11, M1.a12, M1.a13, M1.a14, M1.a15, M1.a16, M1.a17, M1.a18, M1.a19, M1.a20, M1.a21, M1.b0, M1.b1, M1.b2, M1.b3, hv, hcl, x2, nz_0, nz_1, mz_7, sz_7, mz_8, sz_8, mz_9, sz_9, mz_10, sz_10, mz_11, sz_11, mz_12, sz_12, mz_13, sz_13, mz_14, sz_14, mz_15, sz_15, mz_16, sz_16, mz_17, sz_17, mz_18, sz_18, mz_19, sz_19, mz_20, sz_20, mz_21, sz_21, mz_22, sz_22, mz_23, sz_23, mz_24, sz_24, mz_25, sz_25, mz_26, sz_26, mz_27, sz_27, mz_28, sz_28, mz_29, sz_29, mz_30, sz_30, mz_31, sz_31, mz_32, sz_32, mz_33, sz_33, mz_34, sz_34, mz_35, sz_35, mz_36, sz_36, mz_39, sz_39, mz_40, sz_40, mz_43, sz_43, mz_44, sz_44, mz_45, sz_45, mz_63, sz_63, mz_69, sz_69, mz_70, sz_70, mz_71, sz_71, mz_74, sz_74, mz_77, sz_77, mz_78, sz_78, mz_79, sz_79, mz_83, sz_83, mz_84, sz_84, mz_85, sz_85, mz_86, sz_86, mz_87, sz_87, mz_88, sz_88, mz_89, sz_89, mz_90, sz_90, mz_91, sz_91, mz_92, sz_92, mz_93, sz_93, mz_94, sz_94, mz_95, sz_95, mz_96, sz_96, mz_97, sz_97, mz_98, sz_98, mz_99, sz_99, mz_100, sz_100, mz_101, sz_101, mz_102, sz_102, mz_103, sz_103, mz_104, sz_104, mz_105, sz_105, mz_106, sz_106, mz_107, sz_107, mz_108, sz_108, mz_109, sz_109, mz_110, sz_110, mz_111, sz_111, mz_112, sz_112, mz_113, sz_113, mz_114, sz_114, mz_115, sz_115, mz_116, sz_116, mz_117, sz_117, mz_118, sz_118, mz_119, sz_119, mz_120, sz_120, mz_121, sz_121, mz_122, sz_122, mz_123, sz_123, mz_124, sz_124, mz_125, sz_125, mz_126, sz_126, mz_127, sz_127, mz_128, sz_128, Nat.add_zero, Option.toList, List.cons_append, List.nil_append])
  rcases ms c hc with ⟨e, a, b, e2⟩ | ⟨a, b⟩
  · rw [e2]
    refine am_br_f (fun q => ?_) (hy ⟨hc, fun q => b.not q⟩ h1 sp1 R1 FR1)
    have h0 : (0 : Int32).toInt = 0 := rfl
    rw [Int32.le_iff_toInt_le, nI_toInt (by omega), h0] at q
    have := b.1
    omega
  · rw [a]
    exact am_br_t (Int32.le_refl _) (hno (fun q => q.2 b) h1 sp1 R1 FR1)
end Me

-- the class's Walk at place 280, its formulas at 1
def WA (ad : Nat → Nat) (h : am_H) (k : Nat) (rc st su : Nat → Int32) : Prop := h (ad 280) = some (.inr (6, [.ref (ad 1), .ref (ad 281), .int (nI k), .ref (ad 282), .ref (ad 283)])) ∧ h (ad 281) = some (.inl (.int, 150, .inl rc)) ∧ h (ad 282) = some (.inl (.int, 150, .inl st)) ∧ h (ad 283) = some (.inl (.boolean, 60, .inl su))
theorem WA.frame {ad : Nat → Nat} {h h' : am_H} {k : Nat} {rc st su : Nat → Int32} (hW : WA ad h k rc st su) (hk : ∀ p, 280 ≤ p → p < 284 → h' (ad p) = h (ad p)) : WA ad h' k rc st su :=
  ⟨(hk _ (by decide) (by decide)).trans hW.1, (hk _ (by decide) (by decide)).trans hW.2.1, (hk _ (by decide) (by decide)).trans hW.2.2.1, (hk _ (by decide) (by decide)).trans hW.2.2.2⟩
section Wa
variable {G : am_G} {d : Nat} {K : am_K} {ad : Nat → Nat} {n m : Nat} {T : FT}
set_option maxHeartbeats 1000000 in
theorem c_reach (hi : am_inj ad) {h : am_H} {k : Nat} {rc st su : Nat → Int32} (hW : WA ad h k rc st su) {x sp : Int32} (hx : ¬ x < 0 → vp_in x 150) (hkb : ¬ x < 0 → st x.toNatClampNeg = -1 → k < 150) (hno : (x < 0 ∨ ¬ st x.toNatClampNeg = -1) → K (.inl none) h)
    (hys : ¬ x < 0 → st x.toNatClampNeg = -1 → ∀ h', WA ad h' (k + 1) (upd rc k x) (upd st x.toNatClampNeg sp) su → (∀ p, (p < 280 ∨ 284 ≤ p) → h' (ad p) = h (ad p)) → K (.inl none) h') : am_M G (d + 1) 18 [.ref (ad 280), .int x, .int sp] h K := by
  refine n_18 ?_
  obtain ⟨h1, h2, h3, h4⟩ := hW
  rw [u_18_0, u_18_1]
  refine ⟨fun c => ?_, fun c => ?_⟩
  · simp only [u_18_0, u_18_1, u_18_4, u_18_5, u_18_8, u_18_9, u_18_10, u_18_11, u_18_14, u_18_15, u_18_18, u_18_19, u_18_20, u_18_21, u_18_22, u_18_25, u_18_26, u_18_29, u_18_30, u_18_31, u_18_32, u_18_33, u_18_36, u_18_37, u_18_38, u_18_41]; exact hno (Or.inl c)
  · have hv := hx c
    simp only [u_18_0, u_18_1, u_18_4, u_18_5, u_18_9, u_18_10, u_18_11, u_18_14, u_18_15, u_18_18, u_18_19, u_18_20, u_18_21, u_18_22, u_18_26, u_18_29, u_18_30, u_18_31, u_18_32, u_18_33, u_18_36, u_18_37, u_18_38, u_18_41, f_gf_some, f_gv_some, f_pf_some, f_ia_some, f_la_some, f_aa_some, f_is_some, f_ls_some, f_rc_some, f_at0, f_atS, f_st_0, f_st_1i, f_st_1r, f_st_1l, f_st_1n, f_st_S, f_s2_0, f_s2_1i, f_s2_1r, f_s2_1l, f_s2_1n, f_s2_S, true_and, and_true, List.set_cons_zero, List.set_cons_succ, List.length_cons, List.length_nil, Nat.reduceAdd, Nat.reduceEqDiff, reduceIte, Nat.left_eq_add, Nat.add_eq_left, Nat.reduceLT, h1, h3, hv, u_18_8]
    refine ⟨fun c2 => hno (Or.inr c2), fun c2 => ?_⟩
    have c2' := Decidable.not_not.mp c2
    have hk := hkb c c2'
    have hv2 : vp_in (nI k) 150 := vp_in_nI hk (by decide)
    have hcl : (nI k).toNatClampNeg = k := nI_clamp (by omega)
    simp (disch := omega) only [u_18_0, u_18_1, u_18_4, u_18_5, u_18_8, u_18_9, u_18_10, u_18_11, u_18_14, u_18_15, u_18_18, u_18_19, u_18_20, u_18_21, u_18_22, u_18_25, u_18_26, u_18_29, u_18_30, u_18_31, u_18_32, u_18_33, u_18_36, u_18_37, u_18_38, u_18_41, f_gf_some, f_gv_some, f_pf_some, f_ia_some, f_la_some, f_aa_some, f_is_some, f_ls_some, f_rc_some, f_at0, f_atS, f_st_0, f_st_1i, f_st_1r, f_st_1l, f_st_1n, f_st_S, f_s2_0, f_s2_1i, f_s2_1r, f_s2_1l, f_s2_1n, f_s2_S, true_and, and_true, List.set_cons_zero, List.set_cons_succ, List.length_cons, List.length_nil, Nat.reduceAdd, Nat.reduceEqDiff, reduceIte, Nat.left_eq_add, Nat.add_eq_left, Nat.reduceLT, h1, h2, h3, hv, hv2, hcl, s_ne hi, s_eq, i1]
    refine hys c c2' _ ⟨s_eq, ?_, ?_, ?_⟩ (fun p hp => ?_)
    · rw [s_ne hi (by decide)]; exact s_eq
    · rw [s_ne hi (by decide), s_ne hi (by decide)]; exact s_eq
    · rw [s_ne hi (by decide), s_ne hi (by decide), s_ne hi (by decide)]; exact h4
    · rw [s_ne hi (by omega), s_ne hi (by omega), s_ne hi (by omega)]
/-- one reach in the search -/
theorem c_reachB (hi : am_inj ad) {h : am_H} {s i k : Nat} {R D : Nat → Nat} {rc st su : Nat → Int32} (hn : n ≤ 150) (hW : WA ad h k rc st su) (hB : BI T n s i k R D rc st) (hik : i < k) {x : Int32} (hx : okx n m x) (he : ∀ y, x = nI y → ed T (R i) y)
    (hk : ∀ h' k' R' D' rc' st', WA ad h' k' rc' st' su → BI T n s i k' R' D' rc' st' → i < k' → R' i = R i → D' i = D i → rc' i = rc i → (∀ y, ¬ st y = -1 → ¬ st' y = -1) → (∀ y, y < n → x = nI y → ¬ st' y = -1) → (∀ p, (p < 280 ∨ 284 ≤ p) → h' (ad p) = h (ad p)) → K (.inl none) h') : am_M G (d + 1) 18 [.ref (ad 280), .int x, .int (nI (D i + 1))] h K := by
  have hx2 : ∀ y, x = nI y → y < n → x.toNatClampNeg = y := fun y e hy => by rw [e]; exact nI_clamp (by omega)
  rcases hx with ⟨q, -⟩ | ⟨y, hy, e⟩
  · refine c_reach hi hW (fun c => absurd q c) (fun c => absurd q c) (fun _ => ?_) (fun c => absurd q c)
    exact hk h k R D rc st hW hB hik rfl rfl rfl (fun _ z => z) (fun y hy e => by rw [e] at q; exact absurd q (nI_pos (by omega))) (fun _ _ => rfl)
  · have hcl := hx2 y e hy
    refine c_reach hi hW (fun c => ?_) (fun c c2 => ?_) (fun c => ?_) (fun c c2 h' W' FR => ?_)
    · rw [e]; exact vp_in_nI (by omega) (by decide)
    · rw [hcl] at c2; have := hB.lt hy c2; omega
    · rcases c with c | c
      · rw [e] at c; exact absurd c (nI_pos (by omega))
      · rw [hcl] at c
        exact hk h k R D rc st hW hB hik rfl rfl rfl (fun _ z => z) (fun y2 hy2 e2 => by rw [e] at e2; rw [← (nI_eq (by omega) (by omega)).mp e2]; exact c) (fun _ _ => rfl)
    · rw [hcl] at c2 W'
      have hB' := hB.add hn hik hy (he y e) c2
      rw [← e] at hB'
      have hDb := (hB.1 i hik).2.2.2.1
      have hkn := hB.le
      refine hk h' (k + 1) _ _ _ _ W' hB' (by omega) (va_up_ne _ _ (by omega)) (va_up_ne _ _ (by omega)) (pk_un (by omega)) (fun u hu => ?_) (fun y2 hy2 e2 => ?_) FR
      · by_cases q : u = y
        · subst q; rw [pk_us]; exact nI_m1 (by omega)
        · rw [pk_un q]; exact hu
      · rw [e] at e2
        rw [← (nI_eq (by omega) (by omega)).mp e2, pk_us]; exact nI_m1 (by omega)
theorem l_go1 (hi : am_inj ad) {h0 : am_H} {s : Int32} {rc su : Nat → Int32} (hn : n ≤ 150) (hF : FM ad h0 1 n T) {k : Nat}
    (hk : ∀ h st, WA ad h k rc st su → (∀ x, x < n → st x = -1) → (∀ p, (p < 280 ∨ 284 ≤ p) → h (ad p) = h0 (ad p)) → am_W G (am_M G (d + 1)) 17 K 26 [some (.ref (ad 280)), some (.int s), some (.int (nI n)), none] [] h 0 0) :
    ∀ (r i : Nat) (h : am_H) (st : Nat → Int32), i + r = n → WA ad h k rc st su → (∀ x, x < i → st x = -1) → (∀ p, (p < 280 ∨ 284 ≤ p) → h (ad p) = h0 (ad p)) → am_W G (am_M G (d + 1)) 17 K 2 [some (.ref (ad 280)), some (.int s), some (.int (nI i)), none] [] h 0 0 := by
  intro r
  induction r with
  | zero =>
    intro i h st hr hW hs FR
    have e : i = n := by omega
    subst e
    have hF' : FM ad h 1 i T := FO.frame hF (fun p a b => FR p (by omega))
    obtain ⟨h1, h2, h3, h4⟩ := id hW
    rw [u_17_2]
    simp only [u_17_0, u_17_1, u_17_3, u_17_4, u_17_7, u_17_10, u_17_13, u_17_14, u_17_17, u_17_18, u_17_19, u_17_20, u_17_23, u_17_27, u_17_28, u_17_31, u_17_32, u_17_33, u_17_34, u_17_37, u_17_38, u_17_39, u_17_40, u_17_41, u_17_44, u_17_47, u_17_48, u_17_51, u_17_54, u_17_55, u_17_58, u_17_59, u_17_60, u_17_61, u_17_62, u_17_63, u_17_66, u_17_69, u_17_70, u_17_71, u_17_72, u_17_75, u_17_76, u_17_77, u_17_78, u_17_79, u_17_82, u_17_83, u_17_84, u_17_87, u_17_90, u_17_91, u_17_92, u_17_93, u_17_96, u_17_97, u_17_98, u_17_99, u_17_100, u_17_103, u_17_106, u_17_109, f_gf_some, f_gv_some, f_pf_some, f_ia_some, f_la_some, f_aa_some, f_is_some, f_ls_some, f_rc_some, f_at0, f_atS, f_st_0, f_st_1i, f_st_1r, f_st_1l, f_st_1n, f_st_S, f_s2_0, f_s2_1i, f_s2_1r, f_s2_1l, f_s2_1n, f_s2_S, true_and, and_true, List.set_cons_zero, List.set_cons_succ, List.length_cons, List.length_nil, Nat.reduceAdd, Nat.reduceEqDiff, reduceIte, Nat.left_eq_add, Nat.add_eq_left, Nat.reduceLT, h1, hF'.1]
    exact am_br_t (Int32.le_refl _) (hk h st hW hs FR)
  | succ r ih =>
    intro i h st hr hW hs FR
    have hF' : FM ad h 1 n T := FO.frame hF (fun p a b => FR p (by omega))
    obtain ⟨h1, h2, h3, h4⟩ := id hW
    have hv : vp_in (nI i) 150 := vp_in_nI (by omega) (by decide)
    have hcl : (nI i).toNatClampNeg = i := nI_clamp (by omega)
    rw [u_17_2]
    simp only [u_17_0, u_17_1, u_17_3, u_17_4, u_17_7, u_17_10, u_17_13, u_17_14, u_17_17, u_17_18, u_17_19, u_17_20, u_17_23, u_17_27, u_17_28, u_17_31, u_17_32, u_17_33, u_17_34, u_17_37, u_17_38, u_17_39, u_17_40, u_17_41, u_17_44, u_17_47, u_17_48, u_17_51, u_17_54, u_17_55, u_17_58, u_17_59, u_17_60, u_17_61, u_17_62, u_17_63, u_17_66, u_17_69, u_17_70, u_17_71, u_17_72, u_17_75, u_17_76, u_17_77, u_17_78, u_17_79, u_17_82, u_17_83, u_17_84, u_17_87, u_17_90, u_17_91, u_17_92, u_17_93, u_17_96, u_17_97, u_17_98, u_17_99, u_17_100, u_17_103, u_17_106, u_17_109, f_gf_some, f_gv_some, f_pf_some, f_ia_some, f_la_some, f_aa_some, f_is_some, f_ls_some, f_rc_some, f_at0, f_atS, f_st_0, f_st_1i, f_st_1r, f_st_1l, f_st_1n, f_st_S, f_s2_0, f_s2_1i, f_s2_1r, f_s2_1l, f_s2_1n, f_s2_S, true_and, and_true, List.set_cons_zero, List.set_cons_succ, List.length_cons, List.length_nil, Nat.reduceAdd, Nat.reduceEqDiff, reduceIte, Nat.left_eq_add, Nat.add_eq_left, Nat.reduceLT, h1, hF'.1, h3, hv, hcl, o1, i1]
    refine am_br_f (nI_ge (by omega) (by omega)) (ih (i + 1) _ (upd st i (-1)) (by omega) ⟨?_, ?_, s_eq, ?_⟩ (fun x hx => ?_) (fun p hp => ?_))
    · rw [s_ne hi (by decide)]; exact h1
    · rw [s_ne hi (by decide)]; exact h2
    · rw [s_ne hi (by decide)]; exact h4
    · by_cases e : x = i
      · subst e; exact pk_us
      · rw [pk_un e]; exact hs x (by omega)
    · rw [s_ne hi (by omega)]; exact FR p hp
theorem l_go2 (hi : am_inj ad) {h0 : am_H} {s : Nat} {su : Nat → Int32} (hn : n ≤ 150) (hF : FM ad h0 1 n T) (hw : wfg n m T)
    (hk : ∀ h k R D rc st, WA ad h k rc st su → BI T n s k k R D rc st → (∀ p, (p < 280 ∨ 284 ≤ p) → h (ad p) = h0 (ad p)) → K (.inl none) h) :
    ∀ (r i : Nat) (h : am_H) (k : Nat) (R D : Nat → Nat) (rc st : Nat → Int32) (v : Option Value), i + r = n → i ≤ k → WA ad h k rc st su → BI T n s i k R D rc st → (∀ p, (p < 280 ∨ 284 ≤ p) → h (ad p) = h0 (ad p)) → am_W G (am_M G (d + 1)) 17 K 39 [some (.ref (ad 280)), some (.int (nI s)), some (.int (nI i)), v] [] h 0 0 := by
  intro r
  induction r with
  | zero =>
    intro i h k R D rc st v hr hik hW hB FR
    have := hB.le
    have e : i = k := by omega
    subst e
    obtain ⟨h1, h2, h3, h4⟩ := id hW
    simp only [u_17_0, u_17_1, u_17_2, u_17_3, u_17_4, u_17_7, u_17_10, u_17_13, u_17_14, u_17_17, u_17_18, u_17_19, u_17_20, u_17_23, u_17_26, u_17_27, u_17_28, u_17_31, u_17_32, u_17_33, u_17_34, u_17_37, u_17_38, u_17_39, u_17_40, u_17_41, u_17_44, u_17_47, u_17_48, u_17_51, u_17_54, u_17_55, u_17_58, u_17_59, u_17_60, u_17_61, u_17_62, u_17_63, u_17_66, u_17_69, u_17_70, u_17_71, u_17_72, u_17_75, u_17_76, u_17_77, u_17_78, u_17_79, u_17_82, u_17_83, u_17_84, u_17_87, u_17_90, u_17_91, u_17_92, u_17_93, u_17_96, u_17_97, u_17_98, u_17_99, u_17_100, u_17_103, u_17_106, u_17_109, f_gf_some, f_gv_some, f_pf_some, f_ia_some, f_la_some, f_aa_some, f_is_some, f_ls_some, f_rc_some, f_at0, f_atS, f_st_0, f_st_1i, f_st_1r, f_st_1l, f_st_1n, f_st_S, f_s2_0, f_s2_1i, f_s2_1r, f_s2_1l, f_s2_1n, f_s2_S, true_and, and_true, List.set_cons_zero, List.set_cons_succ, List.length_cons, List.length_nil, Nat.reduceAdd, Nat.reduceEqDiff, reduceIte, Nat.left_eq_add, Nat.add_eq_left, Nat.reduceLT, h1]
    exact am_br_t (Int32.le_refl _) (hk h i R D rc st hW hB FR)
  | succ r ih =>
    intro i h k R D rc st v hr hik hW hB FR
    obtain ⟨h1, h2, h3, h4⟩ := id hW
    by_cases c : i = k
    · subst c
      simp only [u_17_0, u_17_1, u_17_2, u_17_3, u_17_4, u_17_7, u_17_10, u_17_13, u_17_14, u_17_17, u_17_18, u_17_19, u_17_20, u_17_23, u_17_26, u_17_27, u_17_28, u_17_31, u_17_32, u_17_33, u_17_34, u_17_37, u_17_38, u_17_39, u_17_40, u_17_41, u_17_44, u_17_47, u_17_48, u_17_51, u_17_54, u_17_55, u_17_58, u_17_59, u_17_60, u_17_61, u_17_62, u_17_63, u_17_66, u_17_69, u_17_70, u_17_71, u_17_72, u_17_75, u_17_76, u_17_77, u_17_78, u_17_79, u_17_82, u_17_83, u_17_84, u_17_87, u_17_90, u_17_91, u_17_92, u_17_93, u_17_96, u_17_97, u_17_98, u_17_99, u_17_100, u_17_103, u_17_106, u_17_109, f_gf_some, f_gv_some, f_pf_some, f_ia_some, f_la_some, f_aa_some, f_is_some, f_ls_some, f_rc_some, f_at0, f_atS, f_st_0, f_st_1i, f_st_1r, f_st_1l, f_st_1n, f_st_S, f_s2_0, f_s2_1i, f_s2_1r, f_s2_1l, f_s2_1n, f_s2_S, true_and, and_true, List.set_cons_zero, List.set_cons_succ, List.length_cons, List.length_nil, Nat.reduceAdd, Nat.reduceEqDiff, reduceIte, Nat.left_eq_add, Nat.add_eq_left, Nat.reduceLT, h1]
      exact am_br_t (Int32.le_refl _) (hk h i R D rc st hW hB FR)
    have hik : i < k := by omega
    have hkn := hB.le
    have hF' : FM ad h 1 n T := FO.frame hF (fun p a b => FR p (by omega))
    have hv : vp_in (nI i) 150 := vp_in_nI (by omega) (by decide)
    have hcl : (nI i).toNatClampNeg = i := nI_clamp (by omega)
    obtain ⟨b1, b2, b3, b4, b5⟩ := hB.1 i hik
    have hv2 : vp_in (nI (R i)) 150 := vp_in_nI (by omega) (by decide)
    have hcl2 : (nI (R i)).toNatClampNeg = R i := nI_clamp (by omega)
    obtain ⟨w1, w2⟩ := hw (R i) b1
    rw [u_17_39]
    simp only [u_17_0, u_17_1, u_17_2, u_17_3, u_17_4, u_17_7, u_17_10, u_17_13, u_17_14, u_17_17, u_17_18, u_17_19, u_17_20, u_17_23, u_17_26, u_17_27, u_17_28, u_17_31, u_17_32, u_17_33, u_17_34, u_17_37, u_17_38, u_17_40, u_17_41, u_17_44, u_17_47, u_17_48, u_17_51, u_17_54, u_17_55, u_17_58, u_17_59, u_17_60, u_17_61, u_17_62, u_17_63, u_17_66, u_17_69, u_17_70, u_17_71, u_17_72, u_17_75, u_17_76, u_17_77, u_17_78, u_17_79, u_17_82, u_17_83, u_17_84, u_17_87, u_17_90, u_17_91, u_17_92, u_17_93, u_17_96, u_17_97, u_17_98, u_17_99, u_17_100, u_17_103, u_17_106, u_17_109, f_gf_some, f_gv_some, f_pf_some, f_ia_some, f_la_some, f_aa_some, f_is_some, f_ls_some, f_rc_some, f_at0, f_atS, f_st_0, f_st_1i, f_st_1r, f_st_1l, f_st_1n, f_st_S, f_s2_0, f_s2_1i, f_s2_1r, f_s2_1l, f_s2_1n, f_s2_S, true_and, and_true, List.set_cons_zero, List.set_cons_succ, List.length_cons, List.length_nil, Nat.reduceAdd, Nat.reduceEqDiff, reduceIte, Nat.left_eq_add, Nat.add_eq_left, Nat.reduceLT, h1, h2, h3, hF'.1, hF'.2.2.1, hv, hcl, hv2, hcl2, b2, b3, i1]
    refine am_br_f (nI_ge hik (by omega)) (am_br_f (nI_ge (a := i) (b := 150) (by omega) (by decide)) ⟨(by first | decide | exact ⟨Nat.le_of_ble_eq_true rfl, Nat.le_of_ble_eq_true rfl, Nat.le_of_ble_eq_true rfl⟩), c_reachB hi hn hW hB hik w1 (fun y e => Or.inl e) (fun q k1 R1 D1 rc1 st1 W1 B1 ik1 eR eD er sk1 sk2 FR1 => ?_)⟩)
    obtain ⟨g1, g2, g3, g4⟩ := id W1
    have hF1 : FM ad q 1 n T := FO.frame hF' (fun p a b => FR1 p (by omega))
    have b3' : st1 (R i) = nI (D i) := by rw [← eR, ← eD]; exact (B1.1 i ik1).2.2.1
    (show am_W G (am_M G (d + 1)) 17 K _ _ _ _ _ _; simp only [u_17_0, u_17_1, u_17_2, u_17_3, u_17_4, u_17_7, u_17_10, u_17_13, u_17_14, u_17_17, u_17_18, u_17_19, u_17_20, u_17_23, u_17_26, u_17_27, u_17_28, u_17_31, u_17_32, u_17_33, u_17_34, u_17_37, u_17_38, u_17_40, u_17_41, u_17_44, u_17_47, u_17_48, u_17_51, u_17_54, u_17_55, u_17_58, u_17_59, u_17_60, u_17_61, u_17_62, u_17_63, u_17_66, u_17_69, u_17_70, u_17_71, u_17_72, u_17_75, u_17_76, u_17_77, u_17_78, u_17_79, u_17_82, u_17_83, u_17_84, u_17_87, u_17_90, u_17_91, u_17_92, u_17_93, u_17_96, u_17_97, u_17_98, u_17_99, u_17_100, u_17_103, u_17_106, u_17_109, f_gf_some, f_gv_some, f_pf_some, f_ia_some, f_la_some, f_aa_some, f_is_some, f_ls_some, f_rc_some, f_at0, f_atS, f_st_0, f_st_1i, f_st_1r, f_st_1l, f_st_1n, f_st_S, f_s2_0, f_s2_1i, f_s2_1r, f_s2_1l, f_s2_1n, f_s2_S, true_and, and_true, List.set_cons_zero, List.set_cons_succ, List.length_cons, List.length_nil, Nat.reduceAdd, Nat.reduceEqDiff, reduceIte, Nat.left_eq_add, Nat.add_eq_left, Nat.reduceLT, g1, g2, g3, hF1.1, hF1.2.2.2, hv, hcl, hv2, hcl2, b3', i1, mz_7, sz_7, mz_8, sz_8, mz_9, sz_9, mz_10, sz_10, mz_11, sz_11, mz_12, sz_12, mz_13, sz_13, mz_14, sz_14, mz_15, sz_15, mz_16, sz_16, mz_17, sz_17, mz_18, sz_18, mz_19, sz_19, mz_20, sz_20, mz_21, sz_21, mz_22, sz_22, mz_23, sz_23, mz_24, sz_24, mz_25, sz_25, mz_26, sz_26, mz_27, sz_27, mz_28, sz_28, mz_29, sz_29, mz_30, sz_30, mz_31, sz_31, mz_32, sz_32, mz_33, sz_33, mz_34, sz_34, mz_35, sz_35, mz_36, sz_36, mz_39, sz_39, mz_40, sz_40, mz_43, sz_43, mz_44, sz_44, mz_45, sz_45, mz_63, sz_63, mz_69, sz_69, mz_70, sz_70, mz_71, sz_71, mz_74, sz_74, mz_77, sz_77, mz_78, sz_78, mz_79, sz_79, mz_83, sz_83, mz_84, sz_84, mz_85, sz_85, mz_86, sz_86, mz_87, sz_87, mz_88, sz_88, mz_89, sz_89, mz_90, sz_90, mz_91, sz_91, mz_92, sz_92, mz_93, sz_93, mz_94, sz_94, mz_95, sz_95, mz_96, sz_96, mz_97, sz_97, mz_98, sz_98, mz_99, sz_99, mz_100, sz_100, mz_101, sz_101, mz_102, sz_102, mz_103, sz_103, mz_104, sz_104, mz_105, sz_105, mz_106, sz_106, mz_107, sz_107, mz_108, sz_108, mz_109, sz_109, mz_110, sz_110, mz_111, sz_111, mz_112, sz_112, mz_113, sz_113, mz_114, sz_114, mz_115, sz_115, mz_116, sz_116, mz_117, sz_117, mz_118, sz_118, mz_119, sz_119, mz_120, sz_120, mz_121, sz_121, mz_122, sz_122, mz_123, sz_123, mz_124, sz_124, mz_125, sz_125, mz_126, sz_126, mz_127, sz_127, mz_128, sz_128, Nat.add_zero, Option.toList, List.cons_append, List.nil_append])
    rw [← eD]
    refine ⟨(by first | decide | exact ⟨Nat.le_of_ble_eq_true rfl, Nat.le_of_ble_eq_true rfl, Nat.le_of_ble_eq_true rfl⟩), c_reachB hi hn W1 B1 ik1 w2 (fun y e => by rw [eR]; exact Or.inr e) (fun q2 k2 R2 D2 rc2 st2 W2 B2 ik2 eR2 eD2 er2 sk3 sk4 FR2 => ?_)⟩
    (show am_W G (am_M G (d + 1)) 17 K _ _ _ _ _ _; simp only [u_17_0, u_17_1, u_17_2, u_17_3, u_17_4, u_17_7, u_17_10, u_17_13, u_17_14, u_17_17, u_17_18, u_17_19, u_17_20, u_17_23, u_17_26, u_17_27, u_17_28, u_17_31, u_17_32, u_17_33, u_17_34, u_17_37, u_17_38, u_17_40, u_17_41, u_17_44, u_17_47, u_17_48, u_17_51, u_17_54, u_17_55, u_17_58, u_17_59, u_17_60, u_17_61, u_17_62, u_17_63, u_17_66, u_17_69, u_17_70, u_17_71, u_17_72, u_17_75, u_17_76, u_17_77, u_17_78, u_17_79, u_17_82, u_17_83, u_17_84, u_17_87, u_17_90, u_17_91, u_17_92, u_17_93, u_17_96, u_17_97, u_17_98, u_17_99, u_17_100, u_17_103, u_17_106, u_17_109, f_gf_some, f_gv_some, f_pf_some, f_ia_some, f_la_some, f_aa_some, f_is_some, f_ls_some, f_rc_some, f_at0, f_atS, f_st_0, f_st_1i, f_st_1r, f_st_1l, f_st_1n, f_st_S, f_s2_0, f_s2_1i, f_s2_1r, f_s2_1l, f_s2_1n, f_s2_S, true_and, and_true, List.set_cons_zero, List.set_cons_succ, List.length_cons, List.length_nil, Nat.reduceAdd, Nat.reduceEqDiff, reduceIte, Nat.left_eq_add, Nat.add_eq_left, Nat.reduceLT, o1, i1, mz_7, sz_7, mz_8, sz_8, mz_9, sz_9, mz_10, sz_10, mz_11, sz_11, mz_12, sz_12, mz_13, sz_13, mz_14, sz_14, mz_15, sz_15, mz_16, sz_16, mz_17, sz_17, mz_18, sz_18, mz_19, sz_19, mz_20, sz_20, mz_21, sz_21, mz_22, sz_22, mz_23, sz_23, mz_24, sz_24, mz_25, sz_25, mz_26, sz_26, mz_27, sz_27, mz_28, sz_28, mz_29, sz_29, mz_30, sz_30, mz_31, sz_31, mz_32, sz_32, mz_33, sz_33, mz_34, sz_34, mz_35, sz_35, mz_36, sz_36, mz_39, sz_39, mz_40, sz_40, mz_43, sz_43, mz_44, sz_44, mz_45, sz_45, mz_63, sz_63, mz_69, sz_69, mz_70, sz_70, mz_71, sz_71, mz_74, sz_74, mz_77, sz_77, mz_78, sz_78, mz_79, sz_79, mz_83, sz_83, mz_84, sz_84, mz_85, sz_85, mz_86, sz_86, mz_87, sz_87, mz_88, sz_88, mz_89, sz_89, mz_90, sz_90, mz_91, sz_91, mz_92, sz_92, mz_93, sz_93, mz_94, sz_94, mz_95, sz_95, mz_96, sz_96, mz_97, sz_97, mz_98, sz_98, mz_99, sz_99, mz_100, sz_100, mz_101, sz_101, mz_102, sz_102, mz_103, sz_103, mz_104, sz_104, mz_105, sz_105, mz_106, sz_106, mz_107, sz_107, mz_108, sz_108, mz_109, sz_109, mz_110, sz_110, mz_111, sz_111, mz_112, sz_112, mz_113, sz_113, mz_114, sz_114, mz_115, sz_115, mz_116, sz_116, mz_117, sz_117, mz_118, sz_118, mz_119, sz_119, mz_120, sz_120, mz_121, sz_121, mz_122, sz_122, mz_123, sz_123, mz_124, sz_124, mz_125, sz_125, mz_126, sz_126, mz_127, sz_127, mz_128, sz_128, Nat.add_zero, Option.toList, List.cons_append, List.nil_append])
    refine ih (i + 1) q2 k2 R2 D2 rc2 st2 _ (by omega) (by omega) W2 (B2.next ik2 hw hn (fun y hy e => ?_) (fun y hy e => ?_)) (fun p hp => (FR2 p hp).trans ((FR1 p hp).trans (FR p hp)))
    · rw [eR2, eR] at e; exact sk3 y (sk2 y hy e)
    · rw [eR2, eR] at e; exact sk4 y hy e
theorem c_goFrom (hi : am_inj ad) {h : am_H} {s k : Nat} {rc st su : Nat → Int32} (hn : n ≤ 150) (hF : FM ad h 1 n T) (hw : wfg n m T) (hs : s < n) (hW : WA ad h k rc st su)
    (hk : ∀ h' k R D rc st, WA ad h' k rc st su → BI T n s k k R D rc st → (∀ p, (p < 280 ∨ 284 ≤ p) → h' (ad p) = h (ad p)) → K (.inl none) h') : am_M G (d + 2) 17 [.ref (ad 280), .int (nI s)] h K := by
  refine n_17 (d := d + 1) ?_
  simp only [u_17_0, u_17_1, u_17_3, u_17_4, u_17_7, u_17_10, u_17_13, u_17_14, u_17_17, u_17_18, u_17_19, u_17_20, u_17_23, u_17_26, u_17_27, u_17_28, u_17_31, u_17_32, u_17_33, u_17_34, u_17_37, u_17_38, u_17_39, u_17_40, u_17_41, u_17_44, u_17_47, u_17_48, u_17_51, u_17_54, u_17_55, u_17_58, u_17_59, u_17_60, u_17_61, u_17_62, u_17_63, u_17_66, u_17_69, u_17_70, u_17_71, u_17_72, u_17_75, u_17_76, u_17_77, u_17_78, u_17_79, u_17_82, u_17_83, u_17_84, u_17_87, u_17_90, u_17_91, u_17_92, u_17_93, u_17_96, u_17_97, u_17_98, u_17_99, u_17_100, u_17_103, u_17_106, u_17_109, f_gf_some, f_gv_some, f_pf_some, f_ia_some, f_la_some, f_aa_some, f_is_some, f_ls_some, f_rc_some, f_at0, f_atS, f_st_0, f_st_1i, f_st_1r, f_st_1l, f_st_1n, f_st_S, f_s2_0, f_s2_1i, f_s2_1r, f_s2_1l, f_s2_1n, f_s2_S, true_and, and_true, List.set_cons_zero, List.set_cons_succ, List.length_cons, List.length_nil, Nat.reduceAdd, Nat.reduceEqDiff, reduceIte, Nat.left_eq_add, Nat.add_eq_left, Nat.reduceLT]
  refine l_go1 hi hn hF (k := k) (rc := rc) (su := su) (fun q st1 W1 hs1 FR => ?_) n 0 h st (by omega) hW (fun x hx => absurd hx (Nat.not_lt_zero x)) (fun _ _ => rfl)
  obtain ⟨h1, h2, h3, h4⟩ := W1
  simp only [u_17_0, u_17_1, u_17_2, u_17_3, u_17_4, u_17_7, u_17_10, u_17_13, u_17_14, u_17_17, u_17_18, u_17_19, u_17_20, u_17_23, u_17_26, u_17_27, u_17_28, u_17_31, u_17_32, u_17_33, u_17_34, u_17_37, u_17_38, u_17_40, u_17_41, u_17_44, u_17_47, u_17_48, u_17_51, u_17_54, u_17_55, u_17_58, u_17_59, u_17_60, u_17_61, u_17_62, u_17_63, u_17_66, u_17_69, u_17_70, u_17_71, u_17_72, u_17_75, u_17_76, u_17_77, u_17_78, u_17_79, u_17_82, u_17_83, u_17_84, u_17_87, u_17_90, u_17_91, u_17_92, u_17_93, u_17_96, u_17_97, u_17_98, u_17_99, u_17_100, u_17_103, u_17_106, u_17_109, f_gf_some, f_gv_some, f_pf_some, f_ia_some, f_la_some, f_aa_some, f_is_some, f_ls_some, f_rc_some, f_at0, f_atS, f_st_0, f_st_1i, f_st_1r, f_st_1l, f_st_1n, f_st_S, f_s2_0, f_s2_1i, f_s2_1r, f_s2_1l, f_s2_1n, f_s2_S, true_and, and_true, List.set_cons_zero, List.set_cons_succ, List.length_cons, List.length_nil, Nat.reduceAdd, Nat.reduceEqDiff, reduceIte, Nat.left_eq_add, Nat.add_eq_left, Nat.reduceLT, h1, s_eq]
  have W2 : WA ad (am_set q (ad 280) (.inr (6, [.ref (ad 1), .ref (ad 281), .int 0, .ref (ad 282), .ref (ad 283)]))) 0 rc st1 su := ⟨s_eq, (s_ne hi (by decide)).trans h2, (s_ne hi (by decide)).trans h3, (s_ne hi (by decide)).trans h4⟩
  have hcl : (nI s).toNatClampNeg = s := nI_clamp (by omega)
  refine ⟨(by first | decide | exact ⟨Nat.le_of_ble_eq_true rfl, Nat.le_of_ble_eq_true rfl, Nat.le_of_ble_eq_true rfl⟩), c_reach hi W2 (fun _ => vp_in_nI (by omega) (by decide)) (fun _ _ => by decide) (fun c => ?_) (fun _ _ q3 W3 FR3 => ?_)⟩
  · rw [hcl] at c
    exact absurd (hs1 s hs) (c.elim (fun q => absurd q (nI_pos (by omega))) id)
  · rw [hcl] at W3
    (show am_W G (am_M G (d + 1)) 17 K _ _ _ _ _ _; simp only [u_17_0, u_17_1, u_17_2, u_17_3, u_17_4, u_17_7, u_17_10, u_17_13, u_17_14, u_17_17, u_17_18, u_17_19, u_17_20, u_17_23, u_17_26, u_17_27, u_17_28, u_17_31, u_17_32, u_17_33, u_17_34, u_17_37, u_17_38, u_17_40, u_17_41, u_17_44, u_17_47, u_17_48, u_17_51, u_17_54, u_17_55, u_17_58, u_17_59, u_17_60, u_17_61, u_17_62, u_17_63, u_17_66, u_17_69, u_17_70, u_17_71, u_17_72, u_17_75, u_17_76, u_17_77, u_17_78, u_17_79, u_17_82, u_17_83, u_17_84, u_17_87, u_17_90, u_17_91, u_17_92, u_17_93, u_17_96, u_17_97, u_17_98, u_17_99, u_17_100, u_17_103, u_17_106, u_17_109, f_gf_some, f_gv_some, f_pf_some, f_ia_some, f_la_some, f_aa_some, f_is_some, f_ls_some, f_rc_some, f_at0, f_atS, f_st_0, f_st_1i, f_st_1r, f_st_1l, f_st_1n, f_st_S, f_s2_0, f_s2_1i, f_s2_1r, f_s2_1l, f_s2_1n, f_s2_S, true_and, and_true, List.set_cons_zero, List.set_cons_succ, List.length_cons, List.length_nil, Nat.reduceAdd, Nat.reduceEqDiff, reduceIte, Nat.left_eq_add, Nat.add_eq_left, Nat.reduceLT, mz_7, sz_7, mz_8, sz_8, mz_9, sz_9, mz_10, sz_10, mz_11, sz_11, mz_12, sz_12, mz_13, sz_13, mz_14, sz_14, mz_15, sz_15, mz_16, sz_16, mz_17, sz_17, mz_18, sz_18, mz_19, sz_19, mz_20, sz_20, mz_21, sz_21, mz_22, sz_22, mz_23, sz_23, mz_24, sz_24, mz_25, sz_25, mz_26, sz_26, mz_27, sz_27, mz_28, sz_28, mz_29, sz_29, mz_30, sz_30, mz_31, sz_31, mz_32, sz_32, mz_33, sz_33, mz_34, sz_34, mz_35, sz_35, mz_36, sz_36, mz_39, sz_39, mz_40, sz_40, mz_43, sz_43, mz_44, sz_44, mz_45, sz_45, mz_63, sz_63, mz_69, sz_69, mz_70, sz_70, mz_71, sz_71, mz_74, sz_74, mz_77, sz_77, mz_78, sz_78, mz_79, sz_79, mz_83, sz_83, mz_84, sz_84, mz_85, sz_85, mz_86, sz_86, mz_87, sz_87, mz_88, sz_88, mz_89, sz_89, mz_90, sz_90, mz_91, sz_91, mz_92, sz_92, mz_93, sz_93, mz_94, sz_94, mz_95, sz_95, mz_96, sz_96, mz_97, sz_97, mz_98, sz_98, mz_99, sz_99, mz_100, sz_100, mz_101, sz_101, mz_102, sz_102, mz_103, sz_103, mz_104, sz_104, mz_105, sz_105, mz_106, sz_106, mz_107, sz_107, mz_108, sz_108, mz_109, sz_109, mz_110, sz_110, mz_111, sz_111, mz_112, sz_112, mz_113, sz_113, mz_114, sz_114, mz_115, sz_115, mz_116, sz_116, mz_117, sz_117, mz_118, sz_118, mz_119, sz_119, mz_120, sz_120, mz_121, sz_121, mz_122, sz_122, mz_123, sz_123, mz_124, sz_124, mz_125, sz_125, mz_126, sz_126, mz_127, sz_127, mz_128, sz_128, Nat.add_zero, Option.toList, List.cons_append, List.nil_append])
    refine l_go2 (h0 := h) hi hn hF hw hk n 0 q3 1 _ _ _ _ none (by omega) (by omega) W3 (BI.start hs hs1) (fun p hp => (FR3 p hp).trans ((s_ne hi (by omega)).trans (FR p hp)))
end Wa

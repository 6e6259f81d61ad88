-- the constructors of History and of the object
theorem mc_1 : pg_mc 1 = 3 := rfl
theorem ms_1 : pg_ms 1 = 450 := rfl
theorem mc_2 : pg_mc 2 = 11 := rfl
theorem ms_2 : pg_ms 2 = 1414 := rfl
theorem mc_6 : pg_mc 6 = 8 := rfl
theorem ms_6 : pg_ms 6 = 908 := rfl
theorem nf_5 : pg_nf 5 = 10 := rfl
theorem nf_2 : pg_nf 2 = 4 := rfl
theorem nf_1 : pg_nf 1 = 2 := rfl
theorem NS.fr {c c' : Nat → am_E} {s f t : Nat} (h : NS c s f t) (hs : c' s = c s) (hk : ∀ p, t ≤ p → p < t + 11 → c' p = c p) : NS c' s f t := by
  obtain ⟨h1, h2, h3, h4, h5, h6, h7, h8, h9⟩ := h
  exact ⟨hs.trans h1, (hk _ (by omega) (by omega)).trans h2, (hk _ (by omega) (by omega)).trans h3, (hk _ (by omega) (by omega)).trans h4, (hk _ (by omega) (by omega)).trans h5, h6.fr (fun p a b => hk p (by omega) (by omega)), (hk _ (by omega) (by omega)).trans h7, (hk _ (by omega) (by omega)).trans h8, (hk _ (by omega) (by omega)).trans h9⟩
theorem NC.fr {c c' : Nat → am_E} {q : Nat} (h : NC c q) (hk : ∀ p, q ≤ p → p < q + 9 → c' p = c p) : NC c' q :=
  ⟨(hk _ (by omega) (by omega)).trans h.1, h.2.1.fr (fun p a b => hk p (by omega) (by omega)), h.2.2.fr (fun p a b => hk p (by omega) (by omega))⟩
def eR (C : String) (N : Nat) (g : Nat → Option Nat) : am_E := .inl (.object C, N, .inr (.inr (.inr (.inr g))))
section Cu
variable {G : am_G} {d : Nat} {K : am_K} {ad : Nat → Nat} {h : am_H} {c : Nat → am_E}
/-- a reference into a row -/
theorem a_ast {kk k pc : Nat} {lv : am_L} {r : List Value} {nc ns : Nat} {len x y o b a0 q N j : Nat} {v : Int32} {fs : List Value} {g : Nat → Option Nat} (hc : pg_code k pc = some (.aastore, len, x, y)) (A : HP ad h kk c) (ho : o < kk) (hb : b < kk) (hco : c o = eR (pg_cname x) N g) (hcb : c b = .inr (x, fs)) (ea : ad o = a0) (eq : ad b = q) (hv : v.toNatClampNeg = j) (hi : vp_in v N)
    (hX : ∀ h', HP ad h' kk (va_up c o (eR (pg_cname x) N (va_up g j (some b)))) → am_W G (am_M G d) k K (pc + 1) lv r h' nc ns) : am_W G (am_M G d) k K pc lv (.ref q :: .int v :: .ref a0 :: r) h nc ns := by
  rw [am_u hc]
  subst hv
  have hh : h a0 = some (.inl (.object (pg_cname x), N, .inr (.inr (.inr (.inr (fun i => (g i).map ad)))))) := by rw [← ea, A.2.1 o ho, hco]; rfl
  have hq : h q = some (.inr (x, fs.map (rv ad))) := by rw [← eq, A.2.1 b hb, hcb]; rfl
  have hcl : clo kk (eR (pg_cname x) N g) := by rw [← hco]; exact A.2.2 o ho
  have hS := A.set (o := o) (e := eR (pg_cname x) N (va_up g v.toNatClampNeg (some b))) ho (fun i p hp => by
    by_cases c1 : i = v.toNatClampNeg
    · rw [c1, va_up_self] at hp; cases hp; exact hb
    · rw [va_up_ne _ _ c1] at hp; exact hcl i p hp)
  have e1 : ent ad (eR (pg_cname x) N (va_up g v.toNatClampNeg (some b))) = .inl (.object (pg_cname x), N, .inr (.inr (.inr (.inr (va_up (fun i => (g i).map ad) v.toNatClampNeg (some q)))))) := by
    have e2 : (fun i => (va_up g v.toNatClampNeg (some b) i).map ad) = va_up (fun i => (g i).map ad) v.toNatClampNeg (some q) := by
      funext i
      by_cases c1 : i = v.toNatClampNeg
      · subst c1; rw [va_up_self, va_up_self, ← eq]; rfl
      · rw [va_up_ne _ _ c1, va_up_ne _ _ c1]
    show (Sum.inl (_, N, .inr (.inr (.inr (.inr (fun i => (va_up g v.toNatClampNeg (some b) i).map ad))))) : am_E) = _
    rw [e2]
  rw [e1, ea] at hS
  show am_aa h a0 (fun C n f => am_ob h q x fun _ => (pg_cname x = C ∧ vp_in v n) ∧ am_W G (am_M G d) k K (pc + 1) lv r (am_set h a0 (.inl (.object C, n, .inr (.inr (.inr (.inr (va_up f v.toNatClampNeg (some q)))))))) nc ns)
  unfold am_aa
  rw [hh]
  show am_ob h q x _
  unfold am_ob
  rw [hq]
  exact ⟨rfl, ⟨rfl, hi⟩, hX _ hS⟩
def NH (c : Nat → am_E) (p i : Nat) : Prop := c p = .inr (3, [.ref (p + 1), .int 0, .int 0]) ∧ (∃ g, c (p + 1) = eR (pg_cname 5) 16 g ∧ ∀ j, j < i → g j = some (p + 2 + 16 * j)) ∧ ∀ j, j < i → NF c (p + 3 + 16 * j) ∧ NS c (p + 2 + 16 * j) (p + 3 + 16 * j) (p + 7 + 16 * j)
set_option maxHeartbeats 1000000 in
theorem l_newH {p a0 : Nat} {ad0 : Nat → Nat} {c0 : Nat → am_E}
    (hk : ∀ ad' h' c', HP ad' h' (p + 258) c' → (∀ q, q < p + 1 → ad' q = ad0 q) → (∀ q, q < p → c' q = c0 q) → NH c' p 16 → K (.inl none) h') :
    ∀ (r i : Nat) (ad : Nat → Nat) (h : am_H) (c : Nat → am_E) (nc ns : Nat), i + r = 16 → nc = 1 + 16 * i → ns = 16 + 1878 * i → HP ad h (p + 2 + 16 * i) c → ad p = a0 → (∀ q, q < p + 1 → ad q = ad0 q) → (∀ q, q < p → c q = c0 q) → NH c p i → am_W G (am_M G (d + 2)) 3 K 15 [some (.ref a0), some (.int (nI i))] [] h nc ns := by
  intro r
  induction r with
  | zero =>
    intro i ad h c nc ns hr hnc hns A ea t e N
    have e0 : i = 16 := by omega
    subst e0
    simp only [u_3_0, u_3_1, u_3_4, u_3_5, u_3_10, u_3_13, u_3_14, u_3_15, u_3_16, u_3_18, u_3_21, u_3_22, u_3_25, u_3_29, u_3_33, u_3_34, u_3_37, u_3_41, u_3_44, u_3_47, f_gf_some, f_gv_some, f_pf_some, f_ia_some, f_la_some, f_aa_some, f_is_some, f_ls_some, f_rc_some, f_at0, f_atS, f_st_0, f_st_1i, f_st_1r, f_st_1l, f_st_1n, f_st_S, f_s2_0, f_s2_1i, f_s2_1r, f_s2_1l, f_s2_1n, f_s2_S, true_and, and_true, List.set_cons_zero, List.set_cons_succ, List.length_cons, List.length_nil, Nat.reduceAdd, Nat.reduceEqDiff, reduceIte, Nat.left_eq_add, Nat.add_eq_left, Nat.reduceLT]
    exact am_br_t (by decide) (hk ad h c A t e N)
  | succ r ih =>
    intro i ad h c nc ns hr hnc hns A ea t e N
    obtain ⟨N1, ⟨g, N2, N3⟩, N4⟩ := N
    have hob : h a0 = some (.inr (3, [.ref (ad (p + 1)), .int 0, .int 0])) := by rw [← ea, A.2.1 p (by omega), N1]; rfl
    have hcl : (nI i).toNatClampNeg = i := nI_clamp (by omega)
    rw [u_3_15]
    simp only [u_3_0, u_3_1, u_3_4, u_3_5, u_3_10, u_3_13, u_3_14, u_3_16, u_3_18, u_3_21, u_3_22, u_3_25, u_3_29, u_3_33, u_3_34, u_3_37, u_3_41, u_3_44, u_3_47, f_gf_some, f_gv_some, f_pf_some, f_ia_some, f_la_some, f_aa_some, f_is_some, f_ls_some, f_rc_some, f_at0, f_atS, f_st_0, f_st_1i, f_st_1r, f_st_1l, f_st_1n, f_st_S, f_s2_0, f_s2_1i, f_s2_1r, f_s2_1l, f_s2_1n, f_s2_S, true_and, and_true, List.set_cons_zero, List.set_cons_succ, List.length_cons, List.length_nil, Nat.reduceAdd, Nat.reduceEqDiff, reduceIte, Nat.left_eq_add, Nat.add_eq_left, Nat.reduceLT, hob]
    refine am_br_f (nI_ge (b := 16) (by omega) (by decide)) ?_
    refine a_obj (fs := [.null, .null, .int 0, .null, .null, .null, .null, .null, .null, .null]) e_3_26 (by decide) rfl (by simp) A (by show nc + 1 ≤ 257; omega) (by show ns + 10 ≤ 30064; omega) (fun ad1 h1 A1 t1 => ?_)
    simp only [u_3_0, u_3_1, u_3_4, u_3_5, u_3_10, u_3_13, u_3_14, u_3_16, u_3_18, u_3_21, u_3_22, u_3_25, u_3_29, u_3_33, u_3_34, u_3_37, u_3_41, u_3_44, u_3_47, f_gf_some, f_gv_some, f_pf_some, f_ia_some, f_la_some, f_aa_some, f_is_some, f_ls_some, f_rc_some, f_at0, f_atS, f_st_0, f_st_1i, f_st_1r, f_st_1l, f_st_1n, f_st_S, f_s2_0, f_s2_1i, f_s2_1r, f_s2_1l, f_s2_1n, f_s2_S, true_and, and_true, List.set_cons_zero, List.set_cons_succ, List.length_cons, List.length_nil, Nat.reduceAdd, Nat.reduceEqDiff, reduceIte, Nat.left_eq_add, Nat.add_eq_left, Nat.reduceLT]
    refine a_obj (fs := [.null, .null, .null, .int 0]) e_3_30 (by decide) rfl (by simp) A1 (by show nc + 1 + 1 ≤ 257; omega) (by show ns + 10 + 4 ≤ 30064; omega) (fun ad2 h2 A2 t2 => ?_)
    have hob2 : h2 (ad2 (p + 2 + 16 * i + 1)) = some (.inr (2, [.null, .null, .null, .int 0])) := by rw [A2.2.1 _ (by omega), va_up_self]; rfl
    simp only [u_3_0, u_3_1, u_3_4, u_3_5, u_3_10, u_3_13, u_3_14, u_3_16, u_3_18, u_3_21, u_3_22, u_3_25, u_3_29, u_3_33, u_3_34, u_3_37, u_3_41, u_3_44, u_3_47, f_gf_some, f_gv_some, f_pf_some, f_ia_some, f_la_some, f_aa_some, f_is_some, f_ls_some, f_rc_some, f_at0, f_atS, f_st_0, f_st_1i, f_st_1r, f_st_1l, f_st_1n, f_st_S, f_s2_0, f_s2_1i, f_s2_1r, f_s2_1l, f_s2_1n, f_s2_S, true_and, and_true, List.set_cons_zero, List.set_cons_succ, List.length_cons, List.length_nil, Nat.reduceAdd, Nat.reduceEqDiff, reduceIte, Nat.left_eq_add, Nat.add_eq_left, Nat.reduceLT, hob2, nf_5, nf_2]
    refine ⟨⟨Nat.le_of_ble_eq_true rfl, by omega, by omega⟩, c_newF A2 (va_up_self _ _ _) rfl (fun ad3 h3 c3 A3 t3 e3 N3' => ?_)⟩
    have hs3 : c3 (p + 2 + 16 * i) = .inr (5, [.null, .null, .int 0, .null, .null, .null, .null, .null, .null, .null]) := by
      rw [e3 _ (by omega), va_up_ne _ _ (by omega), va_up_self]
    have es3 : ad3 (p + 2 + 16 * i) = ad1 (p + 2 + 16 * i) := (t3 _ (by omega)).trans (t2 _ (by omega))
    have ef3 : ad3 (p + 2 + 16 * i + 1) = ad2 (p + 2 + 16 * i + 1) := t3 _ (by omega)
    have hob3 : h3 (ad1 (p + 2 + 16 * i)) = some (.inr (5, [.null, .null, .int 0, .null, .null, .null, .null, .null, .null, .null])) := by rw [← es3, A3.2.1 _ (by omega), hs3]; rfl
    (show am_W G (am_M G (d + 2)) 3 K _ _ _ _ _ _; simp only [u_3_0, u_3_1, u_3_4, u_3_5, u_3_10, u_3_13, u_3_14, u_3_16, u_3_18, u_3_21, u_3_22, u_3_25, u_3_29, u_3_33, u_3_34, u_3_37, u_3_41, u_3_44, u_3_47, f_gf_some, f_gv_some, f_pf_some, f_ia_some, f_la_some, f_aa_some, f_is_some, f_ls_some, f_rc_some, f_at0, f_atS, f_st_0, f_st_1i, f_st_1r, f_st_1l, f_st_1n, f_st_S, f_s2_0, f_s2_1i, f_s2_1r, f_s2_1l, f_s2_1n, f_s2_S, true_and, and_true, List.set_cons_zero, List.set_cons_succ, List.length_cons, List.length_nil, Nat.reduceAdd, Nat.reduceEqDiff, reduceIte, Nat.left_eq_add, Nat.add_eq_left, Nat.reduceLT, hob3, mc_1, ms_1, Option.toList, List.cons_append, List.nil_append])
    refine ⟨⟨Nat.le_of_ble_eq_true rfl, by omega, by omega⟩, c_newS (s := p + 2 + 16 * i) (f := p + 2 + 16 * i + 1) A3 (by omega) (by omega) (by omega) hs3 es3 ef3 (fun ad4 h4 c4 A4 t4 e4 N4' => ?_)⟩
    have tt : ∀ q, q < p + 2 + 16 * i → ad4 q = ad q := fun q hq => (t4 q (by omega)).trans ((t3 q (by omega)).trans ((t2 q (by omega)).trans (t1 q hq)))
    have ec : ∀ q, q < p + 2 + 16 * i → c4 q = c q := fun q hq => by
      rw [e4 q (by omega) (by omega), e3 q (by omega), va_up_ne _ _ (by omega), va_up_ne _ _ (by omega)]
    (show am_W G (am_M G (d + 2)) 3 K _ _ _ _ _ _; simp only [u_3_0, u_3_1, u_3_4, u_3_5, u_3_10, u_3_13, u_3_14, u_3_16, u_3_18, u_3_21, u_3_22, u_3_25, u_3_29, u_3_33, u_3_34, u_3_37, u_3_41, u_3_44, u_3_47, f_gf_some, f_gv_some, f_pf_some, f_ia_some, f_la_some, f_aa_some, f_is_some, f_ls_some, f_rc_some, f_at0, f_atS, f_st_0, f_st_1i, f_st_1r, f_st_1l, f_st_1n, f_st_S, f_s2_0, f_s2_1i, f_s2_1r, f_s2_1l, f_s2_1n, f_s2_S, true_and, and_true, List.set_cons_zero, List.set_cons_succ, List.length_cons, List.length_nil, Nat.reduceAdd, Nat.reduceEqDiff, reduceIte, Nat.left_eq_add, Nat.add_eq_left, Nat.reduceLT, mc_2, ms_2, Option.toList, List.cons_append, List.nil_append])
    refine a_ast (o := p + 1) (b := p + 2 + 16 * i) (j := i) (N := 16) e_3_40 A4 (by omega) (by omega) ((ec _ (by omega)).trans N2) N4'.1 (tt _ (by omega)) ((t4 _ (by omega)).trans es3) hcl (vp_in_nI (by omega) (by decide)) (fun h5 A5 => ?_)
    simp only [u_3_0, u_3_1, u_3_4, u_3_5, u_3_10, u_3_13, u_3_14, u_3_16, u_3_18, u_3_21, u_3_22, u_3_25, u_3_29, u_3_33, u_3_34, u_3_37, u_3_41, u_3_44, u_3_47, f_gf_some, f_gv_some, f_pf_some, f_ia_some, f_la_some, f_aa_some, f_is_some, f_ls_some, f_rc_some, f_at0, f_atS, f_st_0, f_st_1i, f_st_1r, f_st_1l, f_st_1n, f_st_S, f_s2_0, f_s2_1i, f_s2_1r, f_s2_1l, f_s2_1n, f_s2_S, true_and, and_true, List.set_cons_zero, List.set_cons_succ, List.length_cons, List.length_nil, Nat.reduceAdd, Nat.reduceEqDiff, reduceIte, Nat.left_eq_add, Nat.add_eq_left, Nat.reduceLT, o1, i1]
    have ec5 : ∀ q, q < p + 2 + 16 * i → q ≠ p + 1 → va_up c4 (p + 1) (eR (pg_cname 5) 16 (va_up g i (some (p + 2 + 16 * i)))) q = c q := fun q a b => (va_up_ne _ _ b).trans (ec q a)
    have ec6 : ∀ q, p + 1 < q → va_up c4 (p + 1) (eR (pg_cname 5) 16 (va_up g i (some (p + 2 + 16 * i)))) q = c4 q := fun q b => va_up_ne _ _ (by omega)
    have e16 : p + 2 + 16 * i + 1 + 4 + 11 = p + 2 + 16 * (i + 1) := by omega
    rw [e16] at A5
    refine ih (i + 1) ad4 h5 _ _ _ (by omega) (by omega) (by omega) A5 ((tt p (by omega)).trans ea) (fun q hq => (tt q (by omega)).trans (t q hq)) (fun q hq => (ec5 q (by omega) (by omega)).trans (e q hq)) ⟨(ec5 p (by omega) (by omega)).trans N1, ⟨_, va_up_self _ _ _, fun j hj => ?_⟩, fun j hj => ?_⟩
    · by_cases q : j = i
      · subst q; exact va_up_self _ _ _
      · rw [va_up_ne _ _ q]; exact N3 j (by omega)
    · by_cases q : j = i
      · subst q
        have w1 : p + 3 + 16 * j = p + 2 + 16 * j + 1 := by omega
        have w2 : p + 7 + 16 * j = p + 2 + 16 * j + 1 + 4 := by omega
        rw [w1, w2]
        refine ⟨N3'.fr (fun q a b => (ec6 q (by omega)).trans (e4 q (by omega) (by omega))), N4'.fr (ec6 _ (by omega)) (fun q a b => ec6 q (by omega))⟩
      · obtain ⟨k1, k2⟩ := N4 j (by omega)
        exact ⟨k1.fr (fun q a b => ec5 q (by omega) (by omega)), k2.fr (ec5 _ (by omega) (by omega)) (fun q a b => ec5 q (by omega) (by omega))⟩
theorem c_newH {p a0 : Nat} (A : HP ad h (p + 1) c) (ho : c p = .inr (3, [.null, .int 0, .int 0])) (ea : ad p = a0)
    (hk : ∀ ad' h' c', HP ad' h' (p + 258) c' → (∀ q, q < p + 1 → ad' q = ad q) → (∀ q, q < p → c' q = c q) → NH c' p 16 → K (.inl none) h') : am_M G (d + 3) 3 [.ref a0] h K := by
  refine n_3 (d := d + 2) ?_
  have hw : am_words [] ≤ 8 := by decide
  simp only [u_3_0, u_3_1, u_3_4, u_3_5, u_3_10, u_3_13, u_3_14, u_3_16, u_3_18, u_3_21, u_3_22, u_3_25, u_3_29, u_3_33, u_3_34, u_3_37, u_3_41, u_3_44, u_3_47, f_gf_some, f_gv_some, f_pf_some, f_ia_some, f_la_some, f_aa_some, f_is_some, f_ls_some, f_rc_some, f_at0, f_atS, f_st_0, f_st_1i, f_st_1r, f_st_1l, f_st_1n, f_st_S, f_s2_0, f_s2_1i, f_s2_1r, f_s2_1l, f_s2_1n, f_s2_S, true_and, and_true, List.set_cons_zero, List.set_cons_succ, List.length_cons, List.length_nil, Nat.reduceAdd, Nat.reduceEqDiff, reduceIte, Nat.left_eq_add, Nat.add_eq_left, Nat.reduceLT, hw]
  refine a_row (N := 16) e_3_7 rfl (by decide) A (by decide) (by decide) (by decide) (fun ad1 h1 A1 t1 => ?_)
  have ea1 : ad1 p = a0 := (t1 p (by omega)).trans ea
  refine a_fld (o := p) (b := p + 1) e_3_10 A1 (by omega) (by omega) ((va_up_ne _ _ (by omega)).trans ho) ea1 rfl (by simp) ⟨rfl, rfl⟩ (fun h2 A2 => ?_)
  simp only [u_3_0, u_3_1, u_3_4, u_3_5, u_3_10, u_3_13, u_3_14, u_3_16, u_3_18, u_3_21, u_3_22, u_3_25, u_3_29, u_3_33, u_3_34, u_3_37, u_3_41, u_3_44, u_3_47, f_gf_some, f_gv_some, f_pf_some, f_ia_some, f_la_some, f_aa_some, f_is_some, f_ls_some, f_rc_some, f_at0, f_atS, f_st_0, f_st_1i, f_st_1r, f_st_1l, f_st_1n, f_st_S, f_s2_0, f_s2_1i, f_s2_1r, f_s2_1l, f_s2_1n, f_s2_S, true_and, and_true, List.set_cons_zero, List.set_cons_succ, List.length_cons, List.length_nil, Nat.reduceAdd, Nat.reduceEqDiff, reduceIte, Nat.left_eq_add, Nat.add_eq_left, Nat.reduceLT]
  refine l_newH (ad0 := ad) (c0 := c) hk 16 0 ad1 h2 _ _ _ (by omega) (by omega) (by omega) A2 ea1 t1 (fun q hq => ?_) ⟨va_up_self _ _ _, ⟨fun _ => none, ?_, fun j hj => by omega⟩, fun j hj => by omega⟩
  · rw [va_up_ne _ _ (by omega), va_up_ne _ _ (by omega)]
  · rw [va_up_ne _ _ (by omega)]; exact va_up_self _ _ _
end Cu

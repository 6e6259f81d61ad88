-- loops over a Sheet's cells
theorem mz_7 : pg_mc 7 = 0 := rfl
theorem sz_7 : pg_ms 7 = 0 := rfl
theorem mz_8 : pg_mc 8 = 0 := rfl
theorem sz_8 : pg_ms 8 = 0 := rfl
theorem mz_9 : pg_mc 9 = 0 := rfl
theorem sz_9 : pg_ms 9 = 0 := rfl
theorem mz_10 : pg_mc 10 = 0 := rfl
theorem sz_10 : pg_ms 10 = 0 := rfl
theorem mz_11 : pg_mc 11 = 0 := rfl
theorem sz_11 : pg_ms 11 = 0 := rfl
theorem mz_12 : pg_mc 12 = 0 := rfl
theorem sz_12 : pg_ms 12 = 0 := rfl
theorem mz_13 : pg_mc 13 = 0 := rfl
theorem sz_13 : pg_ms 13 = 0 := rfl
theorem mz_14 : pg_mc 14 = 0 := rfl
theorem sz_14 : pg_ms 14 = 0 := rfl
theorem mz_15 : pg_mc 15 = 0 := rfl
theorem sz_15 : pg_ms 15 = 0 := rfl
theorem mz_16 : pg_mc 16 = 0 := rfl
theorem sz_16 : pg_ms 16 = 0 := rfl
theorem mz_17 : pg_mc 17 = 0 := rfl
theorem sz_17 : pg_ms 17 = 0 := rfl
theorem mz_18 : pg_mc 18 = 0 := rfl
theorem sz_18 : pg_ms 18 = 0 := rfl
theorem mz_19 : pg_mc 19 = 0 := rfl
theorem sz_19 : pg_ms 19 = 0 := rfl
theorem mz_20 : pg_mc 20 = 0 := rfl
theorem sz_20 : pg_ms 20 = 0 := rfl
theorem mz_21 : pg_mc 21 = 0 := rfl
theorem sz_21 : pg_ms 21 = 0 := rfl
theorem mz_22 : pg_mc 22 = 0 := rfl
theorem sz_22 : pg_ms 22 = 0 := rfl
theorem mz_23 : pg_mc 23 = 0 := rfl
theorem sz_23 : pg_ms 23 = 0 := rfl
theorem mz_24 : pg_mc 24 = 0 := rfl
theorem sz_24 : pg_ms 24 = 0 := rfl
theorem mz_25 : pg_mc 25 = 0 := rfl
theorem sz_25 : pg_ms 25 = 0 := rfl
theorem mz_26 : pg_mc 26 = 0 := rfl
theorem sz_26 : pg_ms 26 = 0 := rfl
theorem mz_27 : pg_mc 27 = 0 := rfl
theorem sz_27 : pg_ms 27 = 0 := rfl
theorem mz_28 : pg_mc 28 = 0 := rfl
theorem sz_28 : pg_ms 28 = 0 := rfl
theorem mz_29 : pg_mc 29 = 0 := rfl
theorem sz_29 : pg_ms 29 = 0 := rfl
theorem mz_30 : pg_mc 30 = 0 := rfl
theorem sz_30 : pg_ms 30 = 0 := rfl
theorem mz_31 : pg_mc 31 = 0 := rfl
theorem sz_31 : pg_ms 31 = 0 := rfl
theorem mz_32 : pg_mc 32 = 0 := rfl
theorem sz_32 : pg_ms 32 = 0 := rfl
theorem mz_33 : pg_mc 33 = 0 := rfl
theorem sz_33 : pg_ms 33 = 0 := rfl
theorem mz_34 : pg_mc 34 = 0 := rfl
theorem sz_34 : pg_ms 34 = 0 := rfl
theorem mz_35 : pg_mc 35 = 0 := rfl
theorem sz_35 : pg_ms 35 = 0 := rfl
theorem mz_36 : pg_mc 36 = 0 := rfl
theorem sz_36 : pg_ms 36 = 0 := rfl
theorem mz_39 : pg_mc 39 = 0 := rfl
theorem sz_39 : pg_ms 39 = 0 := rfl
theorem mz_40 : pg_mc 40 = 0 := rfl
theorem sz_40 : pg_ms 40 = 0 := rfl
theorem mz_43 : pg_mc 43 = 0 := rfl
theorem sz_43 : pg_ms 43 = 0 := rfl
theorem mz_44 : pg_mc 44 = 0 := rfl
theorem sz_44 : pg_ms 44 = 0 := rfl
theorem mz_45 : pg_mc 45 = 0 := rfl
theorem sz_45 : pg_ms 45 = 0 := rfl
theorem mz_63 : pg_mc 63 = 0 := rfl
theorem sz_63 : pg_ms 63 = 0 := rfl
theorem mz_69 : pg_mc 69 = 0 := rfl
theorem sz_69 : pg_ms 69 = 0 := rfl
theorem mz_70 : pg_mc 70 = 0 := rfl
theorem sz_70 : pg_ms 70 = 0 := rfl
theorem mz_71 : pg_mc 71 = 0 := rfl
theorem sz_71 : pg_ms 71 = 0 := rfl
theorem mz_74 : pg_mc 74 = 0 := rfl
theorem sz_74 : pg_ms 74 = 0 := rfl
theorem mz_77 : pg_mc 77 = 0 := rfl
theorem sz_77 : pg_ms 77 = 0 := rfl
theorem mz_78 : pg_mc 78 = 0 := rfl
theorem sz_78 : pg_ms 78 = 0 := rfl
theorem mz_79 : pg_mc 79 = 0 := rfl
theorem sz_79 : pg_ms 79 = 0 := rfl
theorem mz_83 : pg_mc 83 = 0 := rfl
theorem sz_83 : pg_ms 83 = 0 := rfl
theorem mz_84 : pg_mc 84 = 0 := rfl
theorem sz_84 : pg_ms 84 = 0 := rfl
theorem mz_85 : pg_mc 85 = 0 := rfl
theorem sz_85 : pg_ms 85 = 0 := rfl
theorem mz_86 : pg_mc 86 = 0 := rfl
theorem sz_86 : pg_ms 86 = 0 := rfl
theorem mz_87 : pg_mc 87 = 0 := rfl
theorem sz_87 : pg_ms 87 = 0 := rfl
theorem mz_88 : pg_mc 88 = 0 := rfl
theorem sz_88 : pg_ms 88 = 0 := rfl
theorem mz_89 : pg_mc 89 = 0 := rfl
theorem sz_89 : pg_ms 89 = 0 := rfl
theorem mz_90 : pg_mc 90 = 0 := rfl
theorem sz_90 : pg_ms 90 = 0 := rfl
theorem mz_91 : pg_mc 91 = 0 := rfl
theorem sz_91 : pg_ms 91 = 0 := rfl
theorem mz_92 : pg_mc 92 = 0 := rfl
theorem sz_92 : pg_ms 92 = 0 := rfl
theorem mz_93 : pg_mc 93 = 0 := rfl
theorem sz_93 : pg_ms 93 = 0 := rfl
theorem mz_94 : pg_mc 94 = 0 := rfl
theorem sz_94 : pg_ms 94 = 0 := rfl
theorem mz_95 : pg_mc 95 = 0 := rfl
theorem sz_95 : pg_ms 95 = 0 := rfl
theorem mz_96 : pg_mc 96 = 0 := rfl
theorem sz_96 : pg_ms 96 = 0 := rfl
theorem mz_97 : pg_mc 97 = 0 := rfl
theorem sz_97 : pg_ms 97 = 0 := rfl
theorem mz_98 : pg_mc 98 = 0 := rfl
theorem sz_98 : pg_ms 98 = 0 := rfl
theorem mz_99 : pg_mc 99 = 0 := rfl
theorem sz_99 : pg_ms 99 = 0 := rfl
theorem mz_100 : pg_mc 100 = 0 := rfl
theorem sz_100 : pg_ms 100 = 0 := rfl
theorem mz_101 : pg_mc 101 = 0 := rfl
theorem sz_101 : pg_ms 101 = 0 := rfl
theorem mz_102 : pg_mc 102 = 0 := rfl
theorem sz_102 : pg_ms 102 = 0 := rfl
theorem mz_103 : pg_mc 103 = 0 := rfl
theorem sz_103 : pg_ms 103 = 0 := rfl
theorem mz_104 : pg_mc 104 = 0 := rfl
theorem sz_104 : pg_ms 104 = 0 := rfl
theorem mz_105 : pg_mc 105 = 0 := rfl
theorem sz_105 : pg_ms 105 = 0 := rfl
theorem mz_106 : pg_mc 106 = 0 := rfl
theorem sz_106 : pg_ms 106 = 0 := rfl
theorem mz_107 : pg_mc 107 = 0 := rfl
theorem sz_107 : pg_ms 107 = 0 := rfl
theorem mz_108 : pg_mc 108 = 0 := rfl
theorem sz_108 : pg_ms 108 = 0 := rfl
theorem mz_109 : pg_mc 109 = 0 := rfl
theorem sz_109 : pg_ms 109 = 0 := rfl
theorem mz_110 : pg_mc 110 = 0 := rfl
theorem sz_110 : pg_ms 110 = 0 := rfl
theorem mz_111 : pg_mc 111 = 0 := rfl
theorem sz_111 : pg_ms 111 = 0 := rfl
theorem mz_112 : pg_mc 112 = 0 := rfl
theorem sz_112 : pg_ms 112 = 0 := rfl
theorem mz_113 : pg_mc 113 = 0 := rfl
theorem sz_113 : pg_ms 113 = 0 := rfl
theorem mz_114 : pg_mc 114 = 0 := rfl
theorem sz_114 : pg_ms 114 = 0 := rfl
theorem mz_115 : pg_mc 115 = 0 := rfl
theorem sz_115 : pg_ms 115 = 0 := rfl
theorem mz_116 : pg_mc 116 = 0 := rfl
theorem sz_116 : pg_ms 116 = 0 := rfl
theorem mz_117 : pg_mc 117 = 0 := rfl
theorem sz_117 : pg_ms 117 = 0 := rfl
theorem mz_118 : pg_mc 118 = 0 := rfl
theorem sz_118 : pg_ms 118 = 0 := rfl
theorem mz_119 : pg_mc 119 = 0 := rfl
theorem sz_119 : pg_ms 119 = 0 := rfl
theorem mz_120 : pg_mc 120 = 0 := rfl
theorem sz_120 : pg_ms 120 = 0 := rfl
theorem mz_121 : pg_mc 121 = 0 := rfl
theorem sz_121 : pg_ms 121 = 0 := rfl
theorem mz_122 : pg_mc 122 = 0 := rfl
theorem sz_122 : pg_ms 122 = 0 := rfl
theorem mz_123 : pg_mc 123 = 0 := rfl
theorem sz_123 : pg_ms 123 = 0 := rfl
theorem mz_124 : pg_mc 124 = 0 := rfl
theorem sz_124 : pg_ms 124 = 0 := rfl
theorem mz_125 : pg_mc 125 = 0 := rfl
theorem sz_125 : pg_ms 125 = 0 := rfl
theorem mz_126 : pg_mc 126 = 0 := rfl
theorem sz_126 : pg_ms 126 = 0 := rfl
theorem mz_127 : pg_mc 127 = 0 := rfl
theorem sz_127 : pg_ms 127 = 0 := rfl
theorem mz_128 : pg_mc 128 = 0 := rfl
theorem sz_128 : pg_ms 128 = 0 := rfl
def cnt (p : Nat → Bool) : Nat → Nat
  | 0 => 0
  | n + 1 => cnt p n + (if p n = true then 1 else 0)
theorem cnt_le (p : Nat → Bool) : ∀ n, cnt p n ≤ n
  | 0 => Nat.le_refl _
  | n + 1 => by
    have := cnt_le p n
    unfold cnt
    split <;> omega
theorem cnt_t {p : Nat → Bool} {n : Nat} (h : p n = true) : cnt p (n + 1) = cnt p n + 1 := by rw [cnt, if_pos h]
theorem cnt_f {p : Nat → Bool} {n : Nat} (h : ¬ p n = true) : cnt p (n + 1) = cnt p n := by rw [cnt, if_neg h]; rfl
theorem cnt_congr {p q : Nat → Bool} : ∀ {n : Nat}, (∀ i, i < n → p i = q i) → cnt p n = cnt q n
  | 0, _ => rfl
  | n + 1, h => by unfold cnt; rw [h n (Nat.lt_succ_self n), cnt_congr (n := n) (fun i hi => h i (Nat.lt_succ_of_lt hi))]
theorem i1 (n : Nat) : nI n + 1 = nI (n + 1) := (nI_succ n).symm
theorem o1 : Int32.ofInt 1 = 1 := by decide
section Lo
variable {G : am_G} {d : Nat} {K : am_K} {ad : Nat → Nat} {s f t n m w : Nat} {z : Sl}
def mkc (n : Nat) (q st : Nat → Int32) : Nat → Int32 := fun i => if i < n ∧ ¬ q i = 0 then 3 else st i
theorem mkc_t {i : Nat} {q st : Nat → Int32} (h : ¬ q i = 0) : upd (mkc i q st) i 3 = mkc (i + 1) q st := by
  funext j
  unfold mkc
  by_cases e : j = i
  · subst e; rw [pk_us, if_pos ⟨Nat.lt_succ_self j, h⟩]
  · rw [pk_un e]
    have : (j < i) = (j < i + 1) := propext (by omega)
    simp only [this]
theorem mkc_f {i : Nat} {q st : Nat → Int32} (h : q i = 0) : mkc i q st = mkc (i + 1) q st := by
  funext j
  unfold mkc
  by_cases e : j = i
  · subst e; rw [if_neg (fun c => c.2 h), if_neg (fun c => c.2 h)]
  · have : (j < i) = (j < i + 1) := propext (by omega)
    simp only [this]
theorem l_mark (hi : am_inj ad) {c : Nat} {q : Nat → Int32} {h0 : am_H} (hn : n ≤ 150) (hc : ¬ inSH s f t c) (hq : h0 (ad c) = some (.inl (.boolean, 150, .inl q)))
    (hk : ∀ h', SH ad h' s f t n m w (sl_st' z (mkc n q (sl_st z))) → (∀ p, ¬ inSH s f t p → h' (ad p) = h0 (ad p)) → K (.inl none) h') : ∀ (r i : Nat) (h : am_H), i + r = n → SH ad h s f t n m w (sl_st' z (mkc i q (sl_st z))) → (∀ p, ¬ inSH s f t p → h (ad p) = h0 (ad p)) → am_W G (am_M G d) 20 K 2 [some (.ref (ad s)), some (.ref (ad c)), some (.int (nI i))] [] h 0 0 := by
  intro r
  induction r with
  | zero =>
    intro i h hr hS FR
    have e : i = n := by omega
    subst e
    simp only [u_20_0, u_20_1, u_20_2, u_20_3, u_20_4, u_20_7, u_20_10, u_20_13, u_20_14, u_20_15, u_20_16, u_20_19, u_20_20, u_20_23, u_20_24, u_20_25, u_20_26, u_20_29, u_20_32, f_gf_some, f_gv_some, f_pf_some, f_ia_some, f_la_some, f_aa_some, f_is_some, f_ls_some, f_rc_some, f_at0, f_atS, f_st_0, f_st_1i, f_st_1r, f_st_1l, f_st_1n, f_st_S, f_s2_0, f_s2_1i, f_s2_1r, f_s2_1l, f_s2_1n, f_s2_S, true_and, and_true, List.set_cons_zero, List.set_cons_succ, List.length_cons, List.length_nil, Nat.reduceAdd, Nat.reduceEqDiff, reduceIte, Nat.left_eq_add, Nat.add_eq_left, Nat.reduceLT, hS.2.2.2.1, SHo, hS.2.1.1]
    exact am_br_t (Int32.le_refl _) (hk h hS FR)
  | succ r ih =>
    intro i h hr hS FR
    have hv : vp_in (nI i) 150 := vp_in_nI (by omega) (by decide)
    have hcl : (nI i).toNatClampNeg = i := nI_clamp (by omega)
    have g6 : h (ad (t + 2)) = some (.inl (.int, 150, .inl (mkc i q (sl_st z)))) := hS.2.2.2.2.2.2.1
    rw [u_20_2]
    simp only [u_20_0, u_20_1, u_20_3, u_20_4, u_20_7, u_20_10, u_20_13, u_20_14, u_20_15, u_20_16, u_20_19, u_20_20, u_20_23, u_20_24, u_20_25, u_20_26, u_20_29, u_20_32, f_gf_some, f_gv_some, f_pf_some, f_ia_some, f_la_some, f_aa_some, f_is_some, f_ls_some, f_rc_some, f_at0, f_atS, f_st_0, f_st_1i, f_st_1r, f_st_1l, f_st_1n, f_st_S, f_s2_0, f_s2_1i, f_s2_1r, f_s2_1l, f_s2_1n, f_s2_S, true_and, and_true, List.set_cons_zero, List.set_cons_succ, List.length_cons, List.length_nil, Nat.reduceAdd, Nat.reduceEqDiff, reduceIte, Nat.left_eq_add, Nat.add_eq_left, Nat.reduceLT, hS.2.2.2.1, SHo, hS.2.1.1, (FR c hc).trans hq, g6, hv, hcl, o1, i1]
    refine am_br_f (nI_ge (by omega) (by omega)) ⟨fun c1 => ?_, fun c1 => ?_⟩
    · refine ih (i + 1) h (by omega) ?_ FR
      rw [← mkc_f c1]; exact hS
    · refine ih (i + 1) _ (by omega) ?_ (fun p hp => (s_ne hi (by have := inSH.out hp; omega)).trans (FR p hp))
      rw [mkc_t c1]
      exact hS.set_st hi _
theorem c_mark (hi : am_inj ad) {c : Nat} {q : Nat → Int32} {h : am_H} (hn : n ≤ 150) (hc : ¬ inSH s f t c) (hq : h (ad c) = some (.inl (.boolean, 150, .inl q))) (hS : SH ad h s f t n m w z)
    (hk : ∀ h', SH ad h' s f t n m w (sl_st' z (mkc n q (sl_st z))) → (∀ p, ¬ inSH s f t p → h' (ad p) = h (ad p)) → K (.inl none) h') : am_M G (d + 1) 20 [.ref (ad s), .ref (ad c)] h K := by
  refine n_20 ?_
  simp only [u_20_0, u_20_1, u_20_3, u_20_4, u_20_7, u_20_10, u_20_13, u_20_14, u_20_15, u_20_16, u_20_19, u_20_20, u_20_23, u_20_24, u_20_25, u_20_26, u_20_29, u_20_32, f_gf_some, f_gv_some, f_pf_some, f_ia_some, f_la_some, f_aa_some, f_is_some, f_ls_some, f_rc_some, f_at0, f_atS, f_st_0, f_st_1i, f_st_1r, f_st_1l, f_st_1n, f_st_S, f_s2_0, f_s2_1i, f_s2_1r, f_s2_1l, f_s2_1n, f_s2_S, true_and, and_true, List.set_cons_zero, List.set_cons_succ, List.length_cons, List.length_nil, Nat.reduceAdd, Nat.reduceEqDiff, reduceIte, Nat.left_eq_add, Nat.add_eq_left, Nat.reduceLT]
  refine l_mark hi hn hc hq hk n 0 h (by omega) ?_ (fun p hp => rfl)
  have e : mkc 0 q (sl_st z) = sl_st z := by
    funext j; unfold mkc; rw [if_neg (fun c => absurd c.1 (Nat.not_lt_zero j))]
  rw [e]; exact hS
theorem l_cis {x : Int32} {h : am_H} (hn : n ≤ 150) (hS : SH ad h s f t n m w z) (hk : K (.inl (some (.int (nI (cnt (fun i => decide (sl_st z i = x)) n))))) h) : ∀ (r i : Nat), i + r = n → am_W G (am_M G d) 36 K 4 [some (.ref (ad s)), some (.int x), some (.int (nI (cnt (fun i => decide (sl_st z i = x)) i))), some (.int (nI i))] [] h 0 0 := by
  intro r
  induction r with
  | zero =>
    intro i hr
    have e : i = n := by omega
    subst e
    simp only [u_36_0, u_36_1, u_36_2, u_36_3, u_36_4, u_36_5, u_36_6, u_36_9, u_36_12, u_36_15, u_36_16, u_36_19, u_36_20, u_36_21, u_36_22, u_36_25, u_36_28, u_36_31, u_36_34, u_36_35, f_gf_some, f_gv_some, f_pf_some, f_ia_some, f_la_some, f_aa_some, f_is_some, f_ls_some, f_rc_some, f_at0, f_atS, f_st_0, f_st_1i, f_st_1r, f_st_1l, f_st_1n, f_st_S, f_s2_0, f_s2_1i, f_s2_1r, f_s2_1l, f_s2_1n, f_s2_S, true_and, and_true, List.set_cons_zero, List.set_cons_succ, List.length_cons, List.length_nil, Nat.reduceAdd, Nat.reduceEqDiff, reduceIte, Nat.left_eq_add, Nat.add_eq_left, Nat.reduceLT, hS.2.2.2.1, SHo, hS.2.1.1]
    exact am_br_t (Int32.le_refl _) hk
  | succ r ih =>
    intro i hr
    have hv : vp_in (nI i) 150 := vp_in_nI (by omega) (by decide)
    have hcl : (nI i).toNatClampNeg = i := nI_clamp (by omega)
    rw [u_36_4]
    simp only [u_36_0, u_36_1, u_36_2, u_36_3, u_36_5, u_36_6, u_36_9, u_36_12, u_36_15, u_36_16, u_36_19, u_36_20, u_36_21, u_36_22, u_36_25, u_36_28, u_36_31, u_36_34, u_36_35, f_gf_some, f_gv_some, f_pf_some, f_ia_some, f_la_some, f_aa_some, f_is_some, f_ls_some, f_rc_some, f_at0, f_atS, f_st_0, f_st_1i, f_st_1r, f_st_1l, f_st_1n, f_st_S, f_s2_0, f_s2_1i, f_s2_1r, f_s2_1l, f_s2_1n, f_s2_S, true_and, and_true, List.set_cons_zero, List.set_cons_succ, List.length_cons, List.length_nil, Nat.reduceAdd, Nat.reduceEqDiff, reduceIte, Nat.left_eq_add, Nat.add_eq_left, Nat.reduceLT, hS.2.2.2.1, SHo, hS.2.1.1, hS.2.2.2.2.2.2.1, hv, hcl, o1, i1]
    refine am_br_f (nI_ge (by omega) (by omega)) ⟨fun c1 => ?_, fun c1 => ?_⟩
    · have := ih (i + 1) (by omega)
      rw [cnt_f (by simpa using c1)] at this
      exact this
    · have := ih (i + 1) (by omega)
      rw [cnt_t (by simpa using c1)] at this
      exact this
theorem c_cis {x : Int32} {h : am_H} (hn : n ≤ 150) (hS : SH ad h s f t n m w z) (hk : K (.inl (some (.int (nI (cnt (fun i => decide (sl_st z i = x)) n))))) h) : am_M G (d + 1) 36 [.ref (ad s), .int x] h K := by
  refine n_36 ?_
  simp only [u_36_0, u_36_1, u_36_2, u_36_3, u_36_5, u_36_6, u_36_9, u_36_12, u_36_15, u_36_16, u_36_19, u_36_20, u_36_21, u_36_22, u_36_25, u_36_28, u_36_31, u_36_34, u_36_35, f_gf_some, f_gv_some, f_pf_some, f_ia_some, f_la_some, f_aa_some, f_is_some, f_ls_some, f_rc_some, f_at0, f_atS, f_st_0, f_st_1i, f_st_1r, f_st_1l, f_st_1n, f_st_S, f_s2_0, f_s2_1i, f_s2_1r, f_s2_1l, f_s2_1n, f_s2_S, true_and, and_true, List.set_cons_zero, List.set_cons_succ, List.length_cons, List.length_nil, Nat.reduceAdd, Nat.reduceEqDiff, reduceIte, Nat.left_eq_add, Nat.add_eq_left, Nat.reduceLT]
  exact l_cis hn hS hk n 0 (by omega)
theorem FO.size {h : am_H} (hi : am_inj ad) {o a b : Nat → Int32} (hF : FO ad h f n o a b) (n' : Nat) : FO ad (am_set h (ad f) (.inr (2, [.ref (ad (f + 1)), .ref (ad (f + 2)), .ref (ad (f + 3)), .int (nI n')]))) f n' o a b :=
  ⟨s_eq, (s_ne hi (by omega)).trans hF.2.1, (s_ne hi (by omega)).trans hF.2.2.1, (s_ne hi (by omega)).trans hF.2.2.2⟩
set_option maxHeartbeats 1000000 in
theorem c_addCell (hi : am_inj ad) {h : am_H} {x y u : Int32} (hn : n < 150) (hS : SH ad h s f t n m w z)
    (hk : ∀ h', SH ad h' s f t (n + 1) m (n + 1) (sl_st' (sl_F z (upd (sl_o z) n x) (upd (sl_a z) n y) (upd (sl_b z) n u)) (upd (sl_st z) n 4)) → (∀ p, ¬ inSH s f t p → h' (ad p) = h (ad p)) → K (.inl none) h') : am_M G (d + 2) 45 [.ref (ad s), .int x, .int y, .int u] h K := by
  refine n_45 (d := d + 1) ?_
  have hv : vp_in (nI n) 150 := vp_in_nI (by omega) (by decide)
  have hcl : (nI n).toNatClampNeg = n := nI_clamp (by omega)
  obtain ⟨⟨p1, p2, p3⟩, hF, hW, h3, h4, h5, h6, h7, h8, h9, h10, h11, h12⟩ := id hS
  simp (disch := omega) only [u_45_0, u_45_1, u_45_4, u_45_7, u_45_9, u_45_10, u_45_13, u_45_15, u_45_16, u_45_17, u_45_20, u_45_21, u_45_24, u_45_26, u_45_27, u_45_28, u_45_29, u_45_32, u_45_33, u_45_34, u_45_37, u_45_39, u_45_40, u_45_41, u_45_44, u_45_45, u_45_48, u_45_50, u_45_51, u_45_52, f_gf_some, f_gv_some, f_pf_some, f_ia_some, f_la_some, f_aa_some, f_is_some, f_ls_some, f_rc_some, f_at0, f_atS, f_st_0, f_st_1i, f_st_1r, f_st_1l, f_st_1n, f_st_S, f_s2_0, f_s2_1i, f_s2_1r, f_s2_1l, f_s2_1n, f_s2_S, true_and, and_true, List.set_cons_zero, List.set_cons_succ, List.length_cons, List.length_nil, Nat.reduceAdd, Nat.reduceEqDiff, reduceIte, Nat.left_eq_add, Nat.add_eq_left, Nat.reduceLT, h3, SHo, hF.1, o1, i1, s_ne hi, s_eq]
  refine ⟨(by first | decide | exact ⟨Nat.le_of_ble_eq_true rfl, Nat.le_of_ble_eq_true rfl, Nat.le_of_ble_eq_true rfl⟩), c_put hi (hF.size hi (n + 1)) (by omega) ?_⟩
  have R1 : SH ad (am_set h (ad f) (.inr (2, [.ref (ad (f + 1)), .ref (ad (f + 2)), .ref (ad (f + 3)), .int (nI (n + 1))]))) s f t (n + 1) m w z := hS.set_F (hF.size hi (n + 1)) (fun p hp => s_ne hi (by omega))
  have R2 := R1.set_F (R1.2.1.put hi n x y u) (fun p hp => FO_put_ne hi hp)
  have FR : ∀ p, ¬ inSH s f t p → FO_put ad (am_set h (ad f) (.inr (2, [.ref (ad (f + 1)), .ref (ad (f + 2)), .ref (ad (f + 3)), .int (nI (n + 1))]))) f (sl_o z) (sl_a z) (sl_b z) n x y u (ad p) = h (ad p) := fun p hp => by
    have := inSH.out hp
    rw [FO_put_ne hi (by omega), s_ne hi (by omega)]
  generalize FO_put ad (am_set h (ad f) (.inr (2, [.ref (ad (f + 1)), .ref (ad (f + 2)), .ref (ad (f + 3)), .int (nI (n + 1))]))) f (sl_o z) (sl_a z) (sl_b z) n x y u = q at R2 FR ⊢
  have g3 := R2.2.2.2.1
  have g6 : q (ad (t + 2)) = some (.inl (.int, 150, .inl (sl_st z))) := R2.2.2.2.2.2.2.1
  have gW : FO ad q (t + 4) w (sl_wo z) (sl_wa z) (sl_wb z) := R2.2.2.1
  (show am_W G (am_M G (d + 1)) 45 K _ _ _ _ _ _; simp (disch := omega) only [u_45_0, u_45_1, u_45_4, u_45_7, u_45_9, u_45_10, u_45_13, u_45_15, u_45_16, u_45_17, u_45_20, u_45_21, u_45_24, u_45_26, u_45_27, u_45_28, u_45_29, u_45_32, u_45_33, u_45_34, u_45_37, u_45_39, u_45_40, u_45_41, u_45_44, u_45_45, u_45_48, u_45_50, u_45_51, u_45_52, f_gf_some, f_gv_some, f_pf_some, f_ia_some, f_la_some, f_aa_some, f_is_some, f_ls_some, f_rc_some, f_at0, f_atS, f_st_0, f_st_1i, f_st_1r, f_st_1l, f_st_1n, f_st_S, f_s2_0, f_s2_1i, f_s2_1r, f_s2_1l, f_s2_1n, f_s2_S, true_and, and_true, List.set_cons_zero, List.set_cons_succ, List.length_cons, List.length_nil, Nat.reduceAdd, Nat.reduceEqDiff, reduceIte, Nat.left_eq_add, Nat.add_eq_left, Nat.reduceLT, g3, SHo, g6, gW.1, hv, hcl, o1, i1, s_ne hi, s_eq, Option.toList, List.cons_append, List.nil_append])
  have R3 := R2.set_W (gW.size hi (n + 1)) (fun p hp => s_ne hi (by omega))
  exact hk _ (R3.set_st hi (upd (sl_st z) n 4)) (fun p hp => by have := inSH.out hp; rw [s_ne hi (by omega), s_ne hi (by omega)]; exact FR p hp)
end Lo

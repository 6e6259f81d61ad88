-- the reference's rows against slices
def sI (z : Sl) (k : Nat) : Nat → Int32 := match k with
  | 0 => sl_o z
  | 1 => sl_a z
  | 2 => sl_b z
  | 3 => sl_told z
  | 4 => sl_st z
  | 5 => sl_wo z
  | 6 => sl_wa z
  | 7 => sl_wb z
  | 8 => sl_wt z
  | _ => fun _ => 0
def sL (z : Sl) (k : Nat) : Nat → Int64 := match k with
  | 0 => sl_num z
  | 1 => sl_wf z
  | 2 => sl_ws z
  | _ => sl_src z
/-- time u's rows are z -/
def Rq (A : Nat → Nat → Int32) (B : Nat → Nat → Int64) (u : Nat) (z : Sl) : Prop := (∀ k, k < 9 → ∀ i, i < 150 → A k (150 * u + i) = sI z k i) ∧ (∀ k, k < 3 → ∀ i, i < 150 → B k (150 * u + i) = sL z k i) ∧ ∀ i, i < 60 → B 3 (60 * u + i) = sl_src z i
/-- cells that are good or failing were worked -/
def Wq (n : Nat) (A : Nat → Nat → Int32) (u : Nat) (z : Sl) : Prop := ∀ i, i < n → (sl_st z i = 0 ∨ sl_st z i = 1) → A 9 (150 * u + i) = 1
def HQ (n : Nat) (A : Nat → Nat → Int32) (B : Nat → Nat → Int64) (th : Nat) (H : Nat → Sl) : Prop := ∀ u, u < th → Rq A B u (H u) ∧ Wq n A u (H u)
def RC (A : Nat → Nat → Int32) (pc : Nat) (C : Nat → Nat × FT × FT) : Prop := ∀ p, p < pc → A 10 p = nI (C p).1 ∧ ∀ i, i < (C p).1 → A 11 (150 * p + i) = (C p).2.2.1 i ∧ A 12 (150 * p + i) = (C p).2.2.2.1 i ∧ A 13 (150 * p + i) = (C p).2.2.2.2 i ∧ A 14 (150 * p + i) = (C p).2.1.1 i ∧ A 15 (150 * p + i) = (C p).2.1.2.1 i ∧ A 16 (150 * p + i) = (C p).2.1.2.2 i
/-- the reference's object and rows -/
def RW (ad : Nat → Nat) (h : am_H) (t : Int32) (n m : Nat) (z : Sl) (H : Nat → Sl) (th pc : Nat) (C : Nat → Nat × FT × FT) (wc : Nat) (wl : Nat → Int32) (wa : Int32) : Prop :=
  ∃ A B, MD ad h t m n pc th wc wa A B ∧ Rq A B 16 z ∧ Wq n A 16 z ∧ HQ n A B th H ∧ RC A pc C ∧ ∀ i, i < wc → A 17 i = wl i
theorem tI_pred {n : Nat} (h : n < 2 ^ 31) : (nI n - 1).toInt = (n : Int) - 1 := by
  rw [Int32.toInt_sub, nI_toInt h]
  exact Int.bmod_eq_of_le (by show _ ≤ (n : Int) - 1; omega) (by show (n : Int) - 1 < _; omega)
theorem tI_neg {n : Nat} (h : n < 2 ^ 31) : (-nI n).toInt = -(n : Int) := by
  rw [Int32.toInt_neg, nI_toInt h]
  exact Int.bmod_eq_of_le (by omega) (by omega)
theorem wi_isc {n : Nat} {v : Int32} (hn : n < 2 ^ 31) : (¬ v < 0 ∧ ¬ nI n - 1 < v) ↔ isc n v := by
  rw [isc_iff hn]
  have h0 : (0 : Int32).toInt = 0 := rfl
  rw [Int32.lt_iff_toInt_lt, Int32.lt_iff_toInt_lt, Int32.lt_iff_toInt_lt, tI_pred hn, nI_toInt hn, h0]
  omega
theorem wi_opnd {c m : Nat} {a : Int32} (hc : c ≤ 151) (hm : m ≤ 60) : (¬ a < -nI m ∧ ¬ nI c - 1 < a) ↔ opnd m (nI c) a := by
  rw [opnd_iff hm hc]
  unfold okx
  have h0 : (0 : Int32).toInt = 0 := rfl
  rw [Int32.lt_iff_toInt_lt, Int32.lt_iff_toInt_lt, tI_pred (by omega), tI_neg (by omega)]
  constructor
  · rintro ⟨a1, a2⟩
    by_cases c1 : a < 0
    · refine Or.inl ⟨c1, ?_⟩
      rw [vp_in_iff]
      rw [Int32.lt_iff_toInt_lt, h0] at c1
      have e3 : (-1 - a).toInt = -1 - a.toInt := by
        rw [Int32.toInt_sub]
        have h1 : (-1 : Int32).toInt = -1 := rfl
        rw [h1]
        exact Int.bmod_eq_of_le (by omega) (by omega)
      rw [e3]; omega
    · obtain ⟨j, hj, rfl⟩ := nI_of c1
      rw [nI_toInt hj] at a2
      exact Or.inr ⟨j, by omega, rfl⟩
  · rintro (⟨c1, c2⟩ | ⟨y, hy, rfl⟩)
    · rw [vp_in_iff] at c2
      rw [Int32.lt_iff_toInt_lt, h0] at c1
      have := Int32.le_toInt a
      have e3 : (-1 - a).toInt = -1 - a.toInt := by
        rw [Int32.toInt_sub]
        have h1 : (-1 : Int32).toInt = -1 := rfl
        rw [h1]
        exact Int.bmod_eq_of_le (by omega) (by omega)
      rw [e3] at c2
      omega
    · rw [nI_toInt (by omega)]; omega
theorem n2400 (c : Nat) : (2400 : Int32) + nI c = nI (2400 + c) := nI_add 2400 c
theorem n960 (c : Nat) : (960 : Int32) + nI c = nI (960 + c) := nI_add 960 c
theorem n150 (p : Nat) : (150 : Int32) * nI p = nI (150 * p) := (Int32.ofNat_mul 150 p).symm
theorem n60 (p : Nat) : (60 : Int32) * nI p = nI (60 * p) := (Int32.ofNat_mul 60 p).symm
/-- rows that agree below the present time -/
def lowE (A A' : Nat → Nat → Int32) (B B' : Nat → Nat → Int64) : Prop := (∀ k, k < 10 → ∀ x, x < 2400 → A' k x = A k x) ∧ (∀ k, k < 3 → ∀ x, x < 2400 → B' k x = B k x) ∧ ∀ x, x < 960 → B' 3 x = B 3 x
theorem HQ.low {n th : Nat} {A A' : Nat → Nat → Int32} {B B' : Nat → Nat → Int64} {H : Nat → Sl} (h : HQ n A B th H) (hth : th ≤ 16) (hn : n ≤ 150) (e : lowE A A' B B') : HQ n A' B' th H := by
  intro u hu
  obtain ⟨⟨h1, h2, h3⟩, h4⟩ := h u hu
  refine ⟨⟨fun k hk i hi => ?_, fun k hk i hi => ?_, fun i hi => ?_⟩, fun i hi hs => ?_⟩
  · rw [e.1 k (by omega) _ (by omega)]; exact h1 k hk i hi
  · rw [e.2.1 k hk _ (by omega)]; exact h2 k hk i hi
  · rw [e.2.2 _ (by omega)]; exact h3 i hi
  · rw [e.1 9 (by decide) _ (by omega)]; exact h4 i hi hs
/-- one cell's entry at the present time -/
theorem Rq.sA {A : Nat → Nat → Int32} {B : Nat → Nat → Int64} {z z' : Sl} {k j : Nat} {x : Int32} (h : Rq A B 16 z) (hj : j < 150) (h1 : k < 9 → sI z' k = upd (sI z k) j x) (h2 : ∀ k', k' < 9 → k' ≠ k → sI z' k' = sI z k') (h3 : ∀ k', k' < 3 → sL z' k' = sL z k') (h4 : sl_src z' = sl_src z) : Rq (va_up A k (upd (A k) (2400 + j) x)) B 16 z' := by
  obtain ⟨a1, a2, a3⟩ := h
  refine ⟨fun k' hk i hi => ?_, fun k' hk i hi => by rw [h3 k' hk]; exact a2 k' hk i hi, fun i hi => by rw [h4]; exact a3 i hi⟩
  by_cases e : k' = k
  · subst e
    rw [va_up_self, h1 hk]
    by_cases e2 : i = j
    · subst e2; exact pk_us.trans pk_us.symm
    · rw [pk_un e2, pk_un (by omega)]; exact a1 k' hk i hi
  · rw [va_up_ne _ _ e, h2 k' hk e]; exact a1 k' hk i hi
theorem Rq.sB {A : Nat → Nat → Int32} {B : Nat → Nat → Int64} {z z' : Sl} {k j : Nat} {x : Int64} (h : Rq A B 16 z) (hk3 : k < 3) (h1 : sL z' k = vp_updL (sL z k) j x) (h2 : ∀ k', k' < 9 → sI z' k' = sI z k') (h3 : ∀ k', k' < 3 → k' ≠ k → sL z' k' = sL z k') (h4 : sl_src z' = sl_src z) : Rq A (va_up B k (vp_updL (B k) (2400 + j) x)) 16 z' := by
  obtain ⟨a1, a2, a3⟩ := h
  refine ⟨fun k' hk i hi => by rw [h2 k' hk]; exact a1 k' hk i hi, fun k' hk i hi => ?_, fun i hi => by rw [h4, va_up_ne _ _ (by omega)]; exact a3 i hi⟩
  by_cases e : k' = k
  · subst e
    rw [va_up_self, h1]
    by_cases e2 : i = j
    · subst e2; exact pk_uLs.trans pk_uLs.symm
    · rw [pk_uLn e2, pk_uLn (by omega)]; exact a2 k' hk i hi
  · rw [va_up_ne _ _ e, h3 k' hk e]; exact a2 k' hk i hi
section Rb
variable {G : am_G} {d : Nat} {K : am_K} {ad : Nat → Nat} {h : am_H} {t : Int32} {m n p th wc : Nat} {wa : Int32} {A : Nat → Nat → Int32} {B : Nat → Nat → Int64}
theorem r_thrown (hM : MD ad h t m n p th wc wa A B) (hk : K (.inl (some (.int t))) h) : am_M G (d + 1) 83 [.ref (ad 322)] h K := by
  refine n_83 ?_
  simp only [u_83_0, u_83_1, u_83_4, f_gf_some, f_gv_some, f_pf_some, f_ia_some, f_la_some, f_aa_some, f_is_some, f_ls_some, f_rc_some, f_at0, f_atS, f_st_0, f_st_1i, f_st_1r, f_st_1l, f_st_1n, f_st_S, f_s2_0, f_s2_1i, f_s2_1r, f_s2_1l, f_s2_1n, f_s2_S, true_and, and_true, List.set_cons_zero, List.set_cons_succ, List.length_cons, List.length_nil, Nat.reduceAdd, Nat.reduceEqDiff, reduceIte, Nat.left_eq_add, Nat.add_eq_left, Nat.reduceLT, hM.1, MO]
  exact hk
theorem r_wrong (hi : am_inj ad) (hM : MD ad h t m n p th wc wa A B) {x : Int32} (hk : ∀ h', MD ad h' x m n p th wc wa A B → (∀ q, q ≠ 322 → h' (ad q) = h (ad q)) → K (.inl (some (.int 0))) h') : am_M G (d + 1) 85 [.ref (ad 322), .int x] h K := by
  refine n_85 ?_
  simp only [u_85_0, u_85_1, u_85_2, u_85_5, u_85_6, f_gf_some, f_gv_some, f_pf_some, f_ia_some, f_la_some, f_aa_some, f_is_some, f_ls_some, f_rc_some, f_at0, f_atS, f_st_0, f_st_1i, f_st_1r, f_st_1l, f_st_1n, f_st_S, f_s2_0, f_s2_1i, f_s2_1r, f_s2_1l, f_s2_1n, f_s2_S, true_and, and_true, List.set_cons_zero, List.set_cons_succ, List.length_cons, List.length_nil, Nat.reduceAdd, Nat.reduceEqDiff, reduceIte, Nat.left_eq_add, Nat.add_eq_left, Nat.reduceLT, hM.1, MO]
  exact hk _ (hM.so hi x m n p th wc wa) (fun q hq => s_ne hi hq)
theorem r_within {v lo hi' : Int32} (hy : ¬ v < lo → ¬ hi' < v → K (.inl (some (.int 1))) h) (hn : ¬ (¬ v < lo ∧ ¬ hi' < v) → K (.inl (some (.int 0))) h) : am_M G (d + 1) 88 [.int v, .int lo, .int hi'] h K := by
  refine n_88 ?_
  simp only [u_88_0, u_88_1, u_88_2, u_88_5, u_88_6, u_88_7, u_88_10, u_88_11, u_88_14, u_88_15, f_gf_some, f_gv_some, f_pf_some, f_ia_some, f_la_some, f_aa_some, f_is_some, f_ls_some, f_rc_some, f_at0, f_atS, f_st_0, f_st_1i, f_st_1r, f_st_1l, f_st_1n, f_st_S, f_s2_0, f_s2_1i, f_s2_1r, f_s2_1l, f_s2_1n, f_s2_S, true_and, and_true, List.set_cons_zero, List.set_cons_succ, List.length_cons, List.length_nil, Nat.reduceAdd, Nat.reduceEqDiff, reduceIte, Nat.left_eq_add, Nat.add_eq_left, Nat.reduceLT, nz_0, nz_1]
  exact ⟨fun c => hn (fun q => q.1 c), fun c => ⟨fun c2 => hn (fun q => q.2 c2), fun c2 => hy c c2⟩⟩
theorem r_isOperand {x : Int32} {c : Nat} (hc : c ≤ 151) (hm : m ≤ 60) (hM : MD ad h t m n p th wc wa A B) (hy : opnd m (nI c) x → K (.inl (some (.int 1))) h) (hn : ¬ opnd m (nI c) x → K (.inl (some (.int 0))) h) : am_M G (d + 2) 89 [.ref (ad 322), .int x, .int (nI c)] h K := by
  refine n_89 (d := d + 1) ?_
  simp only [u_89_0, u_89_1, u_89_2, u_89_5, u_89_6, u_89_7, u_89_8, u_89_9, u_89_12, f_gf_some, f_gv_some, f_pf_some, f_ia_some, f_la_some, f_aa_some, f_is_some, f_ls_some, f_rc_some, f_at0, f_atS, f_st_0, f_st_1i, f_st_1r, f_st_1l, f_st_1n, f_st_S, f_s2_0, f_s2_1i, f_s2_1r, f_s2_1l, f_s2_1n, f_s2_S, true_and, and_true, List.set_cons_zero, List.set_cons_succ, List.length_cons, List.length_nil, Nat.reduceAdd, Nat.reduceEqDiff, reduceIte, Nat.left_eq_add, Nat.add_eq_left, Nat.reduceLT, hM.1, MO]
  refine ⟨(by first | decide | exact ⟨Nat.le_of_ble_eq_true rfl, Nat.le_of_ble_eq_true rfl, Nat.le_of_ble_eq_true rfl⟩), r_within (fun c1 c2 => ?_) (fun c1 => ?_)⟩
  · (show am_W G (am_M G (d + 1)) 89 K _ _ _ _ _ _; simp only [u_89_0, u_89_1, u_89_2, u_89_5, u_89_6, u_89_7, u_89_8, u_89_9, u_89_12, f_gf_some, f_gv_some, f_pf_some, f_ia_some, f_la_some, f_aa_some, f_is_some, f_ls_some, f_rc_some, f_at0, f_atS, f_st_0, f_st_1i, f_st_1r, f_st_1l, f_st_1n, f_st_S, f_s2_0, f_s2_1i, f_s2_1r, f_s2_1l, f_s2_1n, f_s2_S, true_and, and_true, List.set_cons_zero, List.set_cons_succ, List.length_cons, List.length_nil, Nat.reduceAdd, Nat.reduceEqDiff, reduceIte, Nat.left_eq_add, Nat.add_eq_left, Nat.reduceLT, nz_1, mz_7, sz_7, mz_8, sz_8, mz_9, sz_9, mz_10, sz_10, mz_11, sz_11, mz_12, sz_12, mz_13, sz_13, mz_14, sz_14, mz_15, sz_15, mz_16, sz_16, mz_17, sz_17, mz_18, sz_18, mz_19, sz_19, mz_20, sz_20, mz_21, sz_21, mz_22, sz_22, mz_23, sz_23, mz_24, sz_24, mz_25, sz_25, mz_26, sz_26, mz_27, sz_27, mz_28, sz_28, mz_29, sz_29, mz_30, sz_30, mz_31, sz_31, mz_32, sz_32, mz_33, sz_33, mz_34, sz_34, mz_35, sz_35, mz_36, sz_36, mz_39, sz_39, mz_40, sz_40, mz_43, sz_43, mz_44, sz_44, mz_45, sz_45, mz_63, sz_63, mz_69, sz_69, mz_70, sz_70, mz_71, sz_71, mz_74, sz_74, mz_77, sz_77, mz_78, sz_78, mz_79, sz_79, mz_83, sz_83, mz_84, sz_84, mz_85, sz_85, mz_86, sz_86, mz_87, sz_87, mz_88, sz_88, mz_89, sz_89, mz_90, sz_90, mz_91, sz_91, mz_92, sz_92, mz_93, sz_93, mz_94, sz_94, mz_95, sz_95, mz_96, sz_96, mz_97, sz_97, mz_98, sz_98, mz_99, sz_99, mz_100, sz_100, mz_101, sz_101, mz_102, sz_102, mz_103, sz_103, mz_104, sz_104, mz_105, sz_105, mz_106, sz_106, mz_107, sz_107, mz_108, sz_108, mz_109, sz_109, mz_110, sz_110, mz_111, sz_111, mz_112, sz_112, mz_113, sz_113, mz_114, sz_114, mz_115, sz_115, mz_116, sz_116, mz_117, sz_117, mz_118, sz_118, mz_119, sz_119, mz_120, sz_120, mz_121, sz_121, mz_122, sz_122, mz_123, sz_123, mz_124, sz_124, mz_125, sz_125, mz_126, sz_126, mz_127, sz_127, mz_128, sz_128, Nat.add_zero, Option.toList, List.cons_append, List.nil_append])
    exact hy ((wi_opnd hc hm).mp ⟨c1, c2⟩)
  · (show am_W G (am_M G (d + 1)) 89 K _ _ _ _ _ _; simp only [u_89_0, u_89_1, u_89_2, u_89_5, u_89_6, u_89_7, u_89_8, u_89_9, u_89_12, f_gf_some, f_gv_some, f_pf_some, f_ia_some, f_la_some, f_aa_some, f_is_some, f_ls_some, f_rc_some, f_at0, f_atS, f_st_0, f_st_1i, f_st_1r, f_st_1l, f_st_1n, f_st_S, f_s2_0, f_s2_1i, f_s2_1r, f_s2_1l, f_s2_1n, f_s2_S, true_and, and_true, List.set_cons_zero, List.set_cons_succ, List.length_cons, List.length_nil, Nat.reduceAdd, Nat.reduceEqDiff, reduceIte, Nat.left_eq_add, Nat.add_eq_left, Nat.reduceLT, nz_0, mz_7, sz_7, mz_8, sz_8, mz_9, sz_9, mz_10, sz_10, mz_11, sz_11, mz_12, sz_12, mz_13, sz_13, mz_14, sz_14, mz_15, sz_15, mz_16, sz_16, mz_17, sz_17, mz_18, sz_18, mz_19, sz_19, mz_20, sz_20, mz_21, sz_21, mz_22, sz_22, mz_23, sz_23, mz_24, sz_24, mz_25, sz_25, mz_26, sz_26, mz_27, sz_27, mz_28, sz_28, mz_29, sz_29, mz_30, sz_30, mz_31, sz_31, mz_32, sz_32, mz_33, sz_33, mz_34, sz_34, mz_35, sz_35, mz_36, sz_36, mz_39, sz_39, mz_40, sz_40, mz_43, sz_43, mz_44, sz_44, mz_45, sz_45, mz_63, sz_63, mz_69, sz_69, mz_70, sz_70, mz_71, sz_71, mz_74, sz_74, mz_77, sz_77, mz_78, sz_78, mz_79, sz_79, mz_83, sz_83, mz_84, sz_84, mz_85, sz_85, mz_86, sz_86, mz_87, sz_87, mz_88, sz_88, mz_89, sz_89, mz_90, sz_90, mz_91, sz_91, mz_92, sz_92, mz_93, sz_93, mz_94, sz_94, mz_95, sz_95, mz_96, sz_96, mz_97, sz_97, mz_98, sz_98, mz_99, sz_99, mz_100, sz_100, mz_101, sz_101, mz_102, sz_102, mz_103, sz_103, mz_104, sz_104, mz_105, sz_105, mz_106, sz_106, mz_107, sz_107, mz_108, sz_108, mz_109, sz_109, mz_110, sz_110, mz_111, sz_111, mz_112, sz_112, mz_113, sz_113, mz_114, sz_114, mz_115, sz_115, mz_116, sz_116, mz_117, sz_117, mz_118, sz_118, mz_119, sz_119, mz_120, sz_120, mz_121, sz_121, mz_122, sz_122, mz_123, sz_123, mz_124, sz_124, mz_125, sz_125, mz_126, sz_126, mz_127, sz_127, mz_128, sz_128, Nat.add_zero, Option.toList, List.cons_append, List.nil_append])
    exact hn (fun q => c1 ((wi_opnd hc hm).mpr q))
theorem r_isFormula {o a b : Int32} {c : Nat} (hc : c ≤ 151) (hm : m ≤ 60) (hM : MD ad h t m n p th wc wa A B) (hy : okop m (nI c) o a b → K (.inl (some (.int 1))) h) (hn : ¬ okop m (nI c) o a b → K (.inl (some (.int 0))) h) : am_M G (d + 3) 87 [.ref (ad 322), .int o, .int a, .int b, .int (nI c)] h K := by
  refine n_87 (d := d + 2) ?_
  have ho : (¬ o < 0 ∧ ¬ (5 : Int32) < o) ↔ (¬ o < 0 ∧ o < 6) := by
    have h5 : (5 : Int32).toInt = 5 := rfl
    have h6 : (6 : Int32).toInt = 6 := rfl
    have h0 : (0 : Int32).toInt = 0 := rfl
    rw [Int32.lt_iff_toInt_lt, Int32.lt_iff_toInt_lt, Int32.lt_iff_toInt_lt, h5, h6, h0]
    omega
  simp only [u_87_0, u_87_1, u_87_2, u_87_3, u_87_6, u_87_9, u_87_10, u_87_11, u_87_13, u_87_16, u_87_19, u_87_20, u_87_21, u_87_23, u_87_26, u_87_29, u_87_30, u_87_33, u_87_34, f_gf_some, f_gv_some, f_pf_some, f_ia_some, f_la_some, f_aa_some, f_is_some, f_ls_some, f_rc_some, f_at0, f_atS, f_st_0, f_st_1i, f_st_1r, f_st_1l, f_st_1n, f_st_S, f_s2_0, f_s2_1i, f_s2_1r, f_s2_1l, f_s2_1n, f_s2_S, true_and, and_true, List.set_cons_zero, List.set_cons_succ, List.length_cons, List.length_nil, Nat.reduceAdd, Nat.reduceEqDiff, reduceIte, Nat.left_eq_add, Nat.add_eq_left, Nat.reduceLT, hM.1, MO]
  refine ⟨(by first | decide | exact ⟨Nat.le_of_ble_eq_true rfl, Nat.le_of_ble_eq_true rfl, Nat.le_of_ble_eq_true rfl⟩), r_within (fun c1 c2 => ?_) (fun c1 => ?_)⟩
  · (show am_W G (am_M G (d + 2)) 87 K _ _ _ _ _ _; simp only [u_87_0, u_87_1, u_87_2, u_87_3, u_87_6, u_87_9, u_87_10, u_87_11, u_87_13, u_87_16, u_87_19, u_87_20, u_87_21, u_87_23, u_87_26, u_87_29, u_87_30, u_87_33, u_87_34, f_gf_some, f_gv_some, f_pf_some, f_ia_some, f_la_some, f_aa_some, f_is_some, f_ls_some, f_rc_some, f_at0, f_atS, f_st_0, f_st_1i, f_st_1r, f_st_1l, f_st_1n, f_st_S, f_s2_0, f_s2_1i, f_s2_1r, f_s2_1l, f_s2_1n, f_s2_S, true_and, and_true, List.set_cons_zero, List.set_cons_succ, List.length_cons, List.length_nil, Nat.reduceAdd, Nat.reduceEqDiff, reduceIte, Nat.left_eq_add, Nat.add_eq_left, Nat.reduceLT, hM.1, MO, mz_7, sz_7, mz_8, sz_8, mz_9, sz_9, mz_10, sz_10, mz_11, sz_11, mz_12, sz_12, mz_13, sz_13, mz_14, sz_14, mz_15, sz_15, mz_16, sz_16, mz_17, sz_17, mz_18, sz_18, mz_19, sz_19, mz_20, sz_20, mz_21, sz_21, mz_22, sz_22, mz_23, sz_23, mz_24, sz_24, mz_25, sz_25, mz_26, sz_26, mz_27, sz_27, mz_28, sz_28, mz_29, sz_29, mz_30, sz_30, mz_31, sz_31, mz_32, sz_32, mz_33, sz_33, mz_34, sz_34, mz_35, sz_35, mz_36, sz_36, mz_39, sz_39, mz_40, sz_40, mz_43, sz_43, mz_44, sz_44, mz_45, sz_45, mz_63, sz_63, mz_69, sz_69, mz_70, sz_70, mz_71, sz_71, mz_74, sz_74, mz_77, sz_77, mz_78, sz_78, mz_79, sz_79, mz_83, sz_83, mz_84, sz_84, mz_85, sz_85, mz_86, sz_86, mz_87, sz_87, mz_88, sz_88, mz_89, sz_89, mz_90, sz_90, mz_91, sz_91, mz_92, sz_92, mz_93, sz_93, mz_94, sz_94, mz_95, sz_95, mz_96, sz_96, mz_97, sz_97, mz_98, sz_98, mz_99, sz_99, mz_100, sz_100, mz_101, sz_101, mz_102, sz_102, mz_103, sz_103, mz_104, sz_104, mz_105, sz_105, mz_106, sz_106, mz_107, sz_107, mz_108, sz_108, mz_109, sz_109, mz_110, sz_110, mz_111, sz_111, mz_112, sz_112, mz_113, sz_113, mz_114, sz_114, mz_115, sz_115, mz_116, sz_116, mz_117, sz_117, mz_118, sz_118, mz_119, sz_119, mz_120, sz_120, mz_121, sz_121, mz_122, sz_122, mz_123, sz_123, mz_124, sz_124, mz_125, sz_125, mz_126, sz_126, mz_127, sz_127, mz_128, sz_128, Nat.add_zero, Option.toList, List.cons_append, List.nil_append])
    refine am_br_f (by decide) ⟨(by first | decide | exact ⟨Nat.le_of_ble_eq_true rfl, Nat.le_of_ble_eq_true rfl, Nat.le_of_ble_eq_true rfl⟩), r_isOperand hc hm hM (fun c3 => ?_) (fun c3 => ?_)⟩
    · (show am_W G (am_M G (d + 2)) 87 K _ _ _ _ _ _; simp only [u_87_0, u_87_1, u_87_2, u_87_3, u_87_6, u_87_9, u_87_10, u_87_11, u_87_13, u_87_16, u_87_19, u_87_20, u_87_21, u_87_23, u_87_26, u_87_29, u_87_30, u_87_33, u_87_34, f_gf_some, f_gv_some, f_pf_some, f_ia_some, f_la_some, f_aa_some, f_is_some, f_ls_some, f_rc_some, f_at0, f_atS, f_st_0, f_st_1i, f_st_1r, f_st_1l, f_st_1n, f_st_S, f_s2_0, f_s2_1i, f_s2_1r, f_s2_1l, f_s2_1n, f_s2_S, true_and, and_true, List.set_cons_zero, List.set_cons_succ, List.length_cons, List.length_nil, Nat.reduceAdd, Nat.reduceEqDiff, reduceIte, Nat.left_eq_add, Nat.add_eq_left, Nat.reduceLT, hM.1, MO, mz_7, sz_7, mz_8, sz_8, mz_9, sz_9, mz_10, sz_10, mz_11, sz_11, mz_12, sz_12, mz_13, sz_13, mz_14, sz_14, mz_15, sz_15, mz_16, sz_16, mz_17, sz_17, mz_18, sz_18, mz_19, sz_19, mz_20, sz_20, mz_21, sz_21, mz_22, sz_22, mz_23, sz_23, mz_24, sz_24, mz_25, sz_25, mz_26, sz_26, mz_27, sz_27, mz_28, sz_28, mz_29, sz_29, mz_30, sz_30, mz_31, sz_31, mz_32, sz_32, mz_33, sz_33, mz_34, sz_34, mz_35, sz_35, mz_36, sz_36, mz_39, sz_39, mz_40, sz_40, mz_43, sz_43, mz_44, sz_44, mz_45, sz_45, mz_63, sz_63, mz_69, sz_69, mz_70, sz_70, mz_71, sz_71, mz_74, sz_74, mz_77, sz_77, mz_78, sz_78, mz_79, sz_79, mz_83, sz_83, mz_84, sz_84, mz_85, sz_85, mz_86, sz_86, mz_87, sz_87, mz_88, sz_88, mz_89, sz_89, mz_90, sz_90, mz_91, sz_91, mz_92, sz_92, mz_93, sz_93, mz_94, sz_94, mz_95, sz_95, mz_96, sz_96, mz_97, sz_97, mz_98, sz_98, mz_99, sz_99, mz_100, sz_100, mz_101, sz_101, mz_102, sz_102, mz_103, sz_103, mz_104, sz_104, mz_105, sz_105, mz_106, sz_106, mz_107, sz_107, mz_108, sz_108, mz_109, sz_109, mz_110, sz_110, mz_111, sz_111, mz_112, sz_112, mz_113, sz_113, mz_114, sz_114, mz_115, sz_115, mz_116, sz_116, mz_117, sz_117, mz_118, sz_118, mz_119, sz_119, mz_120, sz_120, mz_121, sz_121, mz_122, sz_122, mz_123, sz_123, mz_124, sz_124, mz_125, sz_125, mz_126, sz_126, mz_127, sz_127, mz_128, sz_128, Nat.add_zero, Option.toList, List.cons_append, List.nil_append])
      refine am_br_f (by decide) ⟨(by first | decide | exact ⟨Nat.le_of_ble_eq_true rfl, Nat.le_of_ble_eq_true rfl, Nat.le_of_ble_eq_true rfl⟩), r_isOperand hc hm hM (fun c4 => ?_) (fun c4 => ?_)⟩
      · (show am_W G (am_M G (d + 2)) 87 K _ _ _ _ _ _; simp only [u_87_0, u_87_1, u_87_2, u_87_3, u_87_6, u_87_9, u_87_10, u_87_11, u_87_13, u_87_16, u_87_19, u_87_20, u_87_21, u_87_23, u_87_26, u_87_29, u_87_30, u_87_33, u_87_34, f_gf_some, f_gv_some, f_pf_some, f_ia_some, f_la_some, f_aa_some, f_is_some, f_ls_some, f_rc_some, f_at0, f_atS, f_st_0, f_st_1i, f_st_1r, f_st_1l, f_st_1n, f_st_S, f_s2_0, f_s2_1i, f_s2_1r, f_s2_1l, f_s2_1n, f_s2_S, true_and, and_true, List.set_cons_zero, List.set_cons_succ, List.length_cons, List.length_nil, Nat.reduceAdd, Nat.reduceEqDiff, reduceIte, Nat.left_eq_add, Nat.add_eq_left, Nat.reduceLT, nz_1, mz_7, sz_7, mz_8, sz_8, mz_9, sz_9, mz_10, sz_10, mz_11, sz_11, mz_12, sz_12, mz_13, sz_13, mz_14, sz_14, mz_15, sz_15, mz_16, sz_16, mz_17, sz_17, mz_18, sz_18, mz_19, sz_19, mz_20, sz_20, mz_21, sz_21, mz_22, sz_22, mz_23, sz_23, mz_24, sz_24, mz_25, sz_25, mz_26, sz_26, mz_27, sz_27, mz_28, sz_28, mz_29, sz_29, mz_30, sz_30, mz_31, sz_31, mz_32, sz_32, mz_33, sz_33, mz_34, sz_34, mz_35, sz_35, mz_36, sz_36, mz_39, sz_39, mz_40, sz_40, mz_43, sz_43, mz_44, sz_44, mz_45, sz_45, mz_63, sz_63, mz_69, sz_69, mz_70, sz_70, mz_71, sz_71, mz_74, sz_74, mz_77, sz_77, mz_78, sz_78, mz_79, sz_79, mz_83, sz_83, mz_84, sz_84, mz_85, sz_85, mz_86, sz_86, mz_87, sz_87, mz_88, sz_88, mz_89, sz_89, mz_90, sz_90, mz_91, sz_91, mz_92, sz_92, mz_93, sz_93, mz_94, sz_94, mz_95, sz_95, mz_96, sz_96, mz_97, sz_97, mz_98, sz_98, mz_99, sz_99, mz_100, sz_100, mz_101, sz_101, mz_102, sz_102, mz_103, sz_103, mz_104, sz_104, mz_105, sz_105, mz_106, sz_106, mz_107, sz_107, mz_108, sz_108, mz_109, sz_109, mz_110, sz_110, mz_111, sz_111, mz_112, sz_112, mz_113, sz_113, mz_114, sz_114, mz_115, sz_115, mz_116, sz_116, mz_117, sz_117, mz_118, sz_118, mz_119, sz_119, mz_120, sz_120, mz_121, sz_121, mz_122, sz_122, mz_123, sz_123, mz_124, sz_124, mz_125, sz_125, mz_126, sz_126, mz_127, sz_127, mz_128, sz_128, Nat.add_zero, Option.toList, List.cons_append, List.nil_append])
        exact am_br_f (by decide) (hy ⟨ho.mp ⟨c1, c2⟩, c3, c4⟩)
      · (show am_W G (am_M G (d + 2)) 87 K _ _ _ _ _ _; simp only [u_87_0, u_87_1, u_87_2, u_87_3, u_87_6, u_87_9, u_87_10, u_87_11, u_87_13, u_87_16, u_87_19, u_87_20, u_87_21, u_87_23, u_87_26, u_87_29, u_87_30, u_87_33, u_87_34, f_gf_some, f_gv_some, f_pf_some, f_ia_some, f_la_some, f_aa_some, f_is_some, f_ls_some, f_rc_some, f_at0, f_atS, f_st_0, f_st_1i, f_st_1r, f_st_1l, f_st_1n, f_st_S, f_s2_0, f_s2_1i, f_s2_1r, f_s2_1l, f_s2_1n, f_s2_S, true_and, and_true, List.set_cons_zero, List.set_cons_succ, List.length_cons, List.length_nil, Nat.reduceAdd, Nat.reduceEqDiff, reduceIte, Nat.left_eq_add, Nat.add_eq_left, Nat.reduceLT, nz_0, mz_7, sz_7, mz_8, sz_8, mz_9, sz_9, mz_10, sz_10, mz_11, sz_11, mz_12, sz_12, mz_13, sz_13, mz_14, sz_14, mz_15, sz_15, mz_16, sz_16, mz_17, sz_17, mz_18, sz_18, mz_19, sz_19, mz_20, sz_20, mz_21, sz_21, mz_22, sz_22, mz_23, sz_23, mz_24, sz_24, mz_25, sz_25, mz_26, sz_26, mz_27, sz_27, mz_28, sz_28, mz_29, sz_29, mz_30, sz_30, mz_31, sz_31, mz_32, sz_32, mz_33, sz_33, mz_34, sz_34, mz_35, sz_35, mz_36, sz_36, mz_39, sz_39, mz_40, sz_40, mz_43, sz_43, mz_44, sz_44, mz_45, sz_45, mz_63, sz_63, mz_69, sz_69, mz_70, sz_70, mz_71, sz_71, mz_74, sz_74, mz_77, sz_77, mz_78, sz_78, mz_79, sz_79, mz_83, sz_83, mz_84, sz_84, mz_85, sz_85, mz_86, sz_86, mz_87, sz_87, mz_88, sz_88, mz_89, sz_89, mz_90, sz_90, mz_91, sz_91, mz_92, sz_92, mz_93, sz_93, mz_94, sz_94, mz_95, sz_95, mz_96, sz_96, mz_97, sz_97, mz_98, sz_98, mz_99, sz_99, mz_100, sz_100, mz_101, sz_101, mz_102, sz_102, mz_103, sz_103, mz_104, sz_104, mz_105, sz_105, mz_106, sz_106, mz_107, sz_107, mz_108, sz_108, mz_109, sz_109, mz_110, sz_110, mz_111, sz_111, mz_112, sz_112, mz_113, sz_113, mz_114, sz_114, mz_115, sz_115, mz_116, sz_116, mz_117, sz_117, mz_118, sz_118, mz_119, sz_119, mz_120, sz_120, mz_121, sz_121, mz_122, sz_122, mz_123, sz_123, mz_124, sz_124, mz_125, sz_125, mz_126, sz_126, mz_127, sz_127, mz_128, sz_128, Nat.add_zero, Option.toList, List.cons_append, List.nil_append])
        exact am_br_t (by decide) (hn (fun q => c4 q.2.2))
    · (show am_W G (am_M G (d + 2)) 87 K _ _ _ _ _ _; simp only [u_87_0, u_87_1, u_87_2, u_87_3, u_87_6, u_87_9, u_87_10, u_87_11, u_87_13, u_87_16, u_87_19, u_87_20, u_87_21, u_87_23, u_87_26, u_87_29, u_87_30, u_87_33, u_87_34, f_gf_some, f_gv_some, f_pf_some, f_ia_some, f_la_some, f_aa_some, f_is_some, f_ls_some, f_rc_some, f_at0, f_atS, f_st_0, f_st_1i, f_st_1r, f_st_1l, f_st_1n, f_st_S, f_s2_0, f_s2_1i, f_s2_1r, f_s2_1l, f_s2_1n, f_s2_S, true_and, and_true, List.set_cons_zero, List.set_cons_succ, List.length_cons, List.length_nil, Nat.reduceAdd, Nat.reduceEqDiff, reduceIte, Nat.left_eq_add, Nat.add_eq_left, Nat.reduceLT, nz_0, mz_7, sz_7, mz_8, sz_8, mz_9, sz_9, mz_10, sz_10, mz_11, sz_11, mz_12, sz_12, mz_13, sz_13, mz_14, sz_14, mz_15, sz_15, mz_16, sz_16, mz_17, sz_17, mz_18, sz_18, mz_19, sz_19, mz_20, sz_20, mz_21, sz_21, mz_22, sz_22, mz_23, sz_23, mz_24, sz_24, mz_25, sz_25, mz_26, sz_26, mz_27, sz_27, mz_28, sz_28, mz_29, sz_29, mz_30, sz_30, mz_31, sz_31, mz_32, sz_32, mz_33, sz_33, mz_34, sz_34, mz_35, sz_35, mz_36, sz_36, mz_39, sz_39, mz_40, sz_40, mz_43, sz_43, mz_44, sz_44, mz_45, sz_45, mz_63, sz_63, mz_69, sz_69, mz_70, sz_70, mz_71, sz_71, mz_74, sz_74, mz_77, sz_77, mz_78, sz_78, mz_79, sz_79, mz_83, sz_83, mz_84, sz_84, mz_85, sz_85, mz_86, sz_86, mz_87, sz_87, mz_88, sz_88, mz_89, sz_89, mz_90, sz_90, mz_91, sz_91, mz_92, sz_92, mz_93, sz_93, mz_94, sz_94, mz_95, sz_95, mz_96, sz_96, mz_97, sz_97, mz_98, sz_98, mz_99, sz_99, mz_100, sz_100, mz_101, sz_101, mz_102, sz_102, mz_103, sz_103, mz_104, sz_104, mz_105, sz_105, mz_106, sz_106, mz_107, sz_107, mz_108, sz_108, mz_109, sz_109, mz_110, sz_110, mz_111, sz_111, mz_112, sz_112, mz_113, sz_113, mz_114, sz_114, mz_115, sz_115, mz_116, sz_116, mz_117, sz_117, mz_118, sz_118, mz_119, sz_119, mz_120, sz_120, mz_121, sz_121, mz_122, sz_122, mz_123, sz_123, mz_124, sz_124, mz_125, sz_125, mz_126, sz_126, mz_127, sz_127, mz_128, sz_128, Nat.add_zero, Option.toList, List.cons_append, List.nil_append])
      exact am_br_t (by decide) (hn (fun q => c3 q.2.1))
  · (show am_W G (am_M G (d + 2)) 87 K _ _ _ _ _ _; simp only [u_87_0, u_87_1, u_87_2, u_87_3, u_87_6, u_87_9, u_87_10, u_87_11, u_87_13, u_87_16, u_87_19, u_87_20, u_87_21, u_87_23, u_87_26, u_87_29, u_87_30, u_87_33, u_87_34, f_gf_some, f_gv_some, f_pf_some, f_ia_some, f_la_some, f_aa_some, f_is_some, f_ls_some, f_rc_some, f_at0, f_atS, f_st_0, f_st_1i, f_st_1r, f_st_1l, f_st_1n, f_st_S, f_s2_0, f_s2_1i, f_s2_1r, f_s2_1l, f_s2_1n, f_s2_S, true_and, and_true, List.set_cons_zero, List.set_cons_succ, List.length_cons, List.length_nil, Nat.reduceAdd, Nat.reduceEqDiff, reduceIte, Nat.left_eq_add, Nat.add_eq_left, Nat.reduceLT, nz_0, mz_7, sz_7, mz_8, sz_8, mz_9, sz_9, mz_10, sz_10, mz_11, sz_11, mz_12, sz_12, mz_13, sz_13, mz_14, sz_14, mz_15, sz_15, mz_16, sz_16, mz_17, sz_17, mz_18, sz_18, mz_19, sz_19, mz_20, sz_20, mz_21, sz_21, mz_22, sz_22, mz_23, sz_23, mz_24, sz_24, mz_25, sz_25, mz_26, sz_26, mz_27, sz_27, mz_28, sz_28, mz_29, sz_29, mz_30, sz_30, mz_31, sz_31, mz_32, sz_32, mz_33, sz_33, mz_34, sz_34, mz_35, sz_35, mz_36, sz_36, mz_39, sz_39, mz_40, sz_40, mz_43, sz_43, mz_44, sz_44, mz_45, sz_45, mz_63, sz_63, mz_69, sz_69, mz_70, sz_70, mz_71, sz_71, mz_74, sz_74, mz_77, sz_77, mz_78, sz_78, mz_79, sz_79, mz_83, sz_83, mz_84, sz_84, mz_85, sz_85, mz_86, sz_86, mz_87, sz_87, mz_88, sz_88, mz_89, sz_89, mz_90, sz_90, mz_91, sz_91, mz_92, sz_92, mz_93, sz_93, mz_94, sz_94, mz_95, sz_95, mz_96, sz_96, mz_97, sz_97, mz_98, sz_98, mz_99, sz_99, mz_100, sz_100, mz_101, sz_101, mz_102, sz_102, mz_103, sz_103, mz_104, sz_104, mz_105, sz_105, mz_106, sz_106, mz_107, sz_107, mz_108, sz_108, mz_109, sz_109, mz_110, sz_110, mz_111, sz_111, mz_112, sz_112, mz_113, sz_113, mz_114, sz_114, mz_115, sz_115, mz_116, sz_116, mz_117, sz_117, mz_118, sz_118, mz_119, sz_119, mz_120, sz_120, mz_121, sz_121, mz_122, sz_122, mz_123, sz_123, mz_124, sz_124, mz_125, sz_125, mz_126, sz_126, mz_127, sz_127, mz_128, sz_128, Nat.add_zero, Option.toList, List.cons_append, List.nil_append])
    exact am_br_t (by decide) (hn (fun q => c1 (ho.mpr q.1)))
theorem r_at16 {x : Int32} (hk : K (.inl (some (.int (2400 + x)))) h) : am_M G (d + 1) 91 [.int x] h K := by
  refine n_91 ?_
  simp only [u_91_0, u_91_3, u_91_4, u_91_5, f_gf_some, f_gv_some, f_pf_some, f_ia_some, f_la_some, f_aa_some, f_is_some, f_ls_some, f_rc_some, f_at0, f_atS, f_st_0, f_st_1i, f_st_1r, f_st_1l, f_st_1n, f_st_S, f_s2_0, f_s2_1i, f_s2_1r, f_s2_1l, f_s2_1n, f_s2_S, true_and, and_true, List.set_cons_zero, List.set_cons_succ, List.length_cons, List.length_nil, Nat.reduceAdd, Nat.reduceEqDiff, reduceIte, Nat.left_eq_add, Nat.add_eq_left, Nat.reduceLT]
  exact hk
def putA (A : Nat → Nat → Int32) (k : Nat) (o a b : Int32) : Nat → Nat → Int32 := va_up (va_up (va_up A 0 (upd (A 0) k o)) 1 (upd (A 1) k a)) 2 (upd (A 2) k b)
set_option maxHeartbeats 1000000 in
theorem r_put (hi : am_inj ad) {c : Nat} {o a b : Int32} (hc : c < 150) (hM : MD ad h t m n p th wc wa A B)
    (hk : ∀ h', MD ad h' t m n p th wc wa (putA A (2400 + c) o a b) B → (∀ q, (q < 322 ∨ 349 ≤ q) → h' (ad q) = h (ad q)) → K (.inl (some (.int (if A 0 (2400 + c) = o ∧ A 1 (2400 + c) = a ∧ A 2 (2400 + c) = b then 0 else 1)))) h') : am_M G (d + 2) 90 [.ref (ad 322), .int (nI c), .int o, .int a, .int b] h K := by
  refine n_90 (d := d + 1) ?_
  simp only [u_90_0, u_90_1, u_90_4, u_90_6, u_90_7, u_90_10, u_90_12, u_90_13, u_90_14, u_90_17, u_90_18, u_90_21, u_90_23, u_90_24, u_90_25, u_90_28, u_90_29, u_90_32, u_90_34, u_90_35, u_90_37, u_90_40, u_90_41, u_90_44, u_90_45, u_90_47, u_90_48, u_90_51, u_90_53, u_90_54, u_90_55, u_90_56, u_90_59, u_90_61, u_90_62, u_90_63, u_90_64, u_90_67, u_90_69, u_90_71, u_90_72, u_90_74, f_gf_some, f_gv_some, f_pf_some, f_ia_some, f_la_some, f_aa_some, f_is_some, f_ls_some, f_rc_some, f_at0, f_atS, f_st_0, f_st_1i, f_st_1r, f_st_1l, f_st_1n, f_st_S, f_s2_0, f_s2_1i, f_s2_1r, f_s2_1l, f_s2_1n, f_s2_S, true_and, and_true, List.set_cons_zero, List.set_cons_succ, List.length_cons, List.length_nil, Nat.reduceAdd, Nat.reduceEqDiff, reduceIte, Nat.left_eq_add, Nat.add_eq_left, Nat.reduceLT, hM.1, MO]
  refine ⟨(by first | decide | exact ⟨Nat.le_of_ble_eq_true rfl, Nat.le_of_ble_eq_true rfl, Nat.le_of_ble_eq_true rfl⟩), r_at16 ?_⟩
  have hv : vp_in (nI (2400 + c)) 2550 := vp_in_nI (by omega) (by decide)
  have hcl : (nI (2400 + c)).toNatClampNeg = 2400 + c := nI_clamp (by omega)
  (show am_W G (am_M G (d + 1)) 90 K _ _ _ _ _ _; simp (disch := omega) only [u_90_0, u_90_1, u_90_4, u_90_6, u_90_7, u_90_10, u_90_12, u_90_13, u_90_14, u_90_17, u_90_18, u_90_21, u_90_23, u_90_24, u_90_25, u_90_28, u_90_29, u_90_32, u_90_34, u_90_35, u_90_37, u_90_40, u_90_41, u_90_44, u_90_45, u_90_47, u_90_48, u_90_51, u_90_53, u_90_54, u_90_55, u_90_56, u_90_59, u_90_61, u_90_62, u_90_63, u_90_64, u_90_67, u_90_69, u_90_71, u_90_72, u_90_74, f_gf_some, f_gv_some, f_pf_some, f_ia_some, f_la_some, f_aa_some, f_is_some, f_ls_some, f_rc_some, f_at0, f_atS, f_st_0, f_st_1i, f_st_1r, f_st_1l, f_st_1n, f_st_S, f_s2_0, f_s2_1i, f_s2_1r, f_s2_1l, f_s2_1n, f_s2_S, true_and, and_true, List.set_cons_zero, List.set_cons_succ, List.length_cons, List.length_nil, Nat.reduceAdd, Nat.reduceEqDiff, reduceIte, Nat.left_eq_add, Nat.add_eq_left, Nat.reduceLT, hM.1, MO, hM.a0, hM.a1, hM.a2, hM.a3, hM.a4, hM.a5, hM.a6, hM.a7, hM.a8, hM.a9, hM.a10, hM.a11, hM.a12, hM.a13, hM.a14, hM.a15, hM.a16, hM.a17, hM.a18, hM.a19, hM.a20, hM.a21, hM.b0, hM.b1, hM.b2, hM.b3, n2400, hv, hcl, nz_0, nz_1, s_ne hi, s_eq, mz_7, sz_7, mz_8, sz_8, mz_9, sz_9, mz_10, sz_10, mz_11, sz_11, mz_12, sz_12, mz_13, sz_13, mz_14, sz_14, mz_15, sz_15, mz_16, sz_16, mz_17, sz_17, mz_18, sz_18, mz_19, sz_19, mz_20, sz_20, mz_21, sz_21, mz_22, sz_22, mz_23, sz_23, mz_24, sz_24, mz_25, sz_25, mz_26, sz_26, mz_27, sz_27, mz_28, sz_28, mz_29, sz_29, mz_30, sz_30, mz_31, sz_31, mz_32, sz_32, mz_33, sz_33, mz_34, sz_34, mz_35, sz_35, mz_36, sz_36, mz_39, sz_39, mz_40, sz_40, mz_43, sz_43, mz_44, sz_44, mz_45, sz_45, mz_63, sz_63, mz_69, sz_69, mz_70, sz_70, mz_71, sz_71, mz_74, sz_74, mz_77, sz_77, mz_78, sz_78, mz_79, sz_79, mz_83, sz_83, mz_84, sz_84, mz_85, sz_85, mz_86, sz_86, mz_87, sz_87, mz_88, sz_88, mz_89, sz_89, mz_90, sz_90, mz_91, sz_91, mz_92, sz_92, mz_93, sz_93, mz_94, sz_94, mz_95, sz_95, mz_96, sz_96, mz_97, sz_97, mz_98, sz_98, mz_99, sz_99, mz_100, sz_100, mz_101, sz_101, mz_102, sz_102, mz_103, sz_103, mz_104, sz_104, mz_105, sz_105, mz_106, sz_106, mz_107, sz_107, mz_108, sz_108, mz_109, sz_109, mz_110, sz_110, mz_111, sz_111, mz_112, sz_112, mz_113, sz_113, mz_114, sz_114, mz_115, sz_115, mz_116, sz_116, mz_117, sz_117, mz_118, sz_118, mz_119, sz_119, mz_120, sz_120, mz_121, sz_121, mz_122, sz_122, mz_123, sz_123, mz_124, sz_124, mz_125, sz_125, mz_126, sz_126, mz_127, sz_127, mz_128, sz_128, Nat.add_zero, Option.toList, List.cons_append, List.nil_append])
  have fin := fun r (hr : r = (if A 0 (2400 + c) = o ∧ A 1 (2400 + c) = a ∧ A 2 (2400 + c) = b then (0 : Int32) else 1)) => hr ▸ hk _ (((hM.s0 hi (upd (A 0) (2400 + c) o)).s1 hi (upd (A 1) (2400 + c) a)).s2 hi (upd (A 2) (2400 + c) b)) (fun q hq => by rw [s_ne hi (by omega), s_ne hi (by omega), s_ne hi (by omega)])
  refine ⟨fun c1 => fin 1 ?_, fun c1 => ⟨fun c2 => fin 1 ?_, fun c2 => ⟨fun c3 => fin 0 ?_, fun c3 => fin 1 ?_⟩⟩⟩
  · rw [if_neg (fun q => c1 q.1)]
  · rw [if_neg (fun q => c2 q.2.1)]
  · rw [if_pos ⟨Decidable.not_not.mp c1, Decidable.not_not.mp c2, c3⟩]
  · rw [if_neg (fun q => c3 q.2.2)]
end Rb

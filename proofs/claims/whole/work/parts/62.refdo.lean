-- what the reference does
theorem all9 {P : Nat → Prop} (h0 : P 0) (h1 : P 1) (h2 : P 2) (h3 : P 3) (h4 : P 4) (h5 : P 5) (h6 : P 6) (h7 : P 7) (h8 : P 8) : ∀ k, k < 9 → P k
  | 0, _ => h0
  | 1, _ => h1
  | 2, _ => h2
  | 3, _ => h3
  | 4, _ => h4
  | 5, _ => h5
  | 6, _ => h6
  | 7, _ => h7
  | 8, _ => h8
  | _ + 9, h => by omega
theorem all3 {P : Nat → Prop} (h0 : P 0) (h1 : P 1) (h2 : P 2) : ∀ k, k < 3 → P k
  | 0, _ => h0
  | 1, _ => h1
  | 2, _ => h2
  | _ + 3, h => by omega
/-- slices that are the same but in row k of ints -/
def sameI (z z' : Sl) (k : Nat) : Prop := (∀ k', k' < 9 → k' ≠ k → sI z' k' = sI z k') ∧ (∀ k', k' < 3 → sL z' k' = sL z k') ∧ sl_src z' = sl_src z
def sameL (z z' : Sl) (k : Nat) : Prop := (∀ k', k' < 9 → sI z' k' = sI z k') ∧ (∀ k', k' < 3 → k' ≠ k → sL z' k' = sL z k') ∧ sl_src z' = sl_src z
theorem Rq.sA' {A : Nat → Nat → Int32} {B : Nat → Nat → Int64} {z : Sl} {j : Nat} {x : Int32} (k : Nat) (z' : Sl) (h : Rq A B 16 z) (hj : j < 150) (h1 : k < 9 → sI z' k = upd (sI z k) j x) (h2 : sameI z z' k) : Rq (va_up A k (upd (A k) (2400 + j) x)) B 16 z' := h.sA hj h1 h2.1 h2.2.1 h2.2.2
theorem Rq.sB' {A : Nat → Nat → Int32} {B : Nat → Nat → Int64} {z : Sl} {j : Nat} {x : Int64} (k : Nat) (z' : Sl) (h : Rq A B 16 z) (hk : k < 3) (h1 : sL z' k = vp_updL (sL z k) j x) (h2 : sameL z z' k) : Rq A (va_up B k (vp_updL (B k) (2400 + j) x)) 16 z' := h.sB hk h1 h2.1 h2.2.1 h2.2.2
theorem sm_o (z : Sl) (X : Nat → Int32) : sameI z (sl_F z X (sl_a z) (sl_b z)) 0 := ⟨all9 (fun q => absurd rfl q) (fun _ => rfl) (fun _ => rfl) (fun _ => rfl) (fun _ => rfl) (fun _ => rfl) (fun _ => rfl) (fun _ => rfl) (fun _ => rfl), all3 rfl rfl rfl, rfl⟩
theorem sm_a (z : Sl) (X : Nat → Int32) : sameI z (sl_F z (sl_o z) X (sl_b z)) 1 := ⟨all9 (fun _ => rfl) (fun q => absurd rfl q) (fun _ => rfl) (fun _ => rfl) (fun _ => rfl) (fun _ => rfl) (fun _ => rfl) (fun _ => rfl) (fun _ => rfl), all3 rfl rfl rfl, rfl⟩
theorem sm_b (z : Sl) (X : Nat → Int32) : sameI z (sl_F z (sl_o z) (sl_a z) X) 2 := ⟨all9 (fun _ => rfl) (fun _ => rfl) (fun q => absurd rfl q) (fun _ => rfl) (fun _ => rfl) (fun _ => rfl) (fun _ => rfl) (fun _ => rfl) (fun _ => rfl), all3 rfl rfl rfl, rfl⟩
theorem sm_told (z : Sl) (X : Nat → Int32) : sameI z (sl_told' z X) 3 := ⟨all9 (fun _ => rfl) (fun _ => rfl) (fun _ => rfl) (fun q => absurd rfl q) (fun _ => rfl) (fun _ => rfl) (fun _ => rfl) (fun _ => rfl) (fun _ => rfl), all3 rfl rfl rfl, rfl⟩
theorem sm_st (z : Sl) (X : Nat → Int32) : sameI z (sl_st' z X) 4 := ⟨all9 (fun _ => rfl) (fun _ => rfl) (fun _ => rfl) (fun _ => rfl) (fun q => absurd rfl q) (fun _ => rfl) (fun _ => rfl) (fun _ => rfl) (fun _ => rfl), all3 rfl rfl rfl, rfl⟩
theorem sm_wo (z : Sl) (X : Nat → Int32) : sameI z (sl_W z X (sl_wa z) (sl_wb z)) 5 := ⟨all9 (fun _ => rfl) (fun _ => rfl) (fun _ => rfl) (fun _ => rfl) (fun _ => rfl) (fun q => absurd rfl q) (fun _ => rfl) (fun _ => rfl) (fun _ => rfl), all3 rfl rfl rfl, rfl⟩
theorem sm_wa (z : Sl) (X : Nat → Int32) : sameI z (sl_W z (sl_wo z) X (sl_wb z)) 6 := ⟨all9 (fun _ => rfl) (fun _ => rfl) (fun _ => rfl) (fun _ => rfl) (fun _ => rfl) (fun _ => rfl) (fun q => absurd rfl q) (fun _ => rfl) (fun _ => rfl), all3 rfl rfl rfl, rfl⟩
theorem sm_wb (z : Sl) (X : Nat → Int32) : sameI z (sl_W z (sl_wo z) (sl_wa z) X) 7 := ⟨all9 (fun _ => rfl) (fun _ => rfl) (fun _ => rfl) (fun _ => rfl) (fun _ => rfl) (fun _ => rfl) (fun _ => rfl) (fun q => absurd rfl q) (fun _ => rfl), all3 rfl rfl rfl, rfl⟩
theorem sm_wt (z : Sl) (X : Nat → Int32) : sameI z (sl_wt' z X) 8 := ⟨all9 (fun _ => rfl) (fun _ => rfl) (fun _ => rfl) (fun _ => rfl) (fun _ => rfl) (fun _ => rfl) (fun _ => rfl) (fun _ => rfl) (fun q => absurd rfl q), all3 rfl rfl rfl, rfl⟩
theorem sm_num (z : Sl) (X : Nat → Int64) : sameL z (sl_num' z X) 0 := ⟨all9 rfl rfl rfl rfl rfl rfl rfl rfl rfl, all3 (fun q => absurd rfl q) (fun _ => rfl) (fun _ => rfl), rfl⟩
theorem sm_wf (z : Sl) (X : Nat → Int64) : sameL z (sl_wf' z X) 1 := ⟨all9 rfl rfl rfl rfl rfl rfl rfl rfl rfl, all3 (fun _ => rfl) (fun q => absurd rfl q) (fun _ => rfl), rfl⟩
theorem sm_ws (z : Sl) (X : Nat → Int64) : sameL z (sl_ws' z X) 2 := ⟨all9 rfl rfl rfl rfl rfl rfl rfl rfl rfl, all3 (fun _ => rfl) (fun _ => rfl) (fun q => absurd rfl q), rfl⟩
theorem Rq.put {A : Nat → Nat → Int32} {B : Nat → Nat → Int64} {z : Sl} {j : Nat} {o a b : Int32} (h : Rq A B 16 z) (hj : j < 150) : Rq (putA A (2400 + j) o a b) B 16 (sl_F z (upd (sl_o z) j o) (upd (sl_a z) j a) (upd (sl_b z) j b)) := by
  have r1 := h.sA' 0 (sl_F z (upd (sl_o z) j o) (sl_a z) (sl_b z)) hj (fun _ => rfl) (sm_o z _)
  have r2 := r1.sA' 1 (sl_F z (upd (sl_o z) j o) (upd (sl_a z) j a) (sl_b z)) hj (fun _ => rfl) (sm_a _ _)
  exact r2.sA' 2 (sl_F z (upd (sl_o z) j o) (upd (sl_a z) j a) (upd (sl_b z) j b)) hj (fun _ => rfl) (sm_b _ _)
def lowA (A A' : Nat → Nat → Int32) : Prop := ∀ k, k < 10 → ∀ x, x < 2400 → A' k x = A k x
def lowB (B B' : Nat → Nat → Int64) : Prop := (∀ k, k < 3 → ∀ x, x < 2400 → B' k x = B k x) ∧ ∀ x, x < 960 → B' 3 x = B 3 x
theorem lowA.rf (A : Nat → Nat → Int32) : lowA A A := fun _ _ _ _ => rfl
theorem lowB.rf (B : Nat → Nat → Int64) : lowB B B := ⟨fun _ _ _ _ => rfl, fun _ _ => rfl⟩
theorem lowA.up {A A' : Nat → Nat → Int32} (h : lowA A A') (k j : Nat) (v : Int32) : lowA A (va_up A' k (upd (A' k) (2400 + j) v)) := fun k' hk x hx => by
  by_cases e : k' = k
  · subst e; rw [va_up_self, pk_un (by omega)]; exact h k' hk x hx
  · rw [va_up_ne _ _ e]; exact h k' hk x hx
theorem lowA.hi {A A' : Nat → Nat → Int32} (h : lowA A A') (k : Nat) (hk : 10 ≤ k) (X : Nat → Int32) : lowA A (va_up A' k X) := fun k' hk' x hx => by
  rw [va_up_ne _ _ (by omega)]; exact h k' hk' x hx
theorem lowB.up {B B' : Nat → Nat → Int64} (h : lowB B B') (k j : Nat) (hk3 : k < 3) (v : Int64) : lowB B (va_up B' k (vp_updL (B' k) (2400 + j) v)) := ⟨fun k' hk x hx => by
  by_cases e : k' = k
  · subst e; rw [va_up_self, pk_uLn (by omega)]; exact h.1 k' hk x hx
  · rw [va_up_ne _ _ e]; exact h.1 k' hk x hx, fun x hx => by rw [va_up_ne _ _ (by omega)]; exact h.2 x hx⟩
theorem lowB.src {B : Nat → Nat → Int64} (j : Nat) (v : Int64) : lowB B (va_up B 3 (vp_updL (B 3) (960 + j) v)) := ⟨fun k' hk x hx => by rw [va_up_ne _ _ (by omega)], fun x hx => by rw [va_up_self, pk_uLn (by omega)]⟩
theorem lowA.put (A : Nat → Nat → Int32) (j : Nat) (o a b : Int32) : lowA A (putA A (2400 + j) o a b) := (((lowA.rf A).up 0 j o).up 1 j a).up 2 j b
theorem HQ.lo {n th : Nat} {A A' : Nat → Nat → Int32} {B B' : Nat → Nat → Int64} {H : Nat → Sl} (h : HQ n A B th H) (hth : th ≤ 16) (hn : n ≤ 150) (e : lowA A A') (e2 : lowB B B') : HQ n A' B' th H := h.low hth hn ⟨e, e2.1, e2.2⟩
theorem putA_hi {A : Nat → Nat → Int32} {k x : Nat} {o a b : Int32} (hk : 3 ≤ k) : putA A x o a b k = A k := by
  unfold putA; rw [va_up_ne _ _ (by omega), va_up_ne _ _ (by omega), va_up_ne _ _ (by omega)]
theorem RC.eq {A A' : Nat → Nat → Int32} {pc : Nat} {C : Nat → Nat × FT × FT} (h : RC A pc C) (e : ∀ k, 10 ≤ k → k < 17 → A' k = A k) : RC A' pc C := by
  intro p hp
  rw [e 10 (by decide) (by decide), e 11 (by decide) (by decide), e 12 (by decide) (by decide), e 13 (by decide) (by decide), e 14 (by decide) (by decide), e 15 (by decide) (by decide), e 16 (by decide) (by decide)]
  exact h p hp
theorem Rq.setsrc {A : Nat → Nat → Int32} {B : Nat → Nat → Int64} {z : Sl} {j : Nat} {v : Int64} (h : Rq A B 16 z) : Rq A (va_up B 3 (vp_updL (B 3) (960 + j) v)) 16 (sl_src' z (vp_updL (sl_src z) j v)) := by
  obtain ⟨h1, h2, h3⟩ := h
  refine ⟨fun k hk i hi => (h1 k hk i hi).trans (congrFun (all9 (P := fun k => sI z k = sI (sl_src' z (vp_updL (sl_src z) j v)) k) rfl rfl rfl rfl rfl rfl rfl rfl rfl k hk) i), fun k hk i hi => ?_, fun i hi => ?_⟩
  · rw [va_up_ne _ _ (by omega)]
    exact (h2 k hk i hi).trans (congrFun (all3 (P := fun k => sL z k = sL (sl_src' z (vp_updL (sl_src z) j v)) k) rfl rfl rfl k hk) i)
  · rw [va_up_self]
    show vp_updL (B 3) (960 + j) v (960 + i) = vp_updL (sl_src z) j v i
    by_cases e : i = j
    · subst e; exact pk_uLs.trans pk_uLs.symm
    · rw [pk_uLn e, pk_uLn (by omega)]; exact h3 i hi
section Do
variable {G : am_G} {d : Nat} {K : am_K} {ad : Nat → Nat} {h : am_H} {t : Int32} {n m : Nat} {z : Sl} {H : Nat → Sl} {th pc : Nat} {C : Nat → Nat × FT × FT} {wc : Nat} {wl : Nat → Int32} {wa : Int32}
theorem r_source (hi : am_inj ad) {v : Int64} (hm : m ≤ 60) (hR : RW ad h t n m z H th pc C wc wl wa)
    (hk : m < 60 → ∀ h', RW ad h' 0 n (m + 1) (sl_src' z (vp_updL (sl_src z) m v)) H 0 pc C wc wl wa → fr322 ad h h' → K (.inl (some (.int (nI m)))) h') (hno : ¬ m < 60 → ∀ h', RW ad h' 1 n m z H th pc C wc wl wa → fr322 ad h h' → K (.inl (some (.int 0))) h') : am_M G (d + 2) 84 [.ref (ad 322), .long v] h K := by
  refine n_84 (d := d + 1) ?_
  obtain ⟨A, B, hM, q1, q2, q3, q4, q5⟩ := hR
  have M' := hM.so hi 0 m n pc th wc wa
  rw [u_84_0, u_84_1, u_84_2]
  simp only [f_pf_some, hM.1, MO, List.length_cons, List.length_nil, Nat.reduceAdd, Nat.reduceLT, true_and, List.set_cons_zero]
  have FR' : fr322 ad h (am_set h (ad 322) (MO ad 0 m n pc th wc wa)) := fun q hq => s_ne hi (by omega)
  rw [MO] at M' FR'
  generalize am_set h (ad 322) _ = h1 at M' FR' ⊢
  simp only [u_84_0, u_84_1, u_84_2, u_84_5, u_84_6, u_84_9, u_84_11, u_84_14, u_84_15, u_84_16, u_84_19, u_84_21, u_84_24, u_84_27, u_84_28, u_84_31, u_84_32, u_84_33, u_84_34, u_84_35, u_84_36, u_84_39, u_84_40, u_84_41, u_84_44, u_84_45, u_84_46, u_84_49, u_84_50, u_84_53, u_84_54, u_84_55, f_gf_some, f_gv_some, f_pf_some, f_ia_some, f_la_some, f_aa_some, f_is_some, f_ls_some, f_rc_some, f_at0, f_atS, f_st_0, f_st_1i, f_st_1r, f_st_1l, f_st_1n, f_st_S, f_s2_0, f_s2_1i, f_s2_1r, f_s2_1l, f_s2_1n, f_s2_S, true_and, and_true, List.set_cons_zero, List.set_cons_succ, List.length_cons, List.length_nil, Nat.reduceAdd, Nat.reduceEqDiff, reduceIte, Nat.left_eq_add, Nat.add_eq_left, Nat.reduceLT, M'.1, MO]
  refine ⟨fun c => ?_, fun c => ⟨(by first | decide | exact ⟨Nat.le_of_ble_eq_true rfl, Nat.le_of_ble_eq_true rfl, Nat.le_of_ble_eq_true rfl⟩), r_wrong hi M' (fun h2 M2 FR2 => ?_)⟩⟩
  · have hm2 : m < 60 := Decidable.byContradiction fun q => c (by rw [show m = 60 by omega]; rfl)
    have hv : vp_in (nI (960 + m)) 1020 := vp_in_nI (by omega) (by decide)
    have hcl : (nI (960 + m)).toNatClampNeg = 960 + m := nI_clamp (by omega)
    have e9 : nI (m + 1) - 1 = nI m := nI_pred m
    simp (disch := omega) only [u_84_0, u_84_1, u_84_2, u_84_5, u_84_6, u_84_9, u_84_11, u_84_14, u_84_15, u_84_16, u_84_19, u_84_20, u_84_21, u_84_24, u_84_27, u_84_28, u_84_31, u_84_32, u_84_33, u_84_34, u_84_35, u_84_36, u_84_39, u_84_40, u_84_41, u_84_44, u_84_45, u_84_46, u_84_49, u_84_50, u_84_53, u_84_54, u_84_55, f_gf_some, f_gv_some, f_pf_some, f_ia_some, f_la_some, f_aa_some, f_is_some, f_ls_some, f_rc_some, f_at0, f_atS, f_st_0, f_st_1i, f_st_1r, f_st_1l, f_st_1n, f_st_S, f_s2_0, f_s2_1i, f_s2_1r, f_s2_1l, f_s2_1n, f_s2_S, true_and, and_true, List.set_cons_zero, List.set_cons_succ, List.length_cons, List.length_nil, Nat.reduceAdd, Nat.reduceEqDiff, reduceIte, Nat.left_eq_add, Nat.add_eq_left, Nat.reduceLT, M'.1, MO, M'.a0, M'.a1, M'.a2, M'.a3, M'.a4, M'.a5, M'.a6, M'.a7, M'.a8, M'.a9, M'.a10, M'.a11, M'.a12, M'.a13, M'.a14, M'.a15, M'.a16, M'.a17, M'.a18, M'.a19, M'.a20, M'.a21, M'.b0, M'.b1, M'.b2, M'.b3, n960, hv, hcl, i1, e9, s_ne hi, s_eq]
    exact hk hm2 _ ⟨A, _, ((M'.l3 hi (vp_updL (B 3) (960 + m) v)).so hi 0 (m + 1) n pc th wc wa).so hi 0 (m + 1) n pc 0 wc wa, q1.setsrc, q2, fun u hu => absurd hu (Nat.not_lt_zero u), q4, q5⟩ (fun q hq => by rw [s_ne hi (by omega), s_ne hi (by omega), s_ne hi (by omega)]; exact FR' q hq)
  · (show am_W G (am_M G (d + 1)) 84 K _ _ _ _ _ _; simp only [u_84_0, u_84_1, u_84_2, u_84_5, u_84_6, u_84_9, u_84_11, u_84_14, u_84_15, u_84_16, u_84_19, u_84_20, u_84_21, u_84_24, u_84_27, u_84_28, u_84_31, u_84_32, u_84_33, u_84_34, u_84_35, u_84_36, u_84_39, u_84_40, u_84_41, u_84_44, u_84_45, u_84_46, u_84_49, u_84_50, u_84_53, u_84_54, u_84_55, f_gf_some, f_gv_some, f_pf_some, f_ia_some, f_la_some, f_aa_some, f_is_some, f_ls_some, f_rc_some, f_at0, f_atS, f_st_0, f_st_1i, f_st_1r, f_st_1l, f_st_1n, f_st_S, f_s2_0, f_s2_1i, f_s2_1r, f_s2_1l, f_s2_1n, f_s2_S, true_and, and_true, List.set_cons_zero, List.set_cons_succ, List.length_cons, List.length_nil, Nat.reduceAdd, Nat.reduceEqDiff, reduceIte, Nat.left_eq_add, Nat.add_eq_left, Nat.reduceLT, mz_7, sz_7, mz_8, sz_8, mz_9, sz_9, mz_10, sz_10, mz_11, sz_11, mz_12, sz_12, mz_13, sz_13, mz_14, sz_14, mz_15, sz_15, mz_16, sz_16, mz_17, sz_17, mz_18, sz_18, mz_19, sz_19, mz_20, sz_20, mz_21, sz_21, mz_22, sz_22, mz_23, sz_23, mz_24, sz_24, mz_25, sz_25, mz_26, sz_26, mz_27, sz_27, mz_28, sz_28, mz_29, sz_29, mz_30, sz_30, mz_31, sz_31, mz_32, sz_32, mz_33, sz_33, mz_34, sz_34, mz_35, sz_35, mz_36, sz_36, mz_39, sz_39, mz_40, sz_40, mz_43, sz_43, mz_44, sz_44, mz_45, sz_45, mz_63, sz_63, mz_69, sz_69, mz_70, sz_70, mz_71, sz_71, mz_74, sz_74, mz_77, sz_77, mz_78, sz_78, mz_79, sz_79, mz_83, sz_83, mz_84, sz_84, mz_85, sz_85, mz_86, sz_86, mz_87, sz_87, mz_88, sz_88, mz_89, sz_89, mz_90, sz_90, mz_91, sz_91, mz_92, sz_92, mz_93, sz_93, mz_94, sz_94, mz_95, sz_95, mz_96, sz_96, mz_97, sz_97, mz_98, sz_98, mz_99, sz_99, mz_100, sz_100, mz_101, sz_101, mz_102, sz_102, mz_103, sz_103, mz_104, sz_104, mz_105, sz_105, mz_106, sz_106, mz_107, sz_107, mz_108, sz_108, mz_109, sz_109, mz_110, sz_110, mz_111, sz_111, mz_112, sz_112, mz_113, sz_113, mz_114, sz_114, mz_115, sz_115, mz_116, sz_116, mz_117, sz_117, mz_118, sz_118, mz_119, sz_119, mz_120, sz_120, mz_121, sz_121, mz_122, sz_122, mz_123, sz_123, mz_124, sz_124, mz_125, sz_125, mz_126, sz_126, mz_127, sz_127, mz_128, sz_128, Nat.add_zero, Option.toList, List.cons_append, List.nil_append])
    have e : m = 60 := (nI_eq (b := 60) (by omega) (by decide)).mp (Decidable.not_not.mp c)
    exact hno (by omega) h2 ⟨A, B, M2, q1, q2, q3, q4, q5⟩ (fun q hq => (FR2 q (by omega)).trans (FR' q hq))
end Do

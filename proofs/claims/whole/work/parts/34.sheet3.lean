-- a cell is worked; sources and cells are added
theorem FO.put {ad : Nat → Nat} (hi : am_inj ad) {h : am_H} {f n : Nat} {o a b : Nat → Int32} (hF : FO ad h f n o a b) (j : Nat) (x y z : Int32) : FO ad (FO_put ad h f o a b j x y z) f n (upd o j x) (upd a j y) (upd b j z) := by
  obtain ⟨h1, h2, h3, h4⟩ := hF
  unfold FO_put
  refine ⟨?_, ?_, ?_, s_eq⟩
  · rw [s_ne hi (by omega), s_ne hi (by omega), s_ne hi (by omega)]; exact h1
  · rw [s_ne hi (by omega), s_ne hi (by omega)]; exact s_eq
  · rw [s_ne hi (by omega)]; exact s_eq
theorem FO_put_ne {ad : Nat → Nat} (hi : am_inj ad) {h : am_H} {f : Nat} {o a b : Nat → Int32} {j : Nat} {x y z : Int32} {p : Nat} (hp : p < f ∨ f + 4 ≤ p) : FO_put ad h f o a b j x y z (ad p) = h (ad p) := by
  unfold FO_put
  rw [s_ne hi (by omega), s_ne hi (by omega), s_ne hi (by omega)]
theorem nar_z {x : Int32} (hx : x = 0 ∨ x = 1) : vp_nar .boolean x = x := by
  rcases hx with rfl | rfl <;> decide
theorem inSH.out {s f t p : Nat} (hp : ¬ inSH s f t p) : p ≠ s ∧ (p < f ∨ f + 4 ≤ p) ∧ (p < t ∨ t + 11 ≤ p) :=
  ⟨fun q => hp (Or.inl q), Decidable.byContradiction fun q => hp (Or.inr (Or.inl ⟨by omega, by omega⟩)), Decidable.byContradiction fun q => hp (Or.inr (Or.inr ⟨by omega, by omega⟩))⟩
section Sh3
variable {G : am_G} {d : Nat} {K : am_K} {h : am_H} {ad : Nat → Nat} {s f t n m w : Nat} {z : Sl}
/-- what a cell was worked with -/
def wrk0 (z : Sl) (j : Nat) : Sl :=
  sl_ws' (sl_wf' (sl_wt' (sl_W z (upd (sl_wo z) j (sl_o z j)) (upd (sl_wa z) j (sl_a z j)) (upd (sl_wb z) j (sl_b z j))) (upd (sl_wt z) j (sl_told z j))) (vp_updL (sl_wf z) j (nof z (sl_a z j)))) (vp_updL (sl_ws z) j (nof z (sl_b z j)))
def flg (z : Sl) (j : Nat) : Prop := sl_told z j = 1 ∨ (sl_o z j = 3 ∧ nof z (sl_b z j) = 0)
def wrk1 (z : Sl) (j : Nat) : Sl := sl_st' (wrk0 z j) (upd (sl_st z) j 1)
def wrk2 (z : Sl) (j : Nat) : Sl := sl_num' (sl_st' (wrk0 z j) (upd (sl_st z) j 0)) (vp_updL (sl_num z) j (calcv (sl_o z j) (nof z (sl_a z j)) (nof z (sl_b z j))))
set_option maxHeartbeats 4000000 in
theorem c_work (hi : am_inj ad) {j : Nat} (hS : SH ad h s f t n m w z) (hj : j < 150) (ha : ¬ sl_a z j < 0 → vp_in (sl_a z j) 150) (ha2 : sl_a z j < 0 → vp_in (-1 - sl_a z j) 60) (hb : ¬ sl_b z j < 0 → vp_in (sl_b z j) 150) (hb2 : sl_b z j < 0 → vp_in (-1 - sl_b z j) 60)
    (hy : flg z j → ∀ h', SH ad h' s f t n m w (wrk1 z j) → (∀ p, ¬ inSH s f t p → h' (ad p) = h (ad p)) → K (.inl none) h') (hn : ¬ flg z j → ∀ h', SH ad h' s f t n m w (wrk2 z j) → (∀ p, ¬ inSH s f t p → h' (ad p) = h (ad p)) → K (.inl none) h') : am_M G (d + 3) 27 [.ref (ad s), .int (nI j)] h K := by
  refine n_27 (d := d + 2) ?_
  have hv : vp_in (nI j) 150 := vp_in_nI hj (by decide)
  have hc : (nI j).toNatClampNeg = j := nI_clamp (by omega)
  obtain ⟨⟨p1, p2, p3⟩, hF, hW, h3, h4, h5, h6, h7, h8, h9, h10, h11, h12⟩ := id hS
  simp only [u_27_0, u_27_1, u_27_4, u_27_7, u_27_8, u_27_9, u_27_10, u_27_11, u_27_12, u_27_15, u_27_18, u_27_19, u_27_20, u_27_23, u_27_24, u_27_25, u_27_26, u_27_29, u_27_32, u_27_33, u_27_34, u_27_37, u_27_39, u_27_40, u_27_43, u_27_44, u_27_45, u_27_48, u_27_51, u_27_52, u_27_55, u_27_56, u_27_57, u_27_60, u_27_61, u_27_62, u_27_63, u_27_64, u_27_67, u_27_68, u_27_69, u_27_70, u_27_71, u_27_74, u_27_75, u_27_77, u_27_78, u_27_79, u_27_82, u_27_83, u_27_84, u_27_87, u_27_88, u_27_89, u_27_92, u_27_94, u_27_95, u_27_96, u_27_99, u_27_100, u_27_103, u_27_104, u_27_105, u_27_106, u_27_109, u_27_110, u_27_113, u_27_114, u_27_115, u_27_116, u_27_117, u_27_120, u_27_121, u_27_122, u_27_123, u_27_125, u_27_128, u_27_129, f_gf_some, f_gv_some, f_pf_some, f_ia_some, f_la_some, f_aa_some, f_is_some, f_ls_some, f_rc_some, f_at0, f_atS, f_st_0, f_st_1i, f_st_1r, f_st_1l, f_st_1n, f_st_S, f_s2_0, f_s2_1i, f_s2_1r, f_s2_1l, f_s2_1n, f_s2_S, true_and, and_true, List.set_cons_zero, List.set_cons_succ, List.length_cons, List.length_nil, Nat.reduceAdd, Nat.reduceEqDiff, reduceIte, Nat.left_eq_add, Nat.add_eq_left, Nat.reduceLT, h3, SHo, hF.1, hF.2.1, hF.2.2.1, hv, hc]
  refine ⟨by decide, c_numberOf hS ha ha2 ?_⟩
  (show am_W G (am_M G (d + 2)) 27 K _ _ _ _ _ _; simp only [u_27_0, u_27_1, u_27_4, u_27_7, u_27_8, u_27_9, u_27_10, u_27_11, u_27_12, u_27_15, u_27_18, u_27_19, u_27_20, u_27_23, u_27_24, u_27_25, u_27_26, u_27_29, u_27_32, u_27_33, u_27_34, u_27_37, u_27_39, u_27_40, u_27_43, u_27_44, u_27_45, u_27_48, u_27_51, u_27_52, u_27_55, u_27_56, u_27_57, u_27_60, u_27_61, u_27_62, u_27_63, u_27_64, u_27_67, u_27_68, u_27_69, u_27_70, u_27_71, u_27_74, u_27_75, u_27_77, u_27_78, u_27_79, u_27_82, u_27_83, u_27_84, u_27_87, u_27_88, u_27_89, u_27_92, u_27_94, u_27_95, u_27_96, u_27_99, u_27_100, u_27_103, u_27_104, u_27_105, u_27_106, u_27_109, u_27_110, u_27_113, u_27_114, u_27_115, u_27_116, u_27_117, u_27_120, u_27_121, u_27_122, u_27_123, u_27_125, u_27_128, u_27_129, f_gf_some, f_gv_some, f_pf_some, f_ia_some, f_la_some, f_aa_some, f_is_some, f_ls_some, f_rc_some, f_at0, f_atS, f_st_0, f_st_1i, f_st_1r, f_st_1l, f_st_1n, f_st_S, f_s2_0, f_s2_1i, f_s2_1r, f_s2_1l, f_s2_1n, f_s2_S, true_and, and_true, List.set_cons_zero, List.set_cons_succ, List.length_cons, List.length_nil, Nat.reduceAdd, Nat.reduceEqDiff, reduceIte, Nat.left_eq_add, Nat.add_eq_left, Nat.reduceLT, h3, SHo, hF.1, hF.2.2.1, hF.2.2.2, hv, hc, Option.toList, List.cons_append, List.nil_append])
  refine ⟨by decide, c_numberOf hS hb hb2 ?_⟩
  (show am_W G (am_M G (d + 2)) 27 K _ _ _ _ _ _; simp only [u_27_0, u_27_1, u_27_4, u_27_7, u_27_8, u_27_9, u_27_10, u_27_11, u_27_12, u_27_15, u_27_18, u_27_19, u_27_20, u_27_23, u_27_24, u_27_25, u_27_26, u_27_29, u_27_32, u_27_33, u_27_34, u_27_37, u_27_39, u_27_40, u_27_43, u_27_44, u_27_45, u_27_48, u_27_51, u_27_52, u_27_55, u_27_56, u_27_57, u_27_60, u_27_61, u_27_62, u_27_63, u_27_64, u_27_67, u_27_68, u_27_69, u_27_70, u_27_71, u_27_74, u_27_75, u_27_77, u_27_78, u_27_79, u_27_82, u_27_83, u_27_84, u_27_87, u_27_88, u_27_89, u_27_92, u_27_94, u_27_95, u_27_96, u_27_99, u_27_100, u_27_103, u_27_104, u_27_105, u_27_106, u_27_109, u_27_110, u_27_113, u_27_114, u_27_115, u_27_116, u_27_117, u_27_120, u_27_121, u_27_122, u_27_123, u_27_125, u_27_128, u_27_129, f_gf_some, f_gv_some, f_pf_some, f_ia_some, f_la_some, f_aa_some, f_is_some, f_ls_some, f_rc_some, f_at0, f_atS, f_st_0, f_st_1i, f_st_1r, f_st_1l, f_st_1n, f_st_S, f_s2_0, f_s2_1i, f_s2_1r, f_s2_1l, f_s2_1n, f_s2_S, true_and, and_true, List.set_cons_zero, List.set_cons_succ, List.length_cons, List.length_nil, Nat.reduceAdd, Nat.reduceEqDiff, reduceIte, Nat.left_eq_add, Nat.add_eq_left, Nat.reduceLT, h3, SHo, hW.1, hv, hc, Option.toList, List.cons_append, List.nil_append])
  refine ⟨by decide, c_takeOne hi hW hF hj ?_⟩
  have R1 : SH ad (FO_put ad h (t + 4) (sl_wo z) (sl_wa z) (sl_wb z) j (sl_o z j) (sl_a z j) (sl_b z j)) s f t n m w (sl_W z (upd (sl_wo z) j (sl_o z j)) (upd (sl_wa z) j (sl_a z j)) (upd (sl_wb z) j (sl_b z j))) := hS.set_W (hW.put hi _ _ _ _) (fun p hp => FO_put_ne hi hp)
  have FR1 : ∀ p, ¬ inSH s f t p → FO_put ad h (t + 4) (sl_wo z) (sl_wa z) (sl_wb z) j (sl_o z j) (sl_a z j) (sl_b z j) (ad p) = h (ad p) := fun p hp => FO_put_ne hi (by have := inSH.out hp; omega)
  generalize FO_put ad h (t + 4) (sl_wo z) (sl_wa z) (sl_wb z) j (sl_o z j) (sl_a z j) (sl_b z j) = q1 at R1 FR1 ⊢
  have R2 := ((R1.set_wt hi (upd (sl_wt z) j (sl_told z j)) (h12.upd j (h11 j))).set_wf hi (vp_updL (sl_wf z) j (nof z (sl_a z j)))).set_ws hi (vp_updL (sl_ws z) j (nof z (sl_b z j)))
  have g3 := R1.2.2.2.1
  have g5 : q1 (ad (t + 1)) = some (.inl (.boolean, 150, .inl (sl_told z))) := R1.2.2.2.2.2.1
  have g6 : q1 (ad (t + 2)) = some (.inl (.int, 150, .inl (sl_st z))) := R1.2.2.2.2.2.2.1
  have g7 : q1 (ad (t + 3)) = some (.inl (.long, 150, .inr (.inl (sl_num z)))) := R1.2.2.2.2.2.2.2.1
  have g8 : q1 (ad (t + 8)) = some (.inl (.boolean, 150, .inl (sl_wt z))) := R1.2.2.2.2.2.2.2.2.1
  have g9 : q1 (ad (t + 9)) = some (.inl (.long, 150, .inr (.inl (sl_wf z)))) := R1.2.2.2.2.2.2.2.2.2.1
  have g10 : q1 (ad (t + 10)) = some (.inl (.long, 150, .inr (.inl (sl_ws z)))) := R1.2.2.2.2.2.2.2.2.2.2.1
  have hnz := nar_z (h11 j)
  (show am_W G (am_M G (d + 2)) 27 K _ _ _ _ _ _; simp (disch := omega) only [u_27_0, u_27_1, u_27_4, u_27_7, u_27_8, u_27_9, u_27_10, u_27_11, u_27_12, u_27_15, u_27_18, u_27_19, u_27_20, u_27_23, u_27_24, u_27_25, u_27_26, u_27_29, u_27_32, u_27_33, u_27_34, u_27_37, u_27_39, u_27_40, u_27_43, u_27_44, u_27_45, u_27_48, u_27_51, u_27_52, u_27_55, u_27_56, u_27_57, u_27_60, u_27_61, u_27_62, u_27_63, u_27_64, u_27_67, u_27_68, u_27_69, u_27_70, u_27_71, u_27_74, u_27_75, u_27_77, u_27_78, u_27_79, u_27_82, u_27_83, u_27_84, u_27_87, u_27_88, u_27_89, u_27_92, u_27_94, u_27_95, u_27_96, u_27_99, u_27_100, u_27_103, u_27_104, u_27_105, u_27_106, u_27_109, u_27_110, u_27_113, u_27_114, u_27_115, u_27_116, u_27_117, u_27_120, u_27_121, u_27_122, u_27_123, u_27_125, u_27_128, u_27_129, f_gf_some, f_gv_some, f_pf_some, f_ia_some, f_la_some, f_aa_some, f_is_some, f_ls_some, f_rc_some, f_at0, f_atS, f_st_0, f_st_1i, f_st_1r, f_st_1l, f_st_1n, f_st_S, f_s2_0, f_s2_1i, f_s2_1r, f_s2_1l, f_s2_1n, f_s2_S, true_and, and_true, List.set_cons_zero, List.set_cons_succ, List.length_cons, List.length_nil, Nat.reduceAdd, Nat.reduceEqDiff, reduceIte, Nat.left_eq_add, Nat.add_eq_left, Nat.reduceLT, g3, SHo, g5, g6, g7, g8, g9, g10, hv, hc, hnz, s_ne hi, s_eq, Option.toList, List.cons_append, List.nil_append])
  have FR2 : ∀ p, ¬ inSH s f t p → am_set (am_set (am_set q1 (ad (t + 8)) (.inl (.boolean, 150, .inl (upd (sl_wt z) j (sl_told z j))))) (ad (t + 9)) (.inl (.long, 150, .inr (.inl (vp_updL (sl_wf z) j (nof z (sl_a z j))))))) (ad (t + 10)) (.inl (.long, 150, .inr (.inl (vp_updL (sl_ws z) j (nof z (sl_b z j)))))) (ad p) = h (ad p) := fun p hp => by
    have := inSH.out hp
    rw [s_ne hi (by omega), s_ne hi (by omega), s_ne hi (by omega)]; exact FR1 p hp
  clear FR1
  generalize am_set (am_set (am_set q1 (ad (t + 8)) (.inl (.boolean, 150, .inl (upd (sl_wt z) j (sl_told z j))))) (ad (t + 9)) (.inl (.long, 150, .inr (.inl (vp_updL (sl_wf z) j (nof z (sl_a z j))))))) (ad (t + 10)) (.inl (.long, 150, .inr (.inl (vp_updL (sl_ws z) j (nof z (sl_b z j)))))) = q2 at R2 FR2 ⊢
  have hT : flg z j → K (.inl none) (am_set q2 (ad (t + 2)) (.inl (.int, 150, .inl (upd (sl_st z) j 1)))) := fun c => hy c _ (R2.set_st hi (upd (sl_st z) j 1)) (fun p hp => by have := inSH.out hp; rw [s_ne hi (by omega)]; exact FR2 p hp)
  have hC : ¬ flg z j → ((am_words [.int (nI j), .ref (ad (t + 3))] ≤ 8 ∧ 0 + pg_mc 26 + pg_mc 26 + pg_mc 28 + 0 ≤ 0 ∧ 0 + pg_ms 26 + pg_ms 26 + pg_ms 28 + 0 ≤ 0) ∧ am_M G (d + 2) 30 [.int (sl_o z j), .long (nof z (sl_a z j)), .long (nof z (sl_b z j))] (am_set q2 (ad (t + 2)) (.inl (.int, 150, .inl (upd (sl_st z) j 0)))) (am_back 27 K (am_W G (am_M G (d + 2)) 27 K) 30 125 [some (.ref (ad s)), some (.int (nI j)), some (.int (sl_o z j)), some (.long (nof z (sl_a z j))), none, some (.long (nof z (sl_b z j))), none] [.int (nI j), .ref (ad (t + 3))] (0 + pg_mc 26 + pg_mc 26 + pg_mc 28) (0 + pg_ms 26 + pg_ms 26 + pg_ms 28))) := by
    intro c
    have R3 := R2.set_st hi (upd (sl_st z) j 0)
    have g7 : am_set q2 (ad (t + 2)) (.inl (.int, 150, .inl (upd (sl_st z) j 0))) (ad (t + 3)) = some (.inl (.long, 150, .inr (.inl (sl_num z)))) := R3.2.2.2.2.2.2.2.1
    refine ⟨(by first | decide | exact ⟨Nat.le_of_ble_eq_true rfl, Nat.le_of_ble_eq_true rfl, Nat.le_of_ble_eq_true rfl⟩), c_calc ?_⟩
    (show am_W G (am_M G (d + 2)) 27 K _ _ _ _ _ _; simp only [u_27_0, u_27_1, u_27_4, u_27_7, u_27_8, u_27_9, u_27_10, u_27_11, u_27_12, u_27_15, u_27_18, u_27_19, u_27_20, u_27_23, u_27_24, u_27_25, u_27_26, u_27_29, u_27_32, u_27_33, u_27_34, u_27_37, u_27_39, u_27_40, u_27_43, u_27_44, u_27_45, u_27_48, u_27_51, u_27_52, u_27_55, u_27_56, u_27_57, u_27_60, u_27_61, u_27_62, u_27_63, u_27_64, u_27_67, u_27_68, u_27_69, u_27_70, u_27_71, u_27_74, u_27_75, u_27_77, u_27_78, u_27_79, u_27_82, u_27_83, u_27_84, u_27_87, u_27_88, u_27_89, u_27_92, u_27_94, u_27_95, u_27_96, u_27_99, u_27_100, u_27_103, u_27_104, u_27_105, u_27_106, u_27_109, u_27_110, u_27_113, u_27_114, u_27_115, u_27_116, u_27_117, u_27_120, u_27_121, u_27_122, u_27_123, u_27_125, u_27_128, u_27_129, f_gf_some, f_gv_some, f_pf_some, f_ia_some, f_la_some, f_aa_some, f_is_some, f_ls_some, f_rc_some, f_at0, f_atS, f_st_0, f_st_1i, f_st_1r, f_st_1l, f_st_1n, f_st_S, f_s2_0, f_s2_1i, f_s2_1r, f_s2_1l, f_s2_1n, f_s2_S, true_and, and_true, List.set_cons_zero, List.set_cons_succ, List.length_cons, List.length_nil, Nat.reduceAdd, Nat.reduceEqDiff, reduceIte, Nat.left_eq_add, Nat.add_eq_left, Nat.reduceLT, g7, hv, hc, Option.toList, List.cons_append, List.nil_append])
    exact hn c _ (R3.set_num hi _) (fun p hp => by have := inSH.out hp; rw [s_ne hi (by omega), s_ne hi (by omega)]; exact FR2 p hp)
  have e01 : ¬ sl_told z j = 0 → sl_told z j = 1 := fun c => (h11 j).resolve_left c
  refine ⟨fun c => hT (Or.inl (e01 c)), fun c => ⟨fun c2 => hC (fun q => ?_), fun c2 => ⟨fun c3 => hC (fun q => ?_), fun c3 => hT (Or.inr ⟨Decidable.not_not.mp c2, (lg_cmp_eq _ _).mp (Decidable.not_not.mp c3)⟩)⟩⟩⟩
  · rcases q with q | q
    · exact c (by rw [q]; decide)
    · exact c2 q.1
  · rcases q with q | q
    · exact c (by rw [q]; decide)
    · exact c3 ((lg_cmp_eq _ _).mpr q.2)
theorem c_addSource (hi : am_inj ad) {v : Int64} (hS : SH ad h s f t n m w z) (hm : m < 60) (hk : ∀ h', SH ad h' s f t n (m + 1) w (sl_src' z (vp_updL (sl_src z) m v)) → (∀ p, ¬ inSH s f t p → h' (ad p) = h (ad p)) → K (.inl (some (.int (nI m)))) h') : am_M G (d + 1) 40 [.ref (ad s), .long v] h K := by
  refine n_40 ?_
  have hv : vp_in (nI m) 60 := vp_in_nI hm (by decide)
  have hc : (nI m).toNatClampNeg = m := nI_clamp (by omega)
  have h1 : nI m + 1 = nI (m + 1) := (nI_succ m).symm
  have h2 : nI (m + 1) - 1 = nI m := by rw [← h1]; exact Int32.add_sub_cancel _ _
  obtain ⟨⟨p1, p2, p3⟩, hF, hW, h3, h4, h5, h6, h7, h8, h9, h10, h11, h12⟩ := id hS
  simp (disch := omega) only [u_40_0, u_40_1, u_40_4, u_40_5, u_40_8, u_40_9, u_40_10, u_40_11, u_40_12, u_40_15, u_40_16, u_40_17, u_40_20, u_40_21, u_40_24, u_40_25, u_40_26, f_gf_some, f_gv_some, f_pf_some, f_ia_some, f_la_some, f_aa_some, f_is_some, f_ls_some, f_rc_some, f_at0, f_atS, f_st_0, f_st_1i, f_st_1r, f_st_1l, f_st_1n, f_st_S, f_s2_0, f_s2_1i, f_s2_1r, f_s2_1l, f_s2_1n, f_s2_S, true_and, and_true, List.set_cons_zero, List.set_cons_succ, List.length_cons, List.length_nil, Nat.reduceAdd, Nat.reduceEqDiff, reduceIte, Nat.left_eq_add, Nat.add_eq_left, Nat.reduceLT, h3, SHo, h4, hv, hc, s_ne hi, s_eq, h1, h2]
  exact hk _ ((hS.set_src hi _).set_m hi (m + 1)) (fun p hp => by have := inSH.out hp; rw [s_ne hi (by omega), s_ne hi (by omega)])
end Sh3

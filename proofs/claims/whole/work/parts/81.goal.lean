-- new objects are the class's and the reference's empty state
def GP (ad : Nat → Nat) (h : am_H) (k : Nat) (c : Nat → am_E) : Prop := ∀ p, p < k → h (ad p) = some (ent ad (c p))
def N00 : Nat → Nat × Nat × Nat := fun _ => (0, 0, 0)
def Z00 : Nat → Sl := fun _ => zS0
def C00 : Nat → Nat × FT × FT := fun _ => (0, zF0, zF0)
section Nw
variable {ad : Nat → Nat} {h : am_H} {k : Nat} {c : Nat → am_E}
theorem GP.get (A : GP ad h k c) {p : Nat} (hp : p < k) {e : am_E} (hc : c p = e) : h (ad p) = some (ent ad e) := by rw [A p hp, hc]
theorem isZ_0 : isZ z0 := fun _ => Or.inl rfl
theorem NF.fo (A : GP ad h k c) {f : Nat} (hf : f + 4 ≤ k) (hN : NF c f) : FO ad h f 0 z0 z0 z0 := ⟨A.get (by omega) hN.1, A.get (by omega) hN.2.1, A.get (by omega) hN.2.2.1, A.get (by omega) hN.2.2.2⟩
theorem NS.sh (A : GP ad h k c) {s f t : Nat} (hs : s < k) (hf : f + 4 ≤ k) (ht : t + 11 ≤ k) (ok : okP s f t) (hF : NF c f) (hN : NS c s f t) : SH ad h s f t 0 0 0 zS0 := by
  obtain ⟨h1, h2, h3, h4, h5, h6, h7, h8, h9⟩ := hN
  exact ⟨ok, hF.fo A hf, h6.fo A (by omega), A.get hs h1, A.get (by omega) h2, A.get (by omega) h3, A.get (by omega) h4, A.get (by omega) h5, A.get (by omega) h7, A.get (by omega) h8, A.get (by omega) h9, isZ_0, isZ_0⟩
theorem NO.cw (A : GP ad h 322 c) (hN : NO c) : CW ad h 0 0 zS0 0 0 N00 Z00 0 C00 0 z0 0 := by
  obtain ⟨h1, ⟨h2, h3, ⟨h4, ⟨g, h5, h6⟩, h7⟩, ⟨h8, h9, h10, h11, h12, ⟨w1, w2, w3, w4⟩⟩, ⟨g2, h13, h14⟩, h15⟩, h16⟩ := hN
  refine ⟨A.get (by decide) h1, h3.sh A (by decide) (by decide) (by decide) ⟨by decide, by decide, by decide⟩ h2, ⟨A.get (by decide) h4, ⟨_, A.get (by decide) h5, fun i hi => ?_⟩, fun i hi => ?_⟩, ⟨z0, z0, z0, 0, z0, 0, 0, 0, z0, z0, z0, ⟨A.get (by decide) h8, A.get (by decide) h9, A.get (by decide) h10, A.get (by decide) h11, A.get (by decide) h12, isZ_0, isZ_0⟩, ⟨A.get (by decide) w1, A.get (by decide) w2, A.get (by decide) w3, A.get (by decide) w4⟩, Or.inl rfl⟩, ⟨⟨_, A.get (by decide) h13, fun i hi => ?_⟩, fun i hi => ?_⟩, A.get (by decide) h16⟩
  · show (g i).map ad = some (ad (19 + 16 * i))
    rw [h6 i hi]; rfl
  · obtain ⟨x1, x2⟩ := h7 i hi
    exact NS.sh A (s := 19 + 16 * i) (f := 20 + 16 * i) (t := 24 + 16 * i) (by omega) (by omega) (by omega) ⟨by omega, by omega, by omega⟩ x1 x2
  · show (g2 i).map ad = some (ad (285 + 9 * i))
    rw [h14 i hi]; rfl
  · obtain ⟨x1, x2, x3⟩ := h15 i hi
    exact ⟨A.get (by omega) x1, x2.fo A (by omega), x3.fo A (by omega)⟩
theorem NM.rw (A : GP ad h 349 c) (hN : NM c) : RW ad h 0 0 0 zS0 Z00 0 0 C00 0 z0 0 := by
  refine ⟨fun _ => z0, fun _ => z0L, ⟨A.get (by decide) hN.1, fun k hk => ?_, fun k hk => ?_, isZ_0, isZ_0, isZ_0⟩, ⟨all9 (fun _ _ => rfl) (fun _ _ => rfl) (fun _ _ => rfl) (fun _ _ => rfl) (fun _ _ => rfl) (fun _ _ => rfl) (fun _ _ => rfl) (fun _ _ => rfl) (fun _ _ => rfl), all3 (fun _ _ => rfl) (fun _ _ => rfl) (fun _ _ => rfl), fun _ _ => rfl⟩, fun i hi => absurd hi (Nat.not_lt_zero i), fun u hu => absurd hu (Nat.not_lt_zero u), fun p hp => absurd hp (Nat.not_lt_zero p), fun i hi => absurd hi (Nat.not_lt_zero i)⟩
  · have hk2 : k = 0 ∨ k = 1 ∨ k = 2 ∨ k = 3 ∨ k = 4 ∨ k = 5 ∨ k = 6 ∨ k = 7 ∨ k = 8 ∨ k = 9 ∨ k = 10 ∨ k = 11 ∨ k = 12 ∨ k = 13 ∨ k = 14 ∨ k = 15 ∨ k = 16 ∨ k = 17 ∨ k = 18 ∨ k = 19 ∨ k = 20 ∨ k = 21 := by omega
    rcases hk2 with rfl | rfl | rfl | rfl | rfl | rfl | rfl | rfl | rfl | rfl | rfl | rfl | rfl | rfl | rfl | rfl | rfl | rfl | rfl | rfl | rfl | rfl
    · exact A.get (p := 323) (by decide) hN.2.1
    · exact A.get (p := 324) (by decide) hN.2.2.1
    · exact A.get (p := 325) (by decide) hN.2.2.2.1
    · exact A.get (p := 326) (by decide) hN.2.2.2.2.1
    · exact A.get (p := 327) (by decide) hN.2.2.2.2.2.1
    · exact A.get (p := 329) (by decide) hN.2.2.2.2.2.2.2.1
    · exact A.get (p := 330) (by decide) hN.2.2.2.2.2.2.2.2.1
    · exact A.get (p := 331) (by decide) hN.2.2.2.2.2.2.2.2.2.1
    · exact A.get (p := 332) (by decide) hN.2.2.2.2.2.2.2.2.2.2.1
    · exact A.get (p := 335) (by decide) hN.2.2.2.2.2.2.2.2.2.2.2.2.2.1
    · exact A.get (p := 337) (by decide) hN.2.2.2.2.2.2.2.2.2.2.2.2.2.2.2.1
    · exact A.get (p := 338) (by decide) hN.2.2.2.2.2.2.2.2.2.2.2.2.2.2.2.2.1
    · exact A.get (p := 339) (by decide) hN.2.2.2.2.2.2.2.2.2.2.2.2.2.2.2.2.2.1
    · exact A.get (p := 340) (by decide) hN.2.2.2.2.2.2.2.2.2.2.2.2.2.2.2.2.2.2.1
    · exact A.get (p := 341) (by decide) hN.2.2.2.2.2.2.2.2.2.2.2.2.2.2.2.2.2.2.2.1
    · exact A.get (p := 342) (by decide) hN.2.2.2.2.2.2.2.2.2.2.2.2.2.2.2.2.2.2.2.2.1
    · exact A.get (p := 343) (by decide) hN.2.2.2.2.2.2.2.2.2.2.2.2.2.2.2.2.2.2.2.2.2.1
    · exact A.get (p := 344) (by decide) hN.2.2.2.2.2.2.2.2.2.2.2.2.2.2.2.2.2.2.2.2.2.2.1
    · exact A.get (p := 345) (by decide) hN.2.2.2.2.2.2.2.2.2.2.2.2.2.2.2.2.2.2.2.2.2.2.2.1
    · exact A.get (p := 346) (by decide) hN.2.2.2.2.2.2.2.2.2.2.2.2.2.2.2.2.2.2.2.2.2.2.2.2.1
    · exact A.get (p := 347) (by decide) hN.2.2.2.2.2.2.2.2.2.2.2.2.2.2.2.2.2.2.2.2.2.2.2.2.2.1
    · exact A.get (p := 348) (by decide) hN.2.2.2.2.2.2.2.2.2.2.2.2.2.2.2.2.2.2.2.2.2.2.2.2.2.2
  · have hk2 : k = 0 ∨ k = 1 ∨ k = 2 ∨ k = 3 := by omega
    rcases hk2 with rfl | rfl | rfl | rfl
    · exact A.get (p := 328) (by decide) hN.2.2.2.2.2.2.1
    · exact A.get (p := 333) (by decide) hN.2.2.2.2.2.2.2.2.2.2.2.1
    · exact A.get (p := 334) (by decide) hN.2.2.2.2.2.2.2.2.2.2.2.2.1
    · exact A.get (p := 336) (by decide) hN.2.2.2.2.2.2.2.2.2.2.2.2.2.2.1
theorem JV.new : JV 0 0 zS0 0 0 N00 Z00 Z00 0 C00 0 := JV.none ⟨by decide, by decide, fun c hc => absurd hc (Nat.not_lt_zero c), by decide, by decide, fun i hi => ⟨by show 0 ≤ 150; decide, by show 0 ≤ 60; decide, by show 0 ≤ 150; decide⟩, by decide, fun i hi => by show 0 ≤ 150; decide, by decide⟩ (fun p hp => absurd hp (Nat.not_lt_zero p))
end Nw
theorem tsw_d {a : Int32} (h : ∀ k, k < 19 → ¬ a = nI k) : am_tsw 1239 0 18 #[92, 180, 260, 359, 458, 549, 562, 617, 673, 729, 797, 841, 952, 1008, 1064, 1077, 1145, 1158, 1214] 40 a = 1279 := by
  unfold am_tsw
  rw [if_pos ?_]
  · decide
  · refine Decidable.byContradiction fun c => ?_
    have c1 : ¬ a < 0 := fun q => c (Or.inl (by rw [Int32.lt_iff_toInt_lt] at q; exact q))
    obtain ⟨j, hj, rfl⟩ := nI_of c1
    rw [nI_toInt hj] at c
    exact h j (by omega) rfl
section Lp
variable {G : am_G} {d : Nat} {K : am_K} {ad : Nat → Nat}
set_option maxHeartbeats 4000000 in
theorem l_law (hi : am_inj ad) (hL : G.2.1 ≤ 3072) (hK : ∀ h, K (.inl (some (.int 1))) h) : ∀ r i h o5 o6 o7 nc ns, G.2.1 < i + 6 + 6 * r → i ≤ G.2.1 + 6 → nc ≤ 400 + i → ns ≤ 100000 + 3 * i → JE ad h → am_W G (am_M G (d + 8)) 129 K 23 [some (.ref G.1), some (.ref (ad 0)), some (.ref (ad 322)), some (.ref (ad 349)), some (.int (nI i)), o5, o6, o7] [] h nc ns := by
  have exit : ∀ i h o5 o6 o7 nc ns, i ≤ G.2.1 + 6 → G.2.1 < i + 6 → am_W G (am_M G (d + 8)) 129 K 23 [some (.ref G.1), some (.ref (ad 0)), some (.ref (ad 322)), some (.ref (ad 349)), some (.int (nI i)), o5, o6, o7] [] h nc ns := fun i h o5 o6 o7 nc ns hi2 hlt => by
    simp only [u_129_23, u_129_25, u_129_26, u_129_27, u_129_29, u_129_30, f_gf_some, f_gv_some, f_pf_some, f_ia_some, f_la_some, f_aa_some, f_is_some, f_ls_some, f_rc_some, f_at0, f_atS, f_st_0, f_st_1i, f_st_1r, f_st_1l, f_st_1n, f_st_S, f_s2_0, f_s2_1i, f_s2_1r, f_s2_1l, f_s2_1n, f_s2_S, true_and, and_true, List.set_cons_zero, List.set_cons_succ, List.length_cons, List.length_nil, Nat.reduceAdd, Nat.reduceEqDiff, reduceIte, Nat.left_eq_add, Nat.add_eq_left, Nat.reduceLT, u_129_1285, u_129_1286, eq_self, nz_1]
    refine am_br_t ?_ (hK h)
    show nI G.2.1 - nI 6 < nI i
    have e : (nI G.2.1 - nI 6).toInt = (G.2.1 : Int) - 6 := by
      rw [Int32.toInt_sub, nI_toInt (by omega), nI_toInt (by decide)]
      exact Int.bmod_eq_of_le (by omega) (by omega)
    rw [Int32.lt_iff_toInt_lt, e, nI_toInt (by omega)]
    omega
  intro r
  induction r with
  | zero => exact fun i h o5 o6 o7 nc ns h1 h2 _ _ _ => exit i h o5 o6 o7 nc ns h2 (by omega)
  | succ r ih =>
    intro i h o5 o6 o7 nc ns h1 h2 h3 h4 hJ
    by_cases c : G.2.1 < i + 6
    · exact exit i h o5 o6 o7 nc ns h2 c
    have hnext : ∀ h' o5 o6 o7 nc' ns', JE ad h' → nc' ≤ nc + 3 → ns' ≤ ns + 18 → am_W G (am_M G (d + 8)) 129 K 1279 [some (.ref G.1), some (.ref (ad 0)), some (.ref (ad 322)), some (.ref (ad 349)), some (.int (nI i)), o5, o6, o7] [] h' nc' ns' := fun h' o5 o6 o7 nc' ns' J' x1 x2 => by
      have e6 : nI i + Int32.ofInt 6 = nI (i + 6) := nI_add i 6
      simp only [u_129_1279, u_129_1282, f_gf_some, f_gv_some, f_pf_some, f_ia_some, f_la_some, f_aa_some, f_is_some, f_ls_some, f_rc_some, f_at0, f_atS, f_st_0, f_st_1i, f_st_1r, f_st_1l, f_st_1n, f_st_S, f_s2_0, f_s2_1i, f_s2_1r, f_s2_1l, f_s2_1n, f_s2_S, true_and, and_true, List.set_cons_zero, List.set_cons_succ, List.length_cons, List.length_nil, Nat.reduceAdd, Nat.reduceEqDiff, reduceIte, Nat.left_eq_add, Nat.add_eq_left, Nat.reduceLT, e6]
      exact ih (i + 6) h' o5 o6 o7 nc' ns' (by omega) (by omega) (by omega) (by omega) J'
    have hv : vp_in (nI i) G.2.1 := vp_in_nI (by omega) (by omega)
    simp only [u_129_23, u_129_25, u_129_26, u_129_27, u_129_29, u_129_30, u_129_33, u_129_34, u_129_36, u_129_37, u_129_39, u_129_40, f_gf_some, f_gv_some, f_pf_some, f_ia_some, f_la_some, f_aa_some, f_is_some, f_ls_some, f_rc_some, f_at0, f_atS, f_st_0, f_st_1i, f_st_1r, f_st_1l, f_st_1n, f_st_S, f_s2_0, f_s2_1i, f_s2_1r, f_s2_1l, f_s2_1n, f_s2_S, true_and, and_true, List.set_cons_zero, List.set_cons_succ, List.length_cons, List.length_nil, Nat.reduceAdd, Nat.reduceEqDiff, reduceIte, Nat.left_eq_add, Nat.add_eq_left, Nat.reduceLT, eq_self, hv]
    refine am_br_f ?_ ?_
    · show ¬ nI G.2.1 - nI 6 < nI i
      have e : (nI G.2.1 - nI 6).toInt = (G.2.1 : Int) - 6 := by
        rw [Int32.toInt_sub, nI_toInt (by omega), nI_toInt (by decide)]
        exact Int.bmod_eq_of_le (by omega) (by omega)
      rw [Int32.lt_iff_toInt_lt, e, nI_toInt (by omega)]
      omega
    generalize G.2.2 _ &&& _ = v
    by_cases e0 : v = nI 0
    · rw [e0, show am_tsw 1239 0 18 #[92, 180, 260, 359, 458, 549, 562, 617, 673, 729, 797, 841, 952, 1008, 1064, 1077, 1145, 1158, 1214] 40 (nI 0) = 132 by decide]
      exact w_source hi (by omega) hL (by omega) (by omega) hJ hnext
    by_cases e1 : v = nI 1
    · rw [e1, show am_tsw 1239 0 18 #[92, 180, 260, 359, 458, 549, 562, 617, 673, 729, 797, 841, 952, 1008, 1064, 1077, 1145, 1158, 1214] 40 (nI 1) = 220 by decide]
      exact w_cell hi (by omega) hL (by omega) (by omega) hJ hnext
    by_cases e2 : v = nI 2
    · rw [e2, show am_tsw 1239 0 18 #[92, 180, 260, 359, 458, 549, 562, 617, 673, 729, 797, 841, 952, 1008, 1064, 1077, 1145, 1158, 1214] 40 (nI 2) = 300 by decide]
      exact w_change hi (by omega) hL (by omega) (by omega) hJ hnext
    by_cases e3 : v = nI 3
    · rw [e3, show am_tsw 1239 0 18 #[92, 180, 260, 359, 458, 549, 562, 617, 673, 729, 797, 841, 952, 1008, 1064, 1077, 1145, 1158, 1214] 40 (nI 3) = 399 by decide]
      exact w_edit hi (by omega) hL (by omega) (by omega) hJ hnext
    by_cases e4 : v = nI 4
    · rw [e4, show am_tsw 1239 0 18 #[92, 180, 260, 359, 458, 549, 562, 617, 673, 729, 797, 841, 952, 1008, 1064, 1077, 1145, 1158, 1214] 40 (nI 4) = 498 by decide]
      exact w_fail hi (by omega) hL (by omega) (by omega) hJ hnext
    by_cases e5 : v = nI 5
    · rw [e5, show am_tsw 1239 0 18 #[92, 180, 260, 359, 458, 549, 562, 617, 673, 729, 797, 841, 952, 1008, 1064, 1077, 1145, 1158, 1214] 40 (nI 5) = 589 by decide]
      exact w_run hi (by omega) hL (by omega) (by omega) hJ hnext
    by_cases e6 : v = nI 6
    · rw [e6, show am_tsw 1239 0 18 #[92, 180, 260, 359, 458, 549, 562, 617, 673, 729, 797, 841, 952, 1008, 1064, 1077, 1145, 1158, 1214] 40 (nI 6) = 602 by decide]
      exact w_at hi (by omega) hL (by omega) (by omega) hJ hnext
    by_cases e7 : v = nI 7
    · rw [e7, show am_tsw 1239 0 18 #[92, 180, 260, 359, 458, 549, 562, 617, 673, 729, 797, 841, 952, 1008, 1064, 1077, 1145, 1158, 1214] 40 (nI 7) = 657 by decide]
      exact w_state hi (by omega) hL (by omega) (by omega) hJ hnext
    by_cases e8 : v = nI 8
    · rw [e8, show am_tsw 1239 0 18 #[92, 180, 260, 359, 458, 549, 562, 617, 673, 729, 797, 841, 952, 1008, 1064, 1077, 1145, 1158, 1214] 40 (nI 8) = 713 by decide]
      exact w_worked hi (by omega) hL (by omega) (by omega) hJ hnext
    by_cases e9 : v = nI 9
    · rw [e9, show am_tsw 1239 0 18 #[92, 180, 260, 359, 458, 549, 562, 617, 673, 729, 797, 841, 952, 1008, 1064, 1077, 1145, 1158, 1214] 40 (nI 9) = 769 by decide]
      exact w_formula hi (by omega) hL (by omega) (by omega) hJ hnext
    by_cases e10 : v = nI 10
    · rw [e10, show am_tsw 1239 0 18 #[92, 180, 260, 359, 458, 549, 562, 617, 673, 729, 797, 841, 952, 1008, 1064, 1077, 1145, 1158, 1214] 40 (nI 10) = 837 by decide]
      exact w_person hi (by omega) hL (by omega) (by omega) hJ hnext
    by_cases e11 : v = nI 11
    · rw [e11, show am_tsw 1239 0 18 #[92, 180, 260, 359, 458, 549, 562, 617, 673, 729, 797, 841, 952, 1008, 1064, 1077, 1145, 1158, 1214] 40 (nI 11) = 881 by decide]
      exact w_write hi (by omega) hL (by omega) (by omega) hJ hnext
    by_cases e12 : v = nI 12
    · rw [e12, show am_tsw 1239 0 18 #[92, 180, 260, 359, 458, 549, 562, 617, 673, 729, 797, 841, 952, 1008, 1064, 1077, 1145, 1158, 1214] 40 (nI 12) = 992 by decide]
      exact w_join hi (by omega) hL (by omega) (by omega) hJ hnext
    by_cases e13 : v = nI 13
    · rw [e13, show am_tsw 1239 0 18 #[92, 180, 260, 359, 458, 549, 562, 617, 673, 729, 797, 841, 952, 1008, 1064, 1077, 1145, 1158, 1214] 40 (nI 13) = 1048 by decide]
      exact w_edits hi (by omega) hL (by omega) (by omega) hJ hnext
    by_cases e14 : v = nI 14
    · rw [e14, show am_tsw 1239 0 18 #[92, 180, 260, 359, 458, 549, 562, 617, 673, 729, 797, 841, 952, 1008, 1064, 1077, 1145, 1158, 1214] 40 (nI 14) = 1104 by decide]
      exact w_undo hi (by omega) hL (by omega) (by omega) hJ hnext
    by_cases e15 : v = nI 15
    · rw [e15, show am_tsw 1239 0 18 #[92, 180, 260, 359, 458, 549, 562, 617, 673, 729, 797, 841, 952, 1008, 1064, 1077, 1145, 1158, 1214] 40 (nI 15) = 1117 by decide]
      exact w_uses hi (by omega) hL (by omega) (by omega) hJ hnext
    by_cases e16 : v = nI 16
    · rw [e16, show am_tsw 1239 0 18 #[92, 180, 260, 359, 458, 549, 562, 617, 673, 729, 797, 841, 952, 1008, 1064, 1077, 1145, 1158, 1214] 40 (nI 16) = 1185 by decide]
      exact w_circle hi (by omega) hL (by omega) (by omega) hJ hnext
    by_cases e17 : v = nI 17
    · rw [e17, show am_tsw 1239 0 18 #[92, 180, 260, 359, 458, 549, 562, 617, 673, 729, 797, 841, 952, 1008, 1064, 1077, 1145, 1158, 1214] 40 (nI 17) = 1198 by decide]
      exact w_circleAt hi (by omega) hL (by omega) (by omega) hJ hnext
    by_cases e18 : v = nI 18
    · rw [e18, show am_tsw 1239 0 18 #[92, 180, 260, 359, 458, 549, 562, 617, 673, 729, 797, 841, 952, 1008, 1064, 1077, 1145, 1158, 1214] 40 (nI 18) = 1254 by decide]
      exact w_count hi (by omega) hL (by omega) (by omega) hJ hnext
    rw [tsw_d (fun k hk q => ?_)]
    · exact hnext h o5 o6 o7 nc ns hJ (by omega) (by omega)
    · have hk2 : k = 0 ∨ k = 1 ∨ k = 2 ∨ k = 3 ∨ k = 4 ∨ k = 5 ∨ k = 6 ∨ k = 7 ∨ k = 8 ∨ k = 9 ∨ k = 10 ∨ k = 11 ∨ k = 12 ∨ k = 13 ∨ k = 14 ∨ k = 15 ∨ k = 16 ∨ k = 17 ∨ k = 18 := by omega
      rcases hk2 with rfl | rfl | rfl | rfl | rfl | rfl | rfl | rfl | rfl | rfl | rfl | rfl | rfl | rfl | rfl | rfl | rfl | rfl | rfl
      · exact e0 q
      · exact e1 q
      · exact e2 q
      · exact e3 q
      · exact e4 q
      · exact e5 q
      · exact e6 q
      · exact e7 q
      · exact e8 q
      · exact e9 q
      · exact e10 q
      · exact e11 q
      · exact e12 q
      · exact e13 q
      · exact e14 q
      · exact e15 q
      · exact e16 q
      · exact e17 q
      · exact e18 q
end Lp
set_option maxHeartbeats 4000000 in
theorem am_goal_ok : am_goal := by
  intro b L xs hL
  refine n_129 (d := 8) ?_
  have hw : am_words [] ≤ 8 := by decide
  have A0 : HP id (fun _ => none) 0 (fun _ => eI 0) := ⟨⟨fun i j => rfl, fun p hp => absurd hp (Nat.not_lt_zero p), fun p _ => rfl⟩, fun p hp => absurd hp (Nat.not_lt_zero p), fun p hp => absurd hp (Nat.not_lt_zero p)⟩
  refine a_obj (fs := [.null, .null, .null, .null, .int 0, .null, .int 0, .int 0]) e_129_0 (by decide) rfl (by simp) A0 (by decide) (by decide) (fun ad1 h1 A1 t1 => ?_)
  have hob1 : h1 (ad1 0) = some (.inr (0, [.null, .null, .null, .null, .int 0, .null, .int 0, .int 0])) := by rw [A1.2.1 0 (by omega), va_up_self]; rfl
  simp only [u_129_3, u_129_4, u_129_7, f_gf_some, f_gv_some, f_pf_some, f_ia_some, f_la_some, f_aa_some, f_is_some, f_ls_some, f_rc_some, f_at0, f_atS, f_st_0, f_st_1i, f_st_1r, f_st_1l, f_st_1n, f_st_S, f_s2_0, f_s2_1i, f_s2_1r, f_s2_1l, f_s2_1n, f_s2_S, true_and, and_true, List.set_cons_zero, List.set_cons_succ, List.length_cons, List.length_nil, Nat.reduceAdd, Nat.reduceEqDiff, reduceIte, Nat.left_eq_add, Nat.add_eq_left, Nat.reduceLT, hob1]
  refine ⟨⟨Nat.le_of_ble_eq_true rfl, by decide, by decide⟩, c_newO A1 (va_up_self _ _ _) rfl (fun ad2 h2 c2 A2 e2 N2 => ?_)⟩
  (show am_W (b, L, xs) (am_M (b, L, xs) 8) 129 am_KL _ _ _ _ _ _; simp only [u_129_3, u_129_4, u_129_7, f_gf_some, f_gv_some, f_pf_some, f_ia_some, f_la_some, f_aa_some, f_is_some, f_ls_some, f_rc_some, f_at0, f_atS, f_st_0, f_st_1i, f_st_1r, f_st_1l, f_st_1n, f_st_S, f_s2_0, f_s2_1i, f_s2_1r, f_s2_1l, f_s2_1n, f_s2_S, true_and, and_true, List.set_cons_zero, List.set_cons_succ, List.length_cons, List.length_nil, Nat.reduceAdd, Nat.reduceEqDiff, reduceIte, Nat.left_eq_add, Nat.add_eq_left, Nat.reduceLT, Option.toList, List.nil_append])
  refine a_obj (fs := [.int 0, .int 0, .int 0, .int 0, .null, .null, .null, .null, .null, .null, .null, .null, .null, .null, .null, .null, .null, .null, .int 0, .null, .null, .null, .null, .null, .null, .null, .int 0, .int 0, .null, .null, .null, .null, .null]) e_129_8 (by decide) rfl (by simp) A2 (by decide) (by decide) (fun ad3 h3 A3 t3 => ?_)
  have hob3 : h3 (ad3 322) = some (.inr (7, [.int 0, .int 0, .int 0, .int 0, .null, .null, .null, .null, .null, .null, .null, .null, .null, .null, .null, .null, .null, .null, .int 0, .null, .null, .null, .null, .null, .null, .null, .int 0, .int 0, .null, .null, .null, .null, .null])) := by rw [A3.2.1 322 (by omega), va_up_self]; rfl
  simp only [u_129_11, u_129_12, u_129_15, f_gf_some, f_gv_some, f_pf_some, f_ia_some, f_la_some, f_aa_some, f_is_some, f_ls_some, f_rc_some, f_at0, f_atS, f_st_0, f_st_1i, f_st_1r, f_st_1l, f_st_1n, f_st_S, f_s2_0, f_s2_1i, f_s2_1r, f_s2_1l, f_s2_1n, f_s2_S, true_and, and_true, List.set_cons_zero, List.set_cons_succ, List.length_cons, List.length_nil, Nat.reduceAdd, Nat.reduceEqDiff, reduceIte, Nat.left_eq_add, Nat.add_eq_left, Nat.reduceLT, hob3]
  refine ⟨⟨Nat.le_of_ble_eq_true rfl, by decide, by decide⟩, c_newM A3 (va_up_self _ _ _) rfl (fun ad4 h4 c4 A4 t4 e4 N4 => ?_)⟩
  (show am_W (b, L, xs) (am_M (b, L, xs) 8) 129 am_KL _ _ _ _ _ _; simp only [u_129_11, u_129_12, u_129_15, u_129_16, f_gf_some, f_gv_some, f_pf_some, f_ia_some, f_la_some, f_aa_some, f_is_some, f_ls_some, f_rc_some, f_at0, f_atS, f_st_0, f_st_1i, f_st_1r, f_st_1l, f_st_1n, f_st_S, f_s2_0, f_s2_1i, f_s2_1r, f_s2_1l, f_s2_1n, f_s2_S, true_and, and_true, List.set_cons_zero, List.set_cons_succ, List.length_cons, List.length_nil, Nat.reduceAdd, Nat.reduceEqDiff, reduceIte, Nat.left_eq_add, Nat.add_eq_left, Nat.reduceLT, Option.toList, List.nil_append])
  refine a_arr (N := 1) e_129_17 rfl (by decide) rfl A4 (by decide) (by decide) (by decide) (fun ad5 h5 A5 t5 => ?_)
  simp only [u_129_19, u_129_20, u_129_21, f_gf_some, f_gv_some, f_pf_some, f_ia_some, f_la_some, f_aa_some, f_is_some, f_ls_some, f_rc_some, f_at0, f_atS, f_st_0, f_st_1i, f_st_1r, f_st_1l, f_st_1n, f_st_S, f_s2_0, f_s2_1i, f_s2_1r, f_s2_1l, f_s2_1n, f_s2_S, true_and, and_true, List.set_cons_zero, List.set_cons_succ, List.length_cons, List.length_nil, Nat.reduceAdd, Nat.reduceEqDiff, reduceIte, Nat.left_eq_add, Nat.add_eq_left, Nat.reduceLT]
  have g1 : GP ad5 h5 322 c2 := fun p hp => by
    rw [A5.2.1 p (by omega), va_up_ne _ _ (by omega), e4 p hp, va_up_ne _ _ (by omega)]
  have g2 : GP ad5 h5 349 c4 := fun p hp => by
    rw [A5.2.1 p (by omega), va_up_ne _ _ (by omega)]
  have x0 : ad1 0 = ad5 0 := by rw [t5 0 (by omega), t4 0 (by omega), t3 0 (by omega), e2]
  have x1 : ad3 322 = ad5 322 := by rw [t5 322 (by omega), t4 322 (by omega)]
  have hout : h5 (ad5 349) = some (.inl (.long, 1, .inr (.inl z0L))) := by rw [A5.2.1 349 (by omega), va_up_self]; rfl
  rw [x0, x1]
  exact l_law (G := (b, L, xs)) (d := 0) A5.1.1 hL (fun _ => rfl) L 0 h5 none none none _ _ (by show L < _; omega) (by omega) (by decide) (by decide) ⟨0, 0, zS0, 0, 0, N00, Z00, Z00, 0, C00, 0, z0, 0, 0, z0L, JV.new, N2.cw g1, N4.rw g2, hout⟩

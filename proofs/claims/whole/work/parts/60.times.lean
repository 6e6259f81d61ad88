-- the reference's times
def cpI (A : Nat → Nat → Int32) (to fr c : Nat) : Nat → Nat → Int32 := fun k => if k < 10 then va_cpy (A k) (A k) (150 * fr) (150 * to) c else A k
def cpL (B : Nat → Nat → Int64) (to fr c e : Nat) : Nat → Nat → Int64 := fun k => if k < 3 then va_cpy (B k) (B k) (150 * fr) (150 * to) c else if k = 3 then va_cpy (B 3) (B 3) (60 * fr) (60 * to) e else B k
theorem cpy_step {f : Nat → Int32} {s d c L : Nat} (hd : s + L ≤ d ∨ d + L ≤ s) (hc : c < L) : upd (va_cpy f f s d c) (d + c) (va_cpy f f s d c (s + c)) = va_cpy f f s d (c + 1) := by
  funext x
  by_cases e : x = d + c
  · subst e
    rw [pk_us]
    unfold va_cpy
    rw [if_neg (by omega), if_pos (by omega)]
    congr 1; omega
  · rw [pk_un e]
    unfold va_cpy
    by_cases h : d ≤ x ∧ x < d + c
    · rw [if_pos h, if_pos (by omega)]
    · rw [if_neg h, if_neg (by omega)]
theorem cpy_stepL {f : Nat → Int64} {s d c L : Nat} (hd : s + L ≤ d ∨ d + L ≤ s) (hc : c < L) : vp_updL (va_cpy f f s d c) (d + c) (va_cpy f f s d c (s + c)) = va_cpy f f s d (c + 1) := by
  funext x
  by_cases e : x = d + c
  · subst e
    rw [pk_uLs]
    unfold va_cpy
    rw [if_neg (by omega), if_pos (by omega)]
    congr 1; omega
  · rw [pk_uLn e]
    unfold va_cpy
    by_cases h : d ≤ x ∧ x < d + c
    · rw [if_pos h, if_pos (by omega)]
    · rw [if_neg h, if_neg (by omega)]
theorem cpy_0 {α : Type} {f : Nat → α} {s d : Nat} : va_cpy f f s d 0 = f := by
  funext x
  unfold va_cpy
  rw [if_neg (by omega)]
theorem cpI_0 {A : Nat → Nat → Int32} {to fr : Nat} : cpI A to fr 0 = A := by
  funext k
  unfold cpI
  split
  · exact cpy_0
  · rfl
theorem cpL_0 {B : Nat → Nat → Int64} {to fr : Nat} : cpL B to fr 0 0 = B := by
  funext k
  unfold cpL
  split
  · exact cpy_0
  · split
    · rename_i q; rw [q]; exact cpy_0
    · rfl
theorem cpI_k {A : Nat → Nat → Int32} {to fr c k : Nat} (hk : k < 10) : cpI A to fr c k = va_cpy (A k) (A k) (150 * fr) (150 * to) c := by unfold cpI; rw [if_pos hk]
theorem cpL_k {B : Nat → Nat → Int64} {to fr c e k : Nat} (hk : k < 3) : cpL B to fr c e k = va_cpy (B k) (B k) (150 * fr) (150 * to) c := by unfold cpL; rw [if_pos hk]
theorem cpI_u {A : Nat → Nat → Int32} {to fr c k : Nat} (hd : fr ≠ to) (hc : c < 150) (hk : k < 10) : upd (cpI A to fr c k) (150 * to + c) (cpI A to fr c k (150 * fr + c)) = cpI A to fr (c + 1) k := by
  rw [cpI_k hk, cpI_k hk]; exact cpy_step (L := 150) (by omega) hc
theorem cpL_u {B : Nat → Nat → Int64} {to fr c k : Nat} (hd : fr ≠ to) (hc : c < 150) (hk : k < 3) : vp_updL (cpL B to fr c 0 k) (150 * to + c) (cpL B to fr c 0 k (150 * fr + c)) = cpL B to fr (c + 1) 0 k := by
  rw [cpL_k hk, cpL_k hk]; exact cpy_stepL (L := 150) (by omega) hc
/-- a row of rows, all but one written anew as they are -/
theorem vu_same {α : Type} {f g : Nat → α} {k : Nat} (h : ∀ j, j ≠ k → g j = f j) : va_up f k (g k) = g := by
  funext j
  by_cases e : j = k
  · subst e; exact va_up_self _ _ _
  · rw [va_up_ne _ _ e]; exact (h j e).symm
theorem cpI_chain {A : Nat → Nat → Int32} {to fr c : Nat} : va_up (va_up (va_up (va_up (va_up (va_up (va_up (va_up (va_up (va_up (cpI A to fr c) 0 (cpI A to fr (c + 1) 0)) 1 (cpI A to fr (c + 1) 1)) 2 (cpI A to fr (c + 1) 2)) 3 (cpI A to fr (c + 1) 3)) 4 (cpI A to fr (c + 1) 4)) 5 (cpI A to fr (c + 1) 5)) 6 (cpI A to fr (c + 1) 6)) 7 (cpI A to fr (c + 1) 7)) 8 (cpI A to fr (c + 1) 8)) 9 (cpI A to fr (c + 1) 9) = cpI A to fr (c + 1) := by
  refine vu_same (g := cpI A to fr (c + 1)) (fun j hj => ?_)
  by_cases e8 : j = 8
  · subst e8; rw [va_up_self]
  rw [va_up_ne _ _ e8]
  by_cases e7 : j = 7
  · subst e7; rw [va_up_self]
  rw [va_up_ne _ _ e7]
  by_cases e6 : j = 6
  · subst e6; rw [va_up_self]
  rw [va_up_ne _ _ e6]
  by_cases e5 : j = 5
  · subst e5; rw [va_up_self]
  rw [va_up_ne _ _ e5]
  by_cases e4 : j = 4
  · subst e4; rw [va_up_self]
  rw [va_up_ne _ _ e4]
  by_cases e3 : j = 3
  · subst e3; rw [va_up_self]
  rw [va_up_ne _ _ e3]
  by_cases e2 : j = 2
  · subst e2; rw [va_up_self]
  rw [va_up_ne _ _ e2]
  by_cases e1 : j = 1
  · subst e1; rw [va_up_self]
  rw [va_up_ne _ _ e1]
  by_cases e0 : j = 0
  · subst e0; rw [va_up_self]
  rw [va_up_ne _ _ e0]
  unfold cpI
  rw [if_neg (by omega), if_neg (by omega)]
theorem cpL_chain {B : Nat → Nat → Int64} {to fr c : Nat} : va_up (va_up (va_up (cpL B to fr c 0) 0 (cpL B to fr (c + 1) 0 0)) 1 (cpL B to fr (c + 1) 0 1)) 2 (cpL B to fr (c + 1) 0 2) = cpL B to fr (c + 1) 0 := by
  refine vu_same (g := cpL B to fr (c + 1) 0) (fun j hj => ?_)
  by_cases e1 : j = 1
  · subst e1; rw [va_up_self]
  rw [va_up_ne _ _ e1]
  by_cases e0 : j = 0
  · subst e0; rw [va_up_self]
  rw [va_up_ne _ _ e0]
  have e3 : ¬ j < 3 := by omega
  simp only [cpL, if_neg e3]
section Ti
variable {G : am_G} {d : Nat} {K : am_K} {ad : Nat → Nat} {t : Int32} {m n pc th wc : Nat} {wa : Int32} {A : Nat → Nat → Int32} {B : Nat → Nat → Int64}
set_option maxHeartbeats 4000000 in
theorem l_ct1 (hi : am_inj ad) {h0 : am_H} {to fr : Nat} (ht : to < 17) (hf : fr < 17) (hne : fr ≠ to)
    (hk : ∀ h v w, MD ad h t m n pc th wc wa (cpI A to fr 150) (cpL B to fr 150 0) → fr322 ad h0 h → am_W G (am_M G d) 94 K 215 [some (.ref (ad 322)), some (.int (nI to)), some (.int (nI fr)), some (.int (nI 150)), v, w] [] h 0 0) :
    ∀ (r c : Nat) (h : am_H) (v w : Option Value), c + r = 150 → MD ad h t m n pc th wc wa (cpI A to fr c) (cpL B to fr c 0) → fr322 ad h0 h → am_W G (am_M G d) 94 K 2 [some (.ref (ad 322)), some (.int (nI to)), some (.int (nI fr)), some (.int (nI c)), v, w] [] h 0 0 := by
  intro r
  induction r with
  | zero =>
    intro c h v w hr hM FR
    have e : c = 150 := by omega
    subst e
    simp only [u_94_0, u_94_1, u_94_2, u_94_3, u_94_6, u_94_9, u_94_12, u_94_13, u_94_14, u_94_15, u_94_16, u_94_18, u_94_21, u_94_22, u_94_23, u_94_24, u_94_25, u_94_27, u_94_28, u_94_31, u_94_33, u_94_34, u_94_37, u_94_39, u_94_40, u_94_41, u_94_42, u_94_45, u_94_47, u_94_48, u_94_51, u_94_53, u_94_54, u_94_55, u_94_56, u_94_59, u_94_61, u_94_62, u_94_65, u_94_67, u_94_68, u_94_69, u_94_70, u_94_73, u_94_75, u_94_76, u_94_79, u_94_81, u_94_82, u_94_83, u_94_84, u_94_87, u_94_89, u_94_90, u_94_93, u_94_95, u_94_96, u_94_97, u_94_98, u_94_101, u_94_103, u_94_104, u_94_107, u_94_109, u_94_110, u_94_111, u_94_112, u_94_115, u_94_117, u_94_118, u_94_121, u_94_123, u_94_124, u_94_125, u_94_126, u_94_129, u_94_131, u_94_132, u_94_135, u_94_137, u_94_138, u_94_139, u_94_140, u_94_143, u_94_145, u_94_146, u_94_149, u_94_151, u_94_152, u_94_153, u_94_154, u_94_157, u_94_159, u_94_160, u_94_163, u_94_165, u_94_166, u_94_167, u_94_168, u_94_171, u_94_173, u_94_174, u_94_177, u_94_179, u_94_180, u_94_181, u_94_182, u_94_185, u_94_187, u_94_188, u_94_191, u_94_193, u_94_194, u_94_195, u_94_196, u_94_199, u_94_201, u_94_202, u_94_205, u_94_207, u_94_208, u_94_209, u_94_212, u_94_216, u_94_217, u_94_218, u_94_220, u_94_223, u_94_224, u_94_227, u_94_229, u_94_230, u_94_231, u_94_232, u_94_233, u_94_234, u_94_237, u_94_239, u_94_240, u_94_241, u_94_242, u_94_243, u_94_244, u_94_245, u_94_248, u_94_251, f_gf_some, f_gv_some, f_pf_some, f_ia_some, f_la_some, f_aa_some, f_is_some, f_ls_some, f_rc_some, f_at0, f_atS, f_st_0, f_st_1i, f_st_1r, f_st_1l, f_st_1n, f_st_S, f_s2_0, f_s2_1i, f_s2_1r, f_s2_1l, f_s2_1n, f_s2_S, true_and, and_true, List.set_cons_zero, List.set_cons_succ, List.length_cons, List.length_nil, Nat.reduceAdd, Nat.reduceEqDiff, reduceIte, Nat.left_eq_add, Nat.add_eq_left, Nat.reduceLT]
    exact am_br_t (by decide) (hk h v w hM FR)
  | succ r ih =>
    intro c h v w hr hM FR
    have hv1 : vp_in (nI (150 * to + c)) 2550 := vp_in_nI (by omega) (by decide)
    have hc1 : (nI (150 * to + c)).toNatClampNeg = 150 * to + c := nI_clamp (by omega)
    have hv2 : vp_in (nI (150 * fr + c)) 2550 := vp_in_nI (by omega) (by decide)
    have hc2 : (nI (150 * fr + c)).toNatClampNeg = 150 * fr + c := nI_clamp (by omega)
    have z3 := hM.2.2.2.1
    have z8 := hM.2.2.2.2.1
    have z9 := hM.2.2.2.2.2
    have cI : ∀ k, k < 10 → upd (cpI A to fr c k) (150 * to + c) (cpI A to fr c k (150 * fr + c)) = cpI A to fr (c + 1) k := fun k hk => cpI_u hne (by omega) hk
    have cL : ∀ k, k < 3 → vp_updL (cpL B to fr c 0 k) (150 * to + c) (cpL B to fr c 0 k (150 * fr + c)) = cpL B to fr (c + 1) 0 k := fun k hk => cpL_u hne (by omega) hk
    have y3 : isZ (cpI A to fr (c + 1) 3) := by rw [← cI 3 (by decide)]; exact z3.upd _ (z3 _)
    have y8 : isZ (cpI A to fr (c + 1) 8) := by rw [← cI 8 (by decide)]; exact z8.upd _ (z8 _)
    have y9 : isZ (cpI A to fr (c + 1) 9) := by rw [← cI 9 (by decide)]; exact z9.upd _ (z9 _)
    rw [u_94_2]
    simp (disch := omega) only [u_94_0, u_94_1, u_94_3, u_94_6, u_94_9, u_94_12, u_94_13, u_94_14, u_94_15, u_94_16, u_94_18, u_94_21, u_94_22, u_94_23, u_94_24, u_94_25, u_94_27, u_94_28, u_94_31, u_94_33, u_94_34, u_94_37, u_94_39, u_94_40, u_94_41, u_94_42, u_94_45, u_94_47, u_94_48, u_94_51, u_94_53, u_94_54, u_94_55, u_94_56, u_94_59, u_94_61, u_94_62, u_94_65, u_94_67, u_94_68, u_94_69, u_94_70, u_94_73, u_94_75, u_94_76, u_94_79, u_94_81, u_94_82, u_94_83, u_94_84, u_94_87, u_94_89, u_94_90, u_94_93, u_94_95, u_94_96, u_94_97, u_94_98, u_94_101, u_94_103, u_94_104, u_94_107, u_94_109, u_94_110, u_94_111, u_94_112, u_94_115, u_94_117, u_94_118, u_94_121, u_94_123, u_94_124, u_94_125, u_94_126, u_94_129, u_94_131, u_94_132, u_94_135, u_94_137, u_94_138, u_94_139, u_94_140, u_94_143, u_94_145, u_94_146, u_94_149, u_94_151, u_94_152, u_94_153, u_94_154, u_94_157, u_94_159, u_94_160, u_94_163, u_94_165, u_94_166, u_94_167, u_94_168, u_94_171, u_94_173, u_94_174, u_94_177, u_94_179, u_94_180, u_94_181, u_94_182, u_94_185, u_94_187, u_94_188, u_94_191, u_94_193, u_94_194, u_94_195, u_94_196, u_94_199, u_94_201, u_94_202, u_94_205, u_94_207, u_94_208, u_94_209, u_94_212, u_94_216, u_94_217, u_94_218, u_94_220, u_94_223, u_94_224, u_94_227, u_94_229, u_94_230, u_94_231, u_94_232, u_94_233, u_94_234, u_94_237, u_94_239, u_94_240, u_94_241, u_94_242, u_94_243, u_94_244, u_94_245, u_94_248, u_94_251, f_gf_some, f_gv_some, f_pf_some, f_ia_some, f_la_some, f_aa_some, f_is_some, f_ls_some, f_rc_some, f_at0, f_atS, f_st_0, f_st_1i, f_st_1r, f_st_1l, f_st_1n, f_st_S, f_s2_0, f_s2_1i, f_s2_1r, f_s2_1l, f_s2_1n, f_s2_S, true_and, and_true, List.set_cons_zero, List.set_cons_succ, List.length_cons, List.length_nil, Nat.reduceAdd, Nat.reduceEqDiff, reduceIte, Nat.left_eq_add, Nat.add_eq_left, Nat.reduceLT, hM.1, MO, hM.a0, hM.a1, hM.a2, hM.a3, hM.a4, hM.a5, hM.a6, hM.a7, hM.a8, hM.a9, hM.a10, hM.a11, hM.a12, hM.a13, hM.a14, hM.a15, hM.a16, hM.a17, hM.a18, hM.a19, hM.a20, hM.a21, hM.b0, hM.b1, hM.b2, hM.b3, n150, nI_add, hv1, hc1, hv2, hc2, nar_z (z3 (150 * fr + c)), nar_z (z8 (150 * fr + c)), nar_z (z9 (150 * fr + c)), s_ne hi, s_eq, o1, i1]
    simp (disch := decide) only [cI, cL]
    have M1 := (((((((((((((hM.s0 hi (cpI A to fr (c + 1) 0)).s1 hi (cpI A to fr (c + 1) 1)).s2 hi (cpI A to fr (c + 1) 2)).s3 hi (cpI A to fr (c + 1) 3) y3).s4 hi (cpI A to fr (c + 1) 4)).l0 hi (cpL B to fr (c + 1) 0 0)).s5 hi (cpI A to fr (c + 1) 5)).s6 hi (cpI A to fr (c + 1) 6)).s7 hi (cpI A to fr (c + 1) 7)).s8 hi (cpI A to fr (c + 1) 8) y8).l1 hi (cpL B to fr (c + 1) 0 1)).l2 hi (cpL B to fr (c + 1) 0 2)).s9 hi (cpI A to fr (c + 1) 9) y9)
    rw [cpI_chain, cpL_chain] at M1
    refine am_br_f (nI_ge (b := 150) (by omega) (by decide)) (ih (c + 1) _ _ _ (by omega) M1 (fun q hq => ?_))
    rw [s_ne hi (by omega), s_ne hi (by omega), s_ne hi (by omega), s_ne hi (by omega), s_ne hi (by omega), s_ne hi (by omega), s_ne hi (by omega), s_ne hi (by omega), s_ne hi (by omega), s_ne hi (by omega), s_ne hi (by omega), s_ne hi (by omega), s_ne hi (by omega)]; exact FR q hq
theorem l_ct2 (hi : am_inj ad) {h0 : am_H} {to fr : Nat} {v w : Option Value} (ht : to < 17) (hf : fr < 17) (hne : fr ≠ to)
    (hk : ∀ h, MD ad h t m n pc th wc wa (cpI A to fr 150) (cpL B to fr 150 60) → fr322 ad h0 h → K (.inl none) h) :
    ∀ (r c : Nat) (h : am_H), c + r = 60 → MD ad h t m n pc th wc wa (cpI A to fr 150) (cpL B to fr 150 c) → fr322 ad h0 h → am_W G (am_M G d) 94 K 217 [some (.ref (ad 322)), some (.int (nI to)), some (.int (nI fr)), some (.int (nI c)), v, w] [] h 0 0 := by
  intro r
  induction r with
  | zero =>
    intro c h hr hM FR
    have e : c = 60 := by omega
    subst e
    simp only [u_94_0, u_94_1, u_94_2, u_94_3, u_94_6, u_94_9, u_94_12, u_94_13, u_94_14, u_94_15, u_94_16, u_94_18, u_94_21, u_94_22, u_94_23, u_94_24, u_94_25, u_94_27, u_94_28, u_94_31, u_94_33, u_94_34, u_94_37, u_94_39, u_94_40, u_94_41, u_94_42, u_94_45, u_94_47, u_94_48, u_94_51, u_94_53, u_94_54, u_94_55, u_94_56, u_94_59, u_94_61, u_94_62, u_94_65, u_94_67, u_94_68, u_94_69, u_94_70, u_94_73, u_94_75, u_94_76, u_94_79, u_94_81, u_94_82, u_94_83, u_94_84, u_94_87, u_94_89, u_94_90, u_94_93, u_94_95, u_94_96, u_94_97, u_94_98, u_94_101, u_94_103, u_94_104, u_94_107, u_94_109, u_94_110, u_94_111, u_94_112, u_94_115, u_94_117, u_94_118, u_94_121, u_94_123, u_94_124, u_94_125, u_94_126, u_94_129, u_94_131, u_94_132, u_94_135, u_94_137, u_94_138, u_94_139, u_94_140, u_94_143, u_94_145, u_94_146, u_94_149, u_94_151, u_94_152, u_94_153, u_94_154, u_94_157, u_94_159, u_94_160, u_94_163, u_94_165, u_94_166, u_94_167, u_94_168, u_94_171, u_94_173, u_94_174, u_94_177, u_94_179, u_94_180, u_94_181, u_94_182, u_94_185, u_94_187, u_94_188, u_94_191, u_94_193, u_94_194, u_94_195, u_94_196, u_94_199, u_94_201, u_94_202, u_94_205, u_94_207, u_94_208, u_94_209, u_94_212, u_94_215, u_94_216, u_94_217, u_94_218, u_94_220, u_94_223, u_94_224, u_94_227, u_94_229, u_94_230, u_94_231, u_94_232, u_94_233, u_94_234, u_94_237, u_94_239, u_94_240, u_94_241, u_94_242, u_94_243, u_94_244, u_94_245, u_94_248, u_94_251, f_gf_some, f_gv_some, f_pf_some, f_ia_some, f_la_some, f_aa_some, f_is_some, f_ls_some, f_rc_some, f_at0, f_atS, f_st_0, f_st_1i, f_st_1r, f_st_1l, f_st_1n, f_st_S, f_s2_0, f_s2_1i, f_s2_1r, f_s2_1l, f_s2_1n, f_s2_S, true_and, and_true, List.set_cons_zero, List.set_cons_succ, List.length_cons, List.length_nil, Nat.reduceAdd, Nat.reduceEqDiff, reduceIte, Nat.left_eq_add, Nat.add_eq_left, Nat.reduceLT]
    exact am_br_t (by decide) (hk h hM FR)
  | succ r ih =>
    intro c h hr hM FR
    have hv1 : vp_in (nI (60 * to + c)) 1020 := vp_in_nI (by omega) (by decide)
    have hc1 : (nI (60 * to + c)).toNatClampNeg = 60 * to + c := nI_clamp (by omega)
    have hv2 : vp_in (nI (60 * fr + c)) 1020 := vp_in_nI (by omega) (by decide)
    have hc2 : (nI (60 * fr + c)).toNatClampNeg = 60 * fr + c := nI_clamp (by omega)
    rw [u_94_217]
    simp (disch := omega) only [u_94_0, u_94_1, u_94_2, u_94_3, u_94_6, u_94_9, u_94_12, u_94_13, u_94_14, u_94_15, u_94_16, u_94_18, u_94_21, u_94_22, u_94_23, u_94_24, u_94_25, u_94_27, u_94_28, u_94_31, u_94_33, u_94_34, u_94_37, u_94_39, u_94_40, u_94_41, u_94_42, u_94_45, u_94_47, u_94_48, u_94_51, u_94_53, u_94_54, u_94_55, u_94_56, u_94_59, u_94_61, u_94_62, u_94_65, u_94_67, u_94_68, u_94_69, u_94_70, u_94_73, u_94_75, u_94_76, u_94_79, u_94_81, u_94_82, u_94_83, u_94_84, u_94_87, u_94_89, u_94_90, u_94_93, u_94_95, u_94_96, u_94_97, u_94_98, u_94_101, u_94_103, u_94_104, u_94_107, u_94_109, u_94_110, u_94_111, u_94_112, u_94_115, u_94_117, u_94_118, u_94_121, u_94_123, u_94_124, u_94_125, u_94_126, u_94_129, u_94_131, u_94_132, u_94_135, u_94_137, u_94_138, u_94_139, u_94_140, u_94_143, u_94_145, u_94_146, u_94_149, u_94_151, u_94_152, u_94_153, u_94_154, u_94_157, u_94_159, u_94_160, u_94_163, u_94_165, u_94_166, u_94_167, u_94_168, u_94_171, u_94_173, u_94_174, u_94_177, u_94_179, u_94_180, u_94_181, u_94_182, u_94_185, u_94_187, u_94_188, u_94_191, u_94_193, u_94_194, u_94_195, u_94_196, u_94_199, u_94_201, u_94_202, u_94_205, u_94_207, u_94_208, u_94_209, u_94_212, u_94_215, u_94_216, u_94_218, u_94_220, u_94_223, u_94_224, u_94_227, u_94_229, u_94_230, u_94_231, u_94_232, u_94_233, u_94_234, u_94_237, u_94_239, u_94_240, u_94_241, u_94_242, u_94_243, u_94_244, u_94_245, u_94_248, u_94_251, f_gf_some, f_gv_some, f_pf_some, f_ia_some, f_la_some, f_aa_some, f_is_some, f_ls_some, f_rc_some, f_at0, f_atS, f_st_0, f_st_1i, f_st_1r, f_st_1l, f_st_1n, f_st_S, f_s2_0, f_s2_1i, f_s2_1r, f_s2_1l, f_s2_1n, f_s2_S, true_and, and_true, List.set_cons_zero, List.set_cons_succ, List.length_cons, List.length_nil, Nat.reduceAdd, Nat.reduceEqDiff, reduceIte, Nat.left_eq_add, Nat.add_eq_left, Nat.reduceLT, hM.1, MO, hM.a0, hM.a1, hM.a2, hM.a3, hM.a4, hM.a5, hM.a6, hM.a7, hM.a8, hM.a9, hM.a10, hM.a11, hM.a12, hM.a13, hM.a14, hM.a15, hM.a16, hM.a17, hM.a18, hM.a19, hM.a20, hM.a21, hM.b0, hM.b1, hM.b2, hM.b3, n60, nI_add, hv1, hc1, hv2, hc2, s_ne hi, s_eq, o1, i1]
    have e3 : ∀ x, cpL B to fr 150 x 3 = va_cpy (B 3) (B 3) (60 * fr) (60 * to) x := fun x => by unfold cpL; rw [if_neg (by decide), if_pos rfl]
    have cL : vp_updL (cpL B to fr 150 c 3) (60 * to + c) (cpL B to fr 150 c 3 (60 * fr + c)) = cpL B to fr 150 (c + 1) 3 := by rw [e3, e3]; exact cpy_stepL (L := 60) (by omega) (by omega)
    have M1 := hM.l3 hi (cpL B to fr 150 (c + 1) 3)
    have e4 : va_up (cpL B to fr 150 c) 3 (cpL B to fr 150 (c + 1) 3) = cpL B to fr 150 (c + 1) := vu_same (g := cpL B to fr 150 (c + 1)) (fun j hj => by unfold cpL; rw [if_neg hj, if_neg hj])
    rw [e4] at M1
    rw [cL]
    exact am_br_f (nI_ge (b := 60) (by omega) (by decide)) (ih (c + 1) _ (by omega) M1 (fun q hq => (s_ne hi (by omega)).trans (FR q hq)))
theorem r_copyTime (hi : am_inj ad) {h : am_H} {to fr : Nat} (ht : to < 17) (hf : fr < 17) (hne : fr ≠ to) (hM : MD ad h t m n pc th wc wa A B)
    (hk : ∀ h', MD ad h' t m n pc th wc wa (cpI A to fr 150) (cpL B to fr 150 60) → fr322 ad h h' → K (.inl none) h') : am_M G (d + 1) 94 [.ref (ad 322), .int (nI to), .int (nI fr)] h K := by
  refine n_94 ?_
  simp only [u_94_0, u_94_1, u_94_3, u_94_6, u_94_9, u_94_12, u_94_13, u_94_14, u_94_15, u_94_16, u_94_18, u_94_21, u_94_22, u_94_23, u_94_24, u_94_25, u_94_27, u_94_28, u_94_31, u_94_33, u_94_34, u_94_37, u_94_39, u_94_40, u_94_41, u_94_42, u_94_45, u_94_47, u_94_48, u_94_51, u_94_53, u_94_54, u_94_55, u_94_56, u_94_59, u_94_61, u_94_62, u_94_65, u_94_67, u_94_68, u_94_69, u_94_70, u_94_73, u_94_75, u_94_76, u_94_79, u_94_81, u_94_82, u_94_83, u_94_84, u_94_87, u_94_89, u_94_90, u_94_93, u_94_95, u_94_96, u_94_97, u_94_98, u_94_101, u_94_103, u_94_104, u_94_107, u_94_109, u_94_110, u_94_111, u_94_112, u_94_115, u_94_117, u_94_118, u_94_121, u_94_123, u_94_124, u_94_125, u_94_126, u_94_129, u_94_131, u_94_132, u_94_135, u_94_137, u_94_138, u_94_139, u_94_140, u_94_143, u_94_145, u_94_146, u_94_149, u_94_151, u_94_152, u_94_153, u_94_154, u_94_157, u_94_159, u_94_160, u_94_163, u_94_165, u_94_166, u_94_167, u_94_168, u_94_171, u_94_173, u_94_174, u_94_177, u_94_179, u_94_180, u_94_181, u_94_182, u_94_185, u_94_187, u_94_188, u_94_191, u_94_193, u_94_194, u_94_195, u_94_196, u_94_199, u_94_201, u_94_202, u_94_205, u_94_207, u_94_208, u_94_209, u_94_212, u_94_215, u_94_216, u_94_217, u_94_218, u_94_220, u_94_223, u_94_224, u_94_227, u_94_229, u_94_230, u_94_231, u_94_232, u_94_233, u_94_234, u_94_237, u_94_239, u_94_240, u_94_241, u_94_242, u_94_243, u_94_244, u_94_245, u_94_248, u_94_251, f_gf_some, f_gv_some, f_pf_some, f_ia_some, f_la_some, f_aa_some, f_is_some, f_ls_some, f_rc_some, f_at0, f_atS, f_st_0, f_st_1i, f_st_1r, f_st_1l, f_st_1n, f_st_S, f_s2_0, f_s2_1i, f_s2_1r, f_s2_1l, f_s2_1n, f_s2_S, true_and, and_true, List.set_cons_zero, List.set_cons_succ, List.length_cons, List.length_nil, Nat.reduceAdd, Nat.reduceEqDiff, reduceIte, Nat.left_eq_add, Nat.add_eq_left, Nat.reduceLT]
  have hM0 : MD ad h t m n pc th wc wa (cpI A to fr 0) (cpL B to fr 0 0) := by rw [cpI_0, cpL_0]; exact hM
  refine l_ct1 (h0 := h) hi ht hf hne (fun h1 v w M1 FR => ?_) 150 0 h none none (by omega) hM0 (fun _ _ => rfl)
  simp only [u_94_0, u_94_1, u_94_2, u_94_3, u_94_6, u_94_9, u_94_12, u_94_13, u_94_14, u_94_15, u_94_16, u_94_18, u_94_21, u_94_22, u_94_23, u_94_24, u_94_25, u_94_27, u_94_28, u_94_31, u_94_33, u_94_34, u_94_37, u_94_39, u_94_40, u_94_41, u_94_42, u_94_45, u_94_47, u_94_48, u_94_51, u_94_53, u_94_54, u_94_55, u_94_56, u_94_59, u_94_61, u_94_62, u_94_65, u_94_67, u_94_68, u_94_69, u_94_70, u_94_73, u_94_75, u_94_76, u_94_79, u_94_81, u_94_82, u_94_83, u_94_84, u_94_87, u_94_89, u_94_90, u_94_93, u_94_95, u_94_96, u_94_97, u_94_98, u_94_101, u_94_103, u_94_104, u_94_107, u_94_109, u_94_110, u_94_111, u_94_112, u_94_115, u_94_117, u_94_118, u_94_121, u_94_123, u_94_124, u_94_125, u_94_126, u_94_129, u_94_131, u_94_132, u_94_135, u_94_137, u_94_138, u_94_139, u_94_140, u_94_143, u_94_145, u_94_146, u_94_149, u_94_151, u_94_152, u_94_153, u_94_154, u_94_157, u_94_159, u_94_160, u_94_163, u_94_165, u_94_166, u_94_167, u_94_168, u_94_171, u_94_173, u_94_174, u_94_177, u_94_179, u_94_180, u_94_181, u_94_182, u_94_185, u_94_187, u_94_188, u_94_191, u_94_193, u_94_194, u_94_195, u_94_196, u_94_199, u_94_201, u_94_202, u_94_205, u_94_207, u_94_208, u_94_209, u_94_212, u_94_215, u_94_216, u_94_218, u_94_220, u_94_223, u_94_224, u_94_227, u_94_229, u_94_230, u_94_231, u_94_232, u_94_233, u_94_234, u_94_237, u_94_239, u_94_240, u_94_241, u_94_242, u_94_243, u_94_244, u_94_245, u_94_248, u_94_251, f_gf_some, f_gv_some, f_pf_some, f_ia_some, f_la_some, f_aa_some, f_is_some, f_ls_some, f_rc_some, f_at0, f_atS, f_st_0, f_st_1i, f_st_1r, f_st_1l, f_st_1n, f_st_S, f_s2_0, f_s2_1i, f_s2_1r, f_s2_1l, f_s2_1n, f_s2_S, true_and, and_true, List.set_cons_zero, List.set_cons_succ, List.length_cons, List.length_nil, Nat.reduceAdd, Nat.reduceEqDiff, reduceIte, Nat.left_eq_add, Nat.add_eq_left, Nat.reduceLT]
  exact l_ct2 (h0 := h) hi ht hf hne hk 60 0 h1 (by omega) M1 FR
end Ti
theorem cpI_in {A : Nat → Nat → Int32} {to fr k i : Nat} (hk : k < 10) (hi : i < 150) : cpI A to fr 150 k (150 * to + i) = A k (150 * fr + i) := by
  rw [cpI_k hk]; unfold va_cpy; rw [if_pos (by omega)]; congr 1; omega
theorem cpI_out {A : Nat → Nat → Int32} {to fr k x : Nat} (hx : x < 150 * to ∨ 150 * to + 150 ≤ x) : cpI A to fr 150 k x = A k x := by
  unfold cpI
  split
  · unfold va_cpy; rw [if_neg (by omega)]
  · rfl
theorem cpI_hi {A : Nat → Nat → Int32} {to fr c k : Nat} (hk : 10 ≤ k) : cpI A to fr c k = A k := by unfold cpI; rw [if_neg (by omega)]
theorem Rq.copy {A : Nat → Nat → Int32} {B : Nat → Nat → Int64} {to fr : Nat} {z : Sl} (h : Rq A B fr z) : Rq (cpI A to fr 150) (cpL B to fr 150 60) to z := by
  obtain ⟨h1, h2, h3⟩ := h
  refine ⟨fun k hk i hi => ?_, fun k hk i hi => ?_, fun i hi => ?_⟩
  · rw [cpI_in (by omega) hi]; exact h1 k hk i hi
  · rw [cpL_k hk]; unfold va_cpy; rw [if_pos (by omega), show 150 * fr + (150 * to + i - 150 * to) = 150 * fr + i by omega]; exact h2 k hk i hi
  · unfold cpL
    rw [if_neg (by decide), if_pos rfl]; unfold va_cpy; rw [if_pos (by omega), show 60 * fr + (60 * to + i - 60 * to) = 60 * fr + i by omega]; exact h3 i hi
theorem Rq.copy_ne {A : Nat → Nat → Int32} {B : Nat → Nat → Int64} {to fr u : Nat} {z : Sl} (h : Rq A B u z) (hu : u ≠ to) : Rq (cpI A to fr 150) (cpL B to fr 150 60) u z := by
  obtain ⟨h1, h2, h3⟩ := h
  refine ⟨fun k hk i hi => ?_, fun k hk i hi => ?_, fun i hi => ?_⟩
  · rw [cpI_out (by omega)]; exact h1 k hk i hi
  · rw [cpL_k hk]; unfold va_cpy; rw [if_neg (by omega)]; exact h2 k hk i hi
  · unfold cpL
    rw [if_neg (by decide), if_pos rfl]; unfold va_cpy; rw [if_neg (by omega)]; exact h3 i hi
theorem Wq.copy {A : Nat → Nat → Int32} {n to fr : Nat} {z : Sl} (h : Wq n A fr z) (hn : n ≤ 150) : Wq n (cpI A to fr 150) to z := fun i hi hs => by rw [cpI_in (by decide) (by omega)]; exact h i hi hs
theorem Wq.copy_ne {A : Nat → Nat → Int32} {n to fr u : Nat} {z : Sl} (h : Wq n A u z) (hn : n ≤ 150) (hu : u ≠ to) : Wq n (cpI A to fr 150) u z := fun i hi hs => by rw [cpI_out (by omega)]; exact h i hi hs
theorem RC.copy {A : Nat → Nat → Int32} {to fr pc : Nat} {C : Nat → Nat × FT × FT} (h : RC A pc C) : RC (cpI A to fr 150) pc C := by
  intro p hp
  rw [cpI_hi (by decide), cpI_hi (by decide), cpI_hi (by decide), cpI_hi (by decide), cpI_hi (by decide), cpI_hi (by decide), cpI_hi (by decide)]
  exact h p hp
